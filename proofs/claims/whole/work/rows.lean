section
-- ===== PART A: goes FIRST, ahead of the names: the tables' words, and 'selects' of the private methods out of them =====
/-- a private method of a class that the tables say can be made, by its rows of tables_1 -/
def lw_okq (q : MethodName × Nat) : Prop := (q.1.cls ≠ "java/lang/invoke/MethodHandle" ∧ q.1.cls ≠ "java/lang/invoke/VarHandle") ∧ Cond.instantiable q.1.cls q.2 ∈ tables_1 ∧ Cond.privateMethod q.1 ∈ tables_1 ∧ Cond.instanceMethod q.1 ∈ tables_1
theorem lw_p0 : lw_okq (⟨"ParityRow", "isBlock", "(I)Z"⟩, 10) := ⟨⟨by decide +kernel, by decide +kernel⟩, List.mem_of_getElem? (i := 14) (by decide +kernel), List.mem_of_getElem? (i := 151) (by decide +kernel), List.mem_of_getElem? (i := 152) (by decide +kernel)⟩
theorem lw_p1 : lw_okq (⟨"ParityRow", "memberOf", "(II)I"⟩, 10) := ⟨⟨by decide +kernel, by decide +kernel⟩, List.mem_of_getElem? (i := 14) (by decide +kernel), List.mem_of_getElem? (i := 155) (by decide +kernel), List.mem_of_getElem? (i := 156) (by decide +kernel)⟩
theorem lw_p2 : lw_okq (⟨"ParityRow", "parityMember", "(I)I"⟩, 10) := ⟨⟨by decide +kernel, by decide +kernel⟩, List.mem_of_getElem? (i := 14) (by decide +kernel), List.mem_of_getElem? (i := 159) (by decide +kernel), List.mem_of_getElem? (i := 160) (by decide +kernel)⟩
theorem lw_p3 : lw_okq (⟨"ParityRow", "writeStripe", "(IIII)I"⟩, 10) := ⟨⟨by decide +kernel, by decide +kernel⟩, List.mem_of_getElem? (i := 14) (by decide +kernel), List.mem_of_getElem? (i := 173) (by decide +kernel), List.mem_of_getElem? (i := 174) (by decide +kernel)⟩
theorem lw_p4 : lw_okq (⟨"ParityRow$Journal", "made", "()LParityRow$Entry;"⟩, 6) := ⟨⟨by decide +kernel, by decide +kernel⟩, List.mem_of_getElem? (i := 59) (by decide +kernel), List.mem_of_getElem? (i := 177) (by decide +kernel), List.mem_of_getElem? (i := 178) (by decide +kernel)⟩
theorem lw_p5 : lw_okq (⟨"ParityRow$Journal", "entry", "(I)LParityRow$Entry;"⟩, 6) := ⟨⟨by decide +kernel, by decide +kernel⟩, List.mem_of_getElem? (i := 59) (by decide +kernel), List.mem_of_getElem? (i := 181) (by decide +kernel), List.mem_of_getElem? (i := 182) (by decide +kernel)⟩
theorem lw_p6 : lw_okq (⟨"ParityRow$Entry", "begin", "(I)V"⟩, 4) := ⟨⟨by decide +kernel, by decide +kernel⟩, List.mem_of_getElem? (i := 66) (by decide +kernel), List.mem_of_getElem? (i := 185) (by decide +kernel), List.mem_of_getElem? (i := 186) (by decide +kernel)⟩
theorem lw_p7 : lw_okq (⟨"ParityRow$Entry", "addDatum", "(II)V"⟩, 4) := ⟨⟨by decide +kernel, by decide +kernel⟩, List.mem_of_getElem? (i := 66) (by decide +kernel), List.mem_of_getElem? (i := 189) (by decide +kernel), List.mem_of_getElem? (i := 190) (by decide +kernel)⟩
theorem lw_p8 : lw_okq (⟨"ParityRow", "chooseWay", "(II)I"⟩, 10) := ⟨⟨by decide +kernel, by decide +kernel⟩, List.mem_of_getElem? (i := 14) (by decide +kernel), List.mem_of_getElem? (i := 193) (by decide +kernel), List.mem_of_getElem? (i := 194) (by decide +kernel)⟩
theorem lw_p9 : lw_okq (⟨"ParityRow", "allData", "()I"⟩, 10) := ⟨⟨by decide +kernel, by decide +kernel⟩, List.mem_of_getElem? (i := 14) (by decide +kernel), List.mem_of_getElem? (i := 197) (by decide +kernel), List.mem_of_getElem? (i := 198) (by decide +kernel)⟩
theorem lw_p10 : lw_okq (⟨"ParityRow$Disk", "isOn", "(I)Z"⟩, 6) := ⟨⟨by decide +kernel, by decide +kernel⟩, List.mem_of_getElem? (i := 26) (by decide +kernel), List.mem_of_getElem? (i := 201) (by decide +kernel), List.mem_of_getElem? (i := 202) (by decide +kernel)⟩
theorem lw_p11 : lw_okq (⟨"ParityRow", "needed", "(II)I"⟩, 10) := ⟨⟨by decide +kernel, by decide +kernel⟩, List.mem_of_getElem? (i := 14) (by decide +kernel), List.mem_of_getElem? (i := 205) (by decide +kernel), List.mem_of_getElem? (i := 206) (by decide +kernel)⟩
theorem lw_p12 : lw_okq (⟨"ParityRow", "haveNewest", "(II)Z"⟩, 10) := ⟨⟨by decide +kernel, by decide +kernel⟩, List.mem_of_getElem? (i := 14) (by decide +kernel), List.mem_of_getElem? (i := 209) (by decide +kernel), List.mem_of_getElem? (i := 210) (by decide +kernel)⟩
theorem lw_p13 : lw_okq (⟨"ParityRow", "isNewestNone", "(II)Z"⟩, 10) := ⟨⟨by decide +kernel, by decide +kernel⟩, List.mem_of_getElem? (i := 14) (by decide +kernel), List.mem_of_getElem? (i := 213) (by decide +kernel), List.mem_of_getElem? (i := 214) (by decide +kernel)⟩
theorem lw_p14 : lw_okq (⟨"ParityRow$Journal", "latestWith", "(II)LParityRow$Entry;"⟩, 6) := ⟨⟨by decide +kernel, by decide +kernel⟩, List.mem_of_getElem? (i := 59) (by decide +kernel), List.mem_of_getElem? (i := 217) (by decide +kernel), List.mem_of_getElem? (i := 218) (by decide +kernel)⟩
theorem lw_p15 : lw_okq (⟨"ParityRow$Entry", "has", "(I)Z"⟩, 4) := ⟨⟨by decide +kernel, by decide +kernel⟩, List.mem_of_getElem? (i := 66) (by decide +kernel), List.mem_of_getElem? (i := 221) (by decide +kernel), List.mem_of_getElem? (i := 222) (by decide +kernel)⟩
def lw_privs_1 : List (MethodName × Nat) := [(⟨"ParityRow", "isBlock", "(I)Z"⟩, 10), (⟨"ParityRow", "memberOf", "(II)I"⟩, 10), (⟨"ParityRow", "parityMember", "(I)I"⟩, 10), (⟨"ParityRow", "writeStripe", "(IIII)I"⟩, 10), (⟨"ParityRow$Journal", "made", "()LParityRow$Entry;"⟩, 6), (⟨"ParityRow$Journal", "entry", "(I)LParityRow$Entry;"⟩, 6), (⟨"ParityRow$Entry", "begin", "(I)V"⟩, 4), (⟨"ParityRow$Entry", "addDatum", "(II)V"⟩, 4), (⟨"ParityRow", "chooseWay", "(II)I"⟩, 10), (⟨"ParityRow", "allData", "()I"⟩, 10), (⟨"ParityRow$Disk", "isOn", "(I)Z"⟩, 6), (⟨"ParityRow", "needed", "(II)I"⟩, 10), (⟨"ParityRow", "haveNewest", "(II)Z"⟩, 10), (⟨"ParityRow", "isNewestNone", "(II)Z"⟩, 10), (⟨"ParityRow$Journal", "latestWith", "(II)LParityRow$Entry;"⟩, 6), (⟨"ParityRow$Entry", "has", "(I)Z"⟩, 4)]
theorem lw_r1 : ∀ q ∈ lw_privs_1, lw_okq q := List.forall_mem_cons.mpr ⟨lw_p0, List.forall_mem_cons.mpr ⟨lw_p1, List.forall_mem_cons.mpr ⟨lw_p2, List.forall_mem_cons.mpr ⟨lw_p3, List.forall_mem_cons.mpr ⟨lw_p4, List.forall_mem_cons.mpr ⟨lw_p5, List.forall_mem_cons.mpr ⟨lw_p6, List.forall_mem_cons.mpr ⟨lw_p7, List.forall_mem_cons.mpr ⟨lw_p8, List.forall_mem_cons.mpr ⟨lw_p9, List.forall_mem_cons.mpr ⟨lw_p10, List.forall_mem_cons.mpr ⟨lw_p11, List.forall_mem_cons.mpr ⟨lw_p12, List.forall_mem_cons.mpr ⟨lw_p13, List.forall_mem_cons.mpr ⟨lw_p14, List.forall_mem_cons.mpr ⟨lw_p15, fun _ h => absurd h List.not_mem_nil⟩⟩⟩⟩⟩⟩⟩⟩⟩⟩⟩⟩⟩⟩⟩⟩
theorem lw_p16 : lw_okq (⟨"ParityRow$Disk", "isThere", "(I)Z"⟩, 6) := ⟨⟨by decide +kernel, by decide +kernel⟩, List.mem_of_getElem? (i := 26) (by decide +kernel), List.mem_of_getElem? (i := 225) (by decide +kernel), List.mem_of_getElem? (i := 226) (by decide +kernel)⟩
theorem lw_p17 : lw_okq (⟨"ParityRow", "addParity", "(LParityRow$Entry;)V"⟩, 10) := ⟨⟨by decide +kernel, by decide +kernel⟩, List.mem_of_getElem? (i := 14) (by decide +kernel), List.mem_of_getElem? (i := 239) (by decide +kernel), List.mem_of_getElem? (i := 240) (by decide +kernel)⟩
theorem lw_p18 : lw_okq (⟨"ParityRow", "clearMixed", "()V"⟩, 10) := ⟨⟨by decide +kernel, by decide +kernel⟩, List.mem_of_getElem? (i := 14) (by decide +kernel), List.mem_of_getElem? (i := 243) (by decide +kernel), List.mem_of_getElem? (i := 244) (by decide +kernel)⟩
theorem lw_p19 : lw_okq (⟨"ParityRow", "mix", "([II)V"⟩, 10) := ⟨⟨by decide +kernel, by decide +kernel⟩, List.mem_of_getElem? (i := 14) (by decide +kernel), List.mem_of_getElem? (i := 248) (by decide +kernel), List.mem_of_getElem? (i := 249) (by decide +kernel)⟩
theorem lw_p20 : lw_okq (⟨"ParityRow", "mixNewest", "(II)Z"⟩, 10) := ⟨⟨by decide +kernel, by decide +kernel⟩, List.mem_of_getElem? (i := 14) (by decide +kernel), List.mem_of_getElem? (i := 252) (by decide +kernel), List.mem_of_getElem? (i := 253) (by decide +kernel)⟩
theorem lw_p21 : lw_okq (⟨"ParityRow$Entry", "addWords", "(I[I)V"⟩, 4) := ⟨⟨by decide +kernel, by decide +kernel⟩, List.mem_of_getElem? (i := 66) (by decide +kernel), List.mem_of_getElem? (i := 256) (by decide +kernel), List.mem_of_getElem? (i := 257) (by decide +kernel)⟩
theorem lw_p22 : lw_okq (⟨"ParityRow$Entry", "cells", "()I"⟩, 4) := ⟨⟨by decide +kernel, by decide +kernel⟩, List.mem_of_getElem? (i := 66) (by decide +kernel), List.mem_of_getElem? (i := 260) (by decide +kernel), List.mem_of_getElem? (i := 261) (by decide +kernel)⟩
theorem lw_p23 : lw_okq (⟨"ParityRow$Journal", "recordsToFree", "(I)I"⟩, 6) := ⟨⟨by decide +kernel, by decide +kernel⟩, List.mem_of_getElem? (i := 59) (by decide +kernel), List.mem_of_getElem? (i := 265) (by decide +kernel), List.mem_of_getElem? (i := 266) (by decide +kernel)⟩
theorem lw_p24 : lw_okq (⟨"ParityRow$Journal", "freeCells", "()I"⟩, 6) := ⟨⟨by decide +kernel, by decide +kernel⟩, List.mem_of_getElem? (i := 59) (by decide +kernel), List.mem_of_getElem? (i := 269) (by decide +kernel), List.mem_of_getElem? (i := 270) (by decide +kernel)⟩
theorem lw_p25 : lw_okq (⟨"ParityRow", "drainOldest", "(I)Z"⟩, 10) := ⟨⟨by decide +kernel, by decide +kernel⟩, List.mem_of_getElem? (i := 14) (by decide +kernel), List.mem_of_getElem? (i := 274) (by decide +kernel), List.mem_of_getElem? (i := 275) (by decide +kernel)⟩
theorem lw_p26 : lw_okq (⟨"ParityRow", "putEntry", "(LParityRow$Entry;)Z"⟩, 10) := ⟨⟨by decide +kernel, by decide +kernel⟩, List.mem_of_getElem? (i := 14) (by decide +kernel), List.mem_of_getElem? (i := 279) (by decide +kernel), List.mem_of_getElem? (i := 280) (by decide +kernel)⟩
theorem lw_p27 : lw_okq (⟨"ParityRow", "putChunk", "(II[II)Z"⟩, 10) := ⟨⟨by decide +kernel, by decide +kernel⟩, List.mem_of_getElem? (i := 14) (by decide +kernel), List.mem_of_getElem? (i := 283) (by decide +kernel), List.mem_of_getElem? (i := 284) (by decide +kernel)⟩
theorem lw_p28 : lw_okq (⟨"ParityRow", "powerStays", "()Z"⟩, 10) := ⟨⟨by decide +kernel, by decide +kernel⟩, List.mem_of_getElem? (i := 14) (by decide +kernel), List.mem_of_getElem? (i := 287) (by decide +kernel), List.mem_of_getElem? (i := 288) (by decide +kernel)⟩
theorem lw_p29 : lw_okq (⟨"ParityRow$Disk", "forgetBuilding", "()V"⟩, 6) := ⟨⟨by decide +kernel, by decide +kernel⟩, List.mem_of_getElem? (i := 26) (by decide +kernel), List.mem_of_getElem? (i := 291) (by decide +kernel), List.mem_of_getElem? (i := 292) (by decide +kernel)⟩
theorem lw_p30 : lw_okq (⟨"ParityRow$Disk", "take", "(I[III)V"⟩, 6) := ⟨⟨by decide +kernel, by decide +kernel⟩, List.mem_of_getElem? (i := 26) (by decide +kernel), List.mem_of_getElem? (i := 295) (by decide +kernel), List.mem_of_getElem? (i := 296) (by decide +kernel)⟩
theorem lw_p31 : lw_okq (⟨"ParityRow", "putMark", "(I)Z"⟩, 10) := ⟨⟨by decide +kernel, by decide +kernel⟩, List.mem_of_getElem? (i := 14) (by decide +kernel), List.mem_of_getElem? (i := 299) (by decide +kernel), List.mem_of_getElem? (i := 300) (by decide +kernel)⟩
def lw_privs_2 : List (MethodName × Nat) := [(⟨"ParityRow$Disk", "isThere", "(I)Z"⟩, 6), (⟨"ParityRow", "addParity", "(LParityRow$Entry;)V"⟩, 10), (⟨"ParityRow", "clearMixed", "()V"⟩, 10), (⟨"ParityRow", "mix", "([II)V"⟩, 10), (⟨"ParityRow", "mixNewest", "(II)Z"⟩, 10), (⟨"ParityRow$Entry", "addWords", "(I[I)V"⟩, 4), (⟨"ParityRow$Entry", "cells", "()I"⟩, 4), (⟨"ParityRow$Journal", "recordsToFree", "(I)I"⟩, 6), (⟨"ParityRow$Journal", "freeCells", "()I"⟩, 6), (⟨"ParityRow", "drainOldest", "(I)Z"⟩, 10), (⟨"ParityRow", "putEntry", "(LParityRow$Entry;)Z"⟩, 10), (⟨"ParityRow", "putChunk", "(II[II)Z"⟩, 10), (⟨"ParityRow", "powerStays", "()Z"⟩, 10), (⟨"ParityRow$Disk", "forgetBuilding", "()V"⟩, 6), (⟨"ParityRow$Disk", "take", "(I[III)V"⟩, 6), (⟨"ParityRow", "putMark", "(I)Z"⟩, 10)]
theorem lw_r2 : ∀ q ∈ lw_privs_2, lw_okq q := List.forall_mem_cons.mpr ⟨lw_p16, List.forall_mem_cons.mpr ⟨lw_p17, List.forall_mem_cons.mpr ⟨lw_p18, List.forall_mem_cons.mpr ⟨lw_p19, List.forall_mem_cons.mpr ⟨lw_p20, List.forall_mem_cons.mpr ⟨lw_p21, List.forall_mem_cons.mpr ⟨lw_p22, List.forall_mem_cons.mpr ⟨lw_p23, List.forall_mem_cons.mpr ⟨lw_p24, List.forall_mem_cons.mpr ⟨lw_p25, List.forall_mem_cons.mpr ⟨lw_p26, List.forall_mem_cons.mpr ⟨lw_p27, List.forall_mem_cons.mpr ⟨lw_p28, List.forall_mem_cons.mpr ⟨lw_p29, List.forall_mem_cons.mpr ⟨lw_p30, List.forall_mem_cons.mpr ⟨lw_p31, fun _ h => absurd h List.not_mem_nil⟩⟩⟩⟩⟩⟩⟩⟩⟩⟩⟩⟩⟩⟩⟩⟩
theorem lw_p32 : lw_okq (⟨"ParityRow$Journal", "free", "(I)V"⟩, 6) := ⟨⟨by decide +kernel, by decide +kernel⟩, List.mem_of_getElem? (i := 59) (by decide +kernel), List.mem_of_getElem? (i := 303) (by decide +kernel), List.mem_of_getElem? (i := 304) (by decide +kernel)⟩
theorem lw_p33 : lw_okq (⟨"ParityRow", "putCells", "(I)Z"⟩, 10) := ⟨⟨by decide +kernel, by decide +kernel⟩, List.mem_of_getElem? (i := 14) (by decide +kernel), List.mem_of_getElem? (i := 307) (by decide +kernel), List.mem_of_getElem? (i := 308) (by decide +kernel)⟩
theorem lw_p34 : lw_okq (⟨"ParityRow$Journal", "addMade", "()V"⟩, 6) := ⟨⟨by decide +kernel, by decide +kernel⟩, List.mem_of_getElem? (i := 59) (by decide +kernel), List.mem_of_getElem? (i := 311) (by decide +kernel), List.mem_of_getElem? (i := 312) (by decide +kernel)⟩
theorem lw_p35 : lw_okq (⟨"ParityRow", "sourceOf", "(II)I"⟩, 10) := ⟨⟨by decide +kernel, by decide +kernel⟩, List.mem_of_getElem? (i := 14) (by decide +kernel), List.mem_of_getElem? (i := 320) (by decide +kernel), List.mem_of_getElem? (i := 321) (by decide +kernel)⟩
theorem lw_p36 : lw_okq (⟨"ParityRow", "othersThere", "(II)Z"⟩, 10) := ⟨⟨by decide +kernel, by decide +kernel⟩, List.mem_of_getElem? (i := 14) (by decide +kernel), List.mem_of_getElem? (i := 324) (by decide +kernel), List.mem_of_getElem? (i := 325) (by decide +kernel)⟩
theorem lw_p37 : lw_okq (⟨"ParityRow", "countNotThere", "(I)I"⟩, 10) := ⟨⟨by decide +kernel, by decide +kernel⟩, List.mem_of_getElem? (i := 14) (by decide +kernel), List.mem_of_getElem? (i := 328) (by decide +kernel), List.mem_of_getElem? (i := 329) (by decide +kernel)⟩
theorem lw_p38 : lw_okq (⟨"ParityRow", "isMember", "(I)Z"⟩, 10) := ⟨⟨by decide +kernel, by decide +kernel⟩, List.mem_of_getElem? (i := 14) (by decide +kernel), List.mem_of_getElem? (i := 340) (by decide +kernel), List.mem_of_getElem? (i := 341) (by decide +kernel)⟩
theorem lw_p39 : lw_okq (⟨"ParityRow", "allOn", "()Z"⟩, 10) := ⟨⟨by decide +kernel, by decide +kernel⟩, List.mem_of_getElem? (i := 14) (by decide +kernel), List.mem_of_getElem? (i := 344) (by decide +kernel), List.mem_of_getElem? (i := 345) (by decide +kernel)⟩
theorem lw_p40 : lw_okq (⟨"ParityRow", "memberThat", "(I)I"⟩, 10) := ⟨⟨by decide +kernel, by decide +kernel⟩, List.mem_of_getElem? (i := 14) (by decide +kernel), List.mem_of_getElem? (i := 348) (by decide +kernel), List.mem_of_getElem? (i := 349) (by decide +kernel)⟩
theorem lw_p41 : lw_okq (⟨"ParityRow$Disk", "replace", "()V"⟩, 6) := ⟨⟨by decide +kernel, by decide +kernel⟩, List.mem_of_getElem? (i := 26) (by decide +kernel), List.mem_of_getElem? (i := 356) (by decide +kernel), List.mem_of_getElem? (i := 357) (by decide +kernel)⟩
theorem lw_p42 : lw_okq (⟨"ParityRow", "buildStripe", "(II)Z"⟩, 10) := ⟨⟨by decide +kernel, by decide +kernel⟩, List.mem_of_getElem? (i := 14) (by decide +kernel), List.mem_of_getElem? (i := 364) (by decide +kernel), List.mem_of_getElem? (i := 365) (by decide +kernel)⟩
theorem lw_p43 : lw_okq (⟨"ParityRow$Journal", "recordsUpTo", "(I)I"⟩, 6) := ⟨⟨by decide +kernel, by decide +kernel⟩, List.mem_of_getElem? (i := 59) (by decide +kernel), List.mem_of_getElem? (i := 368) (by decide +kernel), List.mem_of_getElem? (i := 369) (by decide +kernel)⟩
theorem lw_p44 : lw_okq (⟨"ParityRow", "putOthersXor", "(II)Z"⟩, 10) := ⟨⟨by decide +kernel, by decide +kernel⟩, List.mem_of_getElem? (i := 14) (by decide +kernel), List.mem_of_getElem? (i := 372) (by decide +kernel), List.mem_of_getElem? (i := 373) (by decide +kernel)⟩
theorem lw_p45 : lw_okq (⟨"ParityRow", "mixOthers", "(II)V"⟩, 10) := ⟨⟨by decide +kernel, by decide +kernel⟩, List.mem_of_getElem? (i := 14) (by decide +kernel), List.mem_of_getElem? (i := 376) (by decide +kernel), List.mem_of_getElem? (i := 377) (by decide +kernel)⟩
theorem lw_p46 : lw_okq (⟨"ParityRow", "scrubStripe", "(I)Z"⟩, 10) := ⟨⟨by decide +kernel, by decide +kernel⟩, List.mem_of_getElem? (i := 14) (by decide +kernel), List.mem_of_getElem? (i := 384) (by decide +kernel), List.mem_of_getElem? (i := 385) (by decide +kernel)⟩
theorem lw_p47 : lw_okq (⟨"ParityRow", "xorIsZero", "(I)Z"⟩, 10) := ⟨⟨by decide +kernel, by decide +kernel⟩, List.mem_of_getElem? (i := 14) (by decide +kernel), List.mem_of_getElem? (i := 388) (by decide +kernel), List.mem_of_getElem? (i := 389) (by decide +kernel)⟩
def lw_privs_3 : List (MethodName × Nat) := [(⟨"ParityRow$Journal", "free", "(I)V"⟩, 6), (⟨"ParityRow", "putCells", "(I)Z"⟩, 10), (⟨"ParityRow$Journal", "addMade", "()V"⟩, 6), (⟨"ParityRow", "sourceOf", "(II)I"⟩, 10), (⟨"ParityRow", "othersThere", "(II)Z"⟩, 10), (⟨"ParityRow", "countNotThere", "(I)I"⟩, 10), (⟨"ParityRow", "isMember", "(I)Z"⟩, 10), (⟨"ParityRow", "allOn", "()Z"⟩, 10), (⟨"ParityRow", "memberThat", "(I)I"⟩, 10), (⟨"ParityRow$Disk", "replace", "()V"⟩, 6), (⟨"ParityRow", "buildStripe", "(II)Z"⟩, 10), (⟨"ParityRow$Journal", "recordsUpTo", "(I)I"⟩, 6), (⟨"ParityRow", "putOthersXor", "(II)Z"⟩, 10), (⟨"ParityRow", "mixOthers", "(II)V"⟩, 10), (⟨"ParityRow", "scrubStripe", "(I)Z"⟩, 10), (⟨"ParityRow", "xorIsZero", "(I)Z"⟩, 10)]
theorem lw_r3 : ∀ q ∈ lw_privs_3, lw_okq q := List.forall_mem_cons.mpr ⟨lw_p32, List.forall_mem_cons.mpr ⟨lw_p33, List.forall_mem_cons.mpr ⟨lw_p34, List.forall_mem_cons.mpr ⟨lw_p35, List.forall_mem_cons.mpr ⟨lw_p36, List.forall_mem_cons.mpr ⟨lw_p37, List.forall_mem_cons.mpr ⟨lw_p38, List.forall_mem_cons.mpr ⟨lw_p39, List.forall_mem_cons.mpr ⟨lw_p40, List.forall_mem_cons.mpr ⟨lw_p41, List.forall_mem_cons.mpr ⟨lw_p42, List.forall_mem_cons.mpr ⟨lw_p43, List.forall_mem_cons.mpr ⟨lw_p44, List.forall_mem_cons.mpr ⟨lw_p45, List.forall_mem_cons.mpr ⟨lw_p46, List.forall_mem_cons.mpr ⟨lw_p47, fun _ h => absurd h List.not_mem_nil⟩⟩⟩⟩⟩⟩⟩⟩⟩⟩⟩⟩⟩⟩⟩⟩
theorem lw_p48 : lw_okq (⟨"ParityRow", "firstNotThere", "(I)I"⟩, 10) := ⟨⟨by decide +kernel, by decide +kernel⟩, List.mem_of_getElem? (i := 14) (by decide +kernel), List.mem_of_getElem? (i := 392) (by decide +kernel), List.mem_of_getElem? (i := 393) (by decide +kernel)⟩
theorem lw_p49 : lw_okq (⟨"ParityRow", "doAgain", "(I)Z"⟩, 10) := ⟨⟨by decide +kernel, by decide +kernel⟩, List.mem_of_getElem? (i := 14) (by decide +kernel), List.mem_of_getElem? (i := 414) (by decide +kernel), List.mem_of_getElem? (i := 415) (by decide +kernel)⟩
theorem lw_p50 : lw_okq (⟨"ParityRow", "recordsKnown", "()I"⟩, 10) := ⟨⟨by decide +kernel, by decide +kernel⟩, List.mem_of_getElem? (i := 14) (by decide +kernel), List.mem_of_getElem? (i := 431) (by decide +kernel), List.mem_of_getElem? (i := 432) (by decide +kernel)⟩
theorem lw_p51 : lw_okq (⟨"ParityRow$Journal", "nextSerial", "()I"⟩, 6) := ⟨⟨by decide +kernel, by decide +kernel⟩, List.mem_of_getElem? (i := 59) (by decide +kernel), List.mem_of_getElem? (i := 435) (by decide +kernel), List.mem_of_getElem? (i := 436) (by decide +kernel)⟩
theorem lw_p52 : lw_okq (⟨"java/lang/Throwable", "fillInStackTrace", "(I)Ljava/lang/Throwable;"⟩, 6) := ⟨⟨by decide +kernel, by decide +kernel⟩, List.mem_of_getElem? (i := 500) (by decide +kernel), List.mem_of_getElem? (i := 498) (by decide +kernel), List.mem_of_getElem? (i := 499) (by decide +kernel)⟩
theorem lw_p53 : lw_okq (⟨"ParityRowModel", "isBlock", "(J)Z"⟩, 25) := ⟨⟨by decide +kernel, by decide +kernel⟩, List.mem_of_getElem? (i := 551) (by decide +kernel), List.mem_of_getElem? (i := 641) (by decide +kernel), List.mem_of_getElem? (i := 642) (by decide +kernel)⟩
theorem lw_p54 : lw_okq (⟨"ParityRowModel", "memberOf", "(II)I"⟩, 25) := ⟨⟨by decide +kernel, by decide +kernel⟩, List.mem_of_getElem? (i := 551) (by decide +kernel), List.mem_of_getElem? (i := 649) (by decide +kernel), List.mem_of_getElem? (i := 650) (by decide +kernel)⟩
theorem lw_p55 : lw_okq (⟨"ParityRowModel", "parityOf", "(I)I"⟩, 25) := ⟨⟨by decide +kernel, by decide +kernel⟩, List.mem_of_getElem? (i := 551) (by decide +kernel), List.mem_of_getElem? (i := 653) (by decide +kernel), List.mem_of_getElem? (i := 654) (by decide +kernel)⟩
theorem lw_p56 : lw_okq (⟨"ParityRowModel", "stripeIs", "(II)I"⟩, 25) := ⟨⟨by decide +kernel, by decide +kernel⟩, List.mem_of_getElem? (i := 551) (by decide +kernel), List.mem_of_getElem? (i := 661) (by decide +kernel), List.mem_of_getElem? (i := 662) (by decide +kernel)⟩
theorem lw_p57 : lw_okq (⟨"ParityRowModel", "wayOf", "(II)I"⟩, 25) := ⟨⟨by decide +kernel, by decide +kernel⟩, List.mem_of_getElem? (i := 551) (by decide +kernel), List.mem_of_getElem? (i := 665) (by decide +kernel), List.mem_of_getElem? (i := 666) (by decide +kernel)⟩
theorem lw_p58 : lw_okq (⟨"ParityRowModel", "isOn", "(II)Z"⟩, 25) := ⟨⟨by decide +kernel, by decide +kernel⟩, List.mem_of_getElem? (i := 551) (by decide +kernel), List.mem_of_getElem? (i := 669) (by decide +kernel), List.mem_of_getElem? (i := 670) (by decide +kernel)⟩
theorem lw_p59 : lw_okq (⟨"ParityRowModel", "can", "(III)Z"⟩, 25) := ⟨⟨by decide +kernel, by decide +kernel⟩, List.mem_of_getElem? (i := 551) (by decide +kernel), List.mem_of_getElem? (i := 673) (by decide +kernel), List.mem_of_getElem? (i := 674) (by decide +kernel)⟩
theorem lw_p60 : lw_okq (⟨"ParityRowModel", "hasNewest", "(II)Z"⟩, 25) := ⟨⟨by decide +kernel, by decide +kernel⟩, List.mem_of_getElem? (i := 551) (by decide +kernel), List.mem_of_getElem? (i := 677) (by decide +kernel), List.mem_of_getElem? (i := 678) (by decide +kernel)⟩
theorem lw_p61 : lw_okq (⟨"ParityRowModel", "latest", "(II)I"⟩, 25) := ⟨⟨by decide +kernel, by decide +kernel⟩, List.mem_of_getElem? (i := 551) (by decide +kernel), List.mem_of_getElem? (i := 681) (by decide +kernel), List.mem_of_getElem? (i := 682) (by decide +kernel)⟩
theorem lw_p62 : lw_okq (⟨"ParityRowModel", "memberOfRow", "(II)I"⟩, 25) := ⟨⟨by decide +kernel, by decide +kernel⟩, List.mem_of_getElem? (i := 551) (by decide +kernel), List.mem_of_getElem? (i := 685) (by decide +kernel), List.mem_of_getElem? (i := 686) (by decide +kernel)⟩
theorem lw_p63 : lw_okq (⟨"ParityRowModel", "isThere", "(II)Z"⟩, 25) := ⟨⟨by decide +kernel, by decide +kernel⟩, List.mem_of_getElem? (i := 551) (by decide +kernel), List.mem_of_getElem? (i := 689) (by decide +kernel), List.mem_of_getElem? (i := 690) (by decide +kernel)⟩
def lw_privs_4 : List (MethodName × Nat) := [(⟨"ParityRow", "firstNotThere", "(I)I"⟩, 10), (⟨"ParityRow", "doAgain", "(I)Z"⟩, 10), (⟨"ParityRow", "recordsKnown", "()I"⟩, 10), (⟨"ParityRow$Journal", "nextSerial", "()I"⟩, 6), (⟨"java/lang/Throwable", "fillInStackTrace", "(I)Ljava/lang/Throwable;"⟩, 6), (⟨"ParityRowModel", "isBlock", "(J)Z"⟩, 25), (⟨"ParityRowModel", "memberOf", "(II)I"⟩, 25), (⟨"ParityRowModel", "parityOf", "(I)I"⟩, 25), (⟨"ParityRowModel", "stripeIs", "(II)I"⟩, 25), (⟨"ParityRowModel", "wayOf", "(II)I"⟩, 25), (⟨"ParityRowModel", "isOn", "(II)Z"⟩, 25), (⟨"ParityRowModel", "can", "(III)Z"⟩, 25), (⟨"ParityRowModel", "hasNewest", "(II)Z"⟩, 25), (⟨"ParityRowModel", "latest", "(II)I"⟩, 25), (⟨"ParityRowModel", "memberOfRow", "(II)I"⟩, 25), (⟨"ParityRowModel", "isThere", "(II)Z"⟩, 25)]
theorem lw_r4 : ∀ q ∈ lw_privs_4, lw_okq q := List.forall_mem_cons.mpr ⟨lw_p48, List.forall_mem_cons.mpr ⟨lw_p49, List.forall_mem_cons.mpr ⟨lw_p50, List.forall_mem_cons.mpr ⟨lw_p51, List.forall_mem_cons.mpr ⟨lw_p52, List.forall_mem_cons.mpr ⟨lw_p53, List.forall_mem_cons.mpr ⟨lw_p54, List.forall_mem_cons.mpr ⟨lw_p55, List.forall_mem_cons.mpr ⟨lw_p56, List.forall_mem_cons.mpr ⟨lw_p57, List.forall_mem_cons.mpr ⟨lw_p58, List.forall_mem_cons.mpr ⟨lw_p59, List.forall_mem_cons.mpr ⟨lw_p60, List.forall_mem_cons.mpr ⟨lw_p61, List.forall_mem_cons.mpr ⟨lw_p62, List.forall_mem_cons.mpr ⟨lw_p63, fun _ h => absurd h List.not_mem_nil⟩⟩⟩⟩⟩⟩⟩⟩⟩⟩⟩⟩⟩⟩⟩⟩
theorem lw_p64 : lw_okq (⟨"ParityRowModel", "at", "(II)I"⟩, 25) := ⟨⟨by decide +kernel, by decide +kernel⟩, List.mem_of_getElem? (i := 551) (by decide +kernel), List.mem_of_getElem? (i := 693) (by decide +kernel), List.mem_of_getElem? (i := 694) (by decide +kernel)⟩
theorem lw_p65 : lw_okq (⟨"ParityRowModel", "sumOf", "(I)I"⟩, 25) := ⟨⟨by decide +kernel, by decide +kernel⟩, List.mem_of_getElem? (i := 551) (by decide +kernel), List.mem_of_getElem? (i := 697) (by decide +kernel), List.mem_of_getElem? (i := 698) (by decide +kernel)⟩
theorem lw_p66 : lw_okq (⟨"ParityRowModel", "reads", "(III)I"⟩, 25) := ⟨⟨by decide +kernel, by decide +kernel⟩, List.mem_of_getElem? (i := 551) (by decide +kernel), List.mem_of_getElem? (i := 701) (by decide +kernel), List.mem_of_getElem? (i := 702) (by decide +kernel)⟩
theorem lw_p67 : lw_okq (⟨"ParityRowModel", "newest", "(III)I"⟩, 25) := ⟨⟨by decide +kernel, by decide +kernel⟩, List.mem_of_getElem? (i := 551) (by decide +kernel), List.mem_of_getElem? (i := 705) (by decide +kernel), List.mem_of_getElem? (i := 706) (by decide +kernel)⟩
theorem lw_p68 : lw_okq (⟨"ParityRowModel", "free", "()I"⟩, 25) := ⟨⟨by decide +kernel, by decide +kernel⟩, List.mem_of_getElem? (i := 551) (by decide +kernel), List.mem_of_getElem? (i := 709) (by decide +kernel), List.mem_of_getElem? (i := 710) (by decide +kernel)⟩
theorem lw_p69 : lw_okq (⟨"ParityRowModel", "cellsOf", "(I)I"⟩, 25) := ⟨⟨by decide +kernel, by decide +kernel⟩, List.mem_of_getElem? (i := 551) (by decide +kernel), List.mem_of_getElem? (i := 713) (by decide +kernel), List.mem_of_getElem? (i := 714) (by decide +kernel)⟩
theorem lw_p70 : lw_okq (⟨"ParityRowModel", "drained", "()Z"⟩, 25) := ⟨⟨by decide +kernel, by decide +kernel⟩, List.mem_of_getElem? (i := 551) (by decide +kernel), List.mem_of_getElem? (i := 717) (by decide +kernel), List.mem_of_getElem? (i := 718) (by decide +kernel)⟩
theorem lw_p71 : lw_okq (⟨"ParityRowModel", "done", "(I)Z"⟩, 25) := ⟨⟨by decide +kernel, by decide +kernel⟩, List.mem_of_getElem? (i := 551) (by decide +kernel), List.mem_of_getElem? (i := 721) (by decide +kernel), List.mem_of_getElem? (i := 722) (by decide +kernel)⟩
theorem lw_p72 : lw_okq (⟨"ParityRowModel", "freshFrom", "(II)V"⟩, 25) := ⟨⟨by decide +kernel, by decide +kernel⟩, List.mem_of_getElem? (i := 551) (by decide +kernel), List.mem_of_getElem? (i := 725) (by decide +kernel), List.mem_of_getElem? (i := 726) (by decide +kernel)⟩
theorem lw_p73 : lw_okq (⟨"ParityRowModel", "chunkIs", "(II)Z"⟩, 25) := ⟨⟨by decide +kernel, by decide +kernel⟩, List.mem_of_getElem? (i := 551) (by decide +kernel), List.mem_of_getElem? (i := 729) (by decide +kernel), List.mem_of_getElem? (i := 730) (by decide +kernel)⟩
theorem lw_p74 : lw_okq (⟨"ParityRowModel", "goes", "()Z"⟩, 25) := ⟨⟨by decide +kernel, by decide +kernel⟩, List.mem_of_getElem? (i := 551) (by decide +kernel), List.mem_of_getElem? (i := 733) (by decide +kernel), List.mem_of_getElem? (i := 734) (by decide +kernel)⟩
theorem lw_p75 : lw_okq (⟨"ParityRowModel", "markIs", "(II)Z"⟩, 25) := ⟨⟨by decide +kernel, by decide +kernel⟩, List.mem_of_getElem? (i := 551) (by decide +kernel), List.mem_of_getElem? (i := 737) (by decide +kernel), List.mem_of_getElem? (i := 738) (by decide +kernel)⟩
theorem lw_p76 : lw_okq (⟨"ParityRowModel", "from", "(I)I"⟩, 25) := ⟨⟨by decide +kernel, by decide +kernel⟩, List.mem_of_getElem? (i := 551) (by decide +kernel), List.mem_of_getElem? (i := 745) (by decide +kernel), List.mem_of_getElem? (i := 746) (by decide +kernel)⟩
theorem lw_p77 : lw_okq (⟨"ParityRowModel", "othersThere", "(II)Z"⟩, 25) := ⟨⟨by decide +kernel, by decide +kernel⟩, List.mem_of_getElem? (i := 551) (by decide +kernel), List.mem_of_getElem? (i := 749) (by decide +kernel), List.mem_of_getElem? (i := 750) (by decide +kernel)⟩
theorem lw_p78 : lw_okq (⟨"ParityRowModel", "others", "(III)I"⟩, 25) := ⟨⟨by decide +kernel, by decide +kernel⟩, List.mem_of_getElem? (i := 551) (by decide +kernel), List.mem_of_getElem? (i := 758) (by decide +kernel), List.mem_of_getElem? (i := 759) (by decide +kernel)⟩
theorem lw_p79 : lw_okq (⟨"ParityRowModel", "notOn", "()I"⟩, 25) := ⟨⟨by decide +kernel, by decide +kernel⟩, List.mem_of_getElem? (i := 551) (by decide +kernel), List.mem_of_getElem? (i := 771) (by decide +kernel), List.mem_of_getElem? (i := 772) (by decide +kernel)⟩
def lw_privs_5 : List (MethodName × Nat) := [(⟨"ParityRowModel", "at", "(II)I"⟩, 25), (⟨"ParityRowModel", "sumOf", "(I)I"⟩, 25), (⟨"ParityRowModel", "reads", "(III)I"⟩, 25), (⟨"ParityRowModel", "newest", "(III)I"⟩, 25), (⟨"ParityRowModel", "free", "()I"⟩, 25), (⟨"ParityRowModel", "cellsOf", "(I)I"⟩, 25), (⟨"ParityRowModel", "drained", "()Z"⟩, 25), (⟨"ParityRowModel", "done", "(I)Z"⟩, 25), (⟨"ParityRowModel", "freshFrom", "(II)V"⟩, 25), (⟨"ParityRowModel", "chunkIs", "(II)Z"⟩, 25), (⟨"ParityRowModel", "goes", "()Z"⟩, 25), (⟨"ParityRowModel", "markIs", "(II)Z"⟩, 25), (⟨"ParityRowModel", "from", "(I)I"⟩, 25), (⟨"ParityRowModel", "othersThere", "(II)Z"⟩, 25), (⟨"ParityRowModel", "others", "(III)I"⟩, 25), (⟨"ParityRowModel", "notOn", "()I"⟩, 25)]
theorem lw_r5 : ∀ q ∈ lw_privs_5, lw_okq q := List.forall_mem_cons.mpr ⟨lw_p64, List.forall_mem_cons.mpr ⟨lw_p65, List.forall_mem_cons.mpr ⟨lw_p66, List.forall_mem_cons.mpr ⟨lw_p67, List.forall_mem_cons.mpr ⟨lw_p68, List.forall_mem_cons.mpr ⟨lw_p69, List.forall_mem_cons.mpr ⟨lw_p70, List.forall_mem_cons.mpr ⟨lw_p71, List.forall_mem_cons.mpr ⟨lw_p72, List.forall_mem_cons.mpr ⟨lw_p73, List.forall_mem_cons.mpr ⟨lw_p74, List.forall_mem_cons.mpr ⟨lw_p75, List.forall_mem_cons.mpr ⟨lw_p76, List.forall_mem_cons.mpr ⟨lw_p77, List.forall_mem_cons.mpr ⟨lw_p78, List.forall_mem_cons.mpr ⟨lw_p79, fun _ h => absurd h List.not_mem_nil⟩⟩⟩⟩⟩⟩⟩⟩⟩⟩⟩⟩⟩⟩⟩⟩
theorem lw_p80 : lw_okq (⟨"ParityRowModel", "buildsUp", "(I)Z"⟩, 25) := ⟨⟨by decide +kernel, by decide +kernel⟩, List.mem_of_getElem? (i := 551) (by decide +kernel), List.mem_of_getElem? (i := 783) (by decide +kernel), List.mem_of_getElem? (i := 784) (by decide +kernel)⟩
theorem lw_p81 : lw_okq (⟨"ParityRowModel", "freshIsOthers", "(II)V"⟩, 25) := ⟨⟨by decide +kernel, by decide +kernel⟩, List.mem_of_getElem? (i := 551) (by decide +kernel), List.mem_of_getElem? (i := 787) (by decide +kernel), List.mem_of_getElem? (i := 788) (by decide +kernel)⟩
theorem lw_p82 : lw_okq (⟨"ParityRowModel", "isEven", "(I)Z"⟩, 25) := ⟨⟨by decide +kernel, by decide +kernel⟩, List.mem_of_getElem? (i := 551) (by decide +kernel), List.mem_of_getElem? (i := 795) (by decide +kernel), List.mem_of_getElem? (i := 796) (by decide +kernel)⟩
def lw_privs_6 : List (MethodName × Nat) := [(⟨"ParityRowModel", "buildsUp", "(I)Z"⟩, 25), (⟨"ParityRowModel", "freshIsOthers", "(II)V"⟩, 25), (⟨"ParityRowModel", "isEven", "(I)Z"⟩, 25)]
theorem lw_r6 : ∀ q ∈ lw_privs_6, lw_okq q := List.forall_mem_cons.mpr ⟨lw_p80, List.forall_mem_cons.mpr ⟨lw_p81, List.forall_mem_cons.mpr ⟨lw_p82, fun _ h => absurd h List.not_mem_nil⟩⟩⟩
def lw_privs : List (MethodName × Nat) := lw_privs_1 ++ (lw_privs_2 ++ (lw_privs_3 ++ (lw_privs_4 ++ (lw_privs_5 ++ (lw_privs_6)))))
def lw_tbl : List Cond := k2_sels lw_privs ++ tables_1
theorem lw_privs_ok : ∀ q ∈ lw_privs, lw_okq q := by
  show ∀ q ∈ lw_privs_1 ++ (lw_privs_2 ++ (lw_privs_3 ++ (lw_privs_4 ++ (lw_privs_5 ++ (lw_privs_6))))), lw_okq q
  exact List.forall_mem_append.mpr ⟨lw_r1, List.forall_mem_append.mpr ⟨lw_r2, List.forall_mem_append.mpr ⟨lw_r3, List.forall_mem_append.mpr ⟨lw_r4, List.forall_mem_append.mpr ⟨lw_r5, lw_r6⟩⟩⟩⟩⟩
end
section
/-! ===== BEGIN words of one list among another's, by their places ===== -/
theorem goodIn_r {big : List Cond} (ws : List Cond) (ps : List Nat) (hp : ws = ps.filterMap (fun i => big[i]?)) (h : ws.all goodWord = true) : GoodIn big ws := by
  intro w hw
  have h1 := List.all_eq_true.mp h w hw
  rw [hp] at hw
  obtain ⟨i, -, hi⟩ := List.mem_filterMap.mp hw
  have hm : w ∈ big := by first | exact List.mem_of_getElem? hi | exact List.getElem?_mem hi
  exact ⟨hm, good_of_word h1⟩
theorem goodIn_app {big a b : List Cond} (ha : GoodIn big a) (hb : GoodIn big b) : GoodIn big (a ++ b) := fun w h => (List.mem_append.mp h).elim (ha w) (hb w)
theorem goodIn_ca {big a b : List Cond} {c : Cond} (ha : GoodIn big (c :: a)) (hb : GoodIn big b) : GoodIn big (c :: (a ++ b)) := fun w h => (List.mem_cons.mp h).elim (fun e => ha w (List.mem_cons.mpr (Or.inl e))) (fun h => (List.mem_append.mp h).elim (fun h => ha w (List.mem_cons.mpr (Or.inr h))) (hb w))
theorem goodIn_sub {big ws : List Cond} (hm : ∀ w ∈ ws, w ∈ big) (h : ws.all goodWord = true) : GoodIn big ws := fun w hw => ⟨hm w hw, good_of_word (List.all_eq_true.mp h w hw)⟩
def RX0 : String := "ParityRow$Disk"
def TX0 : u_T := fun k => match k with
  | 0 => ("ParityRow$Disk", "words", "[I", true)
  | 1 => ("ParityRow$Disk", "sums", "[I", true)
  | 2 => ("ParityRow$Disk", "torn", "[Z", true)
  | 3 => ("ParityRow$Disk", "state", "I", false)
  | 4 => ("ParityRow$Disk", "built", "I", false)
  | _ => ("ParityRow$Disk", "written", "I", false)
def tyX0 : Nat → FieldType := fun k => match k with
  | 0 => .array .int
  | 1 => .array .int
  | 2 => .array .boolean
  | 3 => .int
  | 4 => .int
  | _ => .int
abbrev wsX00 : List Cond := u_ws RX0 TX0 6
theorem nmX0 : ∀ a, a < 6 → ∀ b, b < 6 → a ≠ b → (TX0 a).2.1 ≠ (TX0 b).2.1 := by decide +kernel
theorem tyX0_ok : ∀ k, k < 6 → parseFieldDescriptor (TX0 k).2.2.1 = some (tyX0 k) := by decide +kernel
abbrev cX0_init : ByteArray := prog_2_method_1_code
def yX0_init : MethodName := ⟨RX0, "<init>", "()V"⟩
abbrev cX0_isOn : ByteArray := prog_2_method_2_code
def yX0_isOn : MethodName := ⟨RX0, "isOn", "(I)Z"⟩
abbrev cX0_isThere : ByteArray := prog_2_method_3_code
def yX0_isThere : MethodName := ⟨RX0, "isThere", "(I)Z"⟩
abbrev cX0_sumOf : ByteArray := prog_2_method_4_code
def yX0_sumOf : MethodName := ⟨RX0, "sumOf", "([II)I"⟩
abbrev cX0_take : ByteArray := prog_2_method_5_code
def yX0_take : MethodName := ⟨RX0, "take", "(I[III)V"⟩
abbrev cX0_replace : ByteArray := prog_2_method_6_code
def yX0_replace : MethodName := ⟨RX0, "replace", "()V"⟩
abbrev cX0_forgetBuilding : ByteArray := prog_2_method_7_code
def yX0_forgetBuilding : MethodName := ⟨RX0, "forgetBuilding", "()V"⟩
def RX1 : String := "ParityRow$Entry"
def TX1 : u_T := fun k => match k with
  | 0 => ("ParityRow$Entry", "words", "[I", true)
  | 1 => ("ParityRow$Entry", "stripe", "I", false)
  | 2 => ("ParityRow$Entry", "parts", "I", false)
  | _ => ("ParityRow$Entry", "way", "I", false)
def tyX1 : Nat → FieldType := fun k => match k with
  | 0 => .array .int
  | 1 => .int
  | 2 => .int
  | _ => .int
abbrev wsX10 : List Cond := u_ws RX1 TX1 4
theorem nmX1 : ∀ a, a < 4 → ∀ b, b < 4 → a ≠ b → (TX1 a).2.1 ≠ (TX1 b).2.1 := by decide +kernel
theorem tyX1_ok : ∀ k, k < 4 → parseFieldDescriptor (TX1 k).2.2.1 = some (tyX1 k) := by decide +kernel
abbrev cX1_init : ByteArray := prog_3_method_1_code
def yX1_init : MethodName := ⟨RX1, "<init>", "(I)V"⟩
abbrev cX1_begin : ByteArray := prog_3_method_2_code
def yX1_begin : MethodName := ⟨RX1, "begin", "(I)V"⟩
abbrev cX1_has : ByteArray := prog_3_method_3_code
def yX1_has : MethodName := ⟨RX1, "has", "(I)Z"⟩
abbrev cX1_cells : ByteArray := prog_3_method_4_code
def yX1_cells : MethodName := ⟨RX1, "cells", "()I"⟩
abbrev cX1_addDatum : ByteArray := prog_3_method_5_code
def yX1_addDatum : MethodName := ⟨RX1, "addDatum", "(II)V"⟩
abbrev cX1_addWords : ByteArray := prog_3_method_6_code
def yX1_addWords : MethodName := ⟨RX1, "addWords", "(I[I)V"⟩
def RX2 : String := "ParityRow$Journal"
def TX2 : u_T := fun k => match k with
  | 0 => ("ParityRow$Journal", "slots", "[LParityRow$Entry;", true)
  | 1 => ("ParityRow$Journal", "oldest", "I", false)
  | 2 => ("ParityRow$Journal", "records", "I", false)
  | 3 => ("ParityRow$Journal", "usedCells", "I", false)
  | 4 => ("ParityRow$Journal", "markCell", "I", false)
  | _ => ("ParityRow$Journal", "markSerial", "I", false)
def tyX2 : Nat → FieldType := fun k => match k with
  | 0 => .array (.object "ParityRow$Entry")
  | 1 => .int
  | 2 => .int
  | 3 => .int
  | 4 => .int
  | _ => .int
abbrev wsX20 : List Cond := u_ws RX2 TX2 6
theorem nmX2 : ∀ a, a < 6 → ∀ b, b < 6 → a ≠ b → (TX2 a).2.1 ≠ (TX2 b).2.1 := by decide +kernel
theorem tyX2_ok : ∀ k, k < 6 → parseFieldDescriptor (TX2 k).2.2.1 = some (tyX2 k) := by decide +kernel
abbrev cX2_init : ByteArray := prog_4_method_1_code
def yX2_init : MethodName := ⟨RX2, "<init>", "(I)V"⟩
abbrev cX2_entry : ByteArray := prog_4_method_2_code
def yX2_entry : MethodName := ⟨RX2, "entry", "(I)LParityRow$Entry;"⟩
abbrev cX2_made : ByteArray := prog_4_method_3_code
def yX2_made : MethodName := ⟨RX2, "made", "()LParityRow$Entry;"⟩
abbrev cX2_addMade : ByteArray := prog_4_method_4_code
def yX2_addMade : MethodName := ⟨RX2, "addMade", "()V"⟩
abbrev cX2_freeCells : ByteArray := prog_4_method_5_code
def yX2_freeCells : MethodName := ⟨RX2, "freeCells", "()I"⟩
abbrev cX2_nextSerial : ByteArray := prog_4_method_6_code
def yX2_nextSerial : MethodName := ⟨RX2, "nextSerial", "()I"⟩
abbrev cX2_latestWith : ByteArray := prog_4_method_7_code
def yX2_latestWith : MethodName := ⟨RX2, "latestWith", "(II)LParityRow$Entry;"⟩
abbrev cX2_recordsUpTo : ByteArray := prog_4_method_8_code
def yX2_recordsUpTo : MethodName := ⟨RX2, "recordsUpTo", "(I)I"⟩
abbrev cX2_recordsToFree : ByteArray := prog_4_method_9_code
def yX2_recordsToFree : MethodName := ⟨RX2, "recordsToFree", "(I)I"⟩
abbrev cX2_free : ByteArray := prog_4_method_10_code
def yX2_free : MethodName := ⟨RX2, "free", "(I)V"⟩
def RX3 : String := "ParityRow"
def TX3 : u_T := fun k => match k with
  | 0 => ("ParityRow", "width", "I", true)
  | 1 => ("ParityRow", "data", "I", true)
  | 2 => ("ParityRow", "disks", "[LParityRow$Disk;", true)
  | 3 => ("ParityRow", "log", "LParityRow$Journal;", true)
  | 4 => ("ParityRow", "tally", "[I", true)
  | 5 => ("ParityRow", "mixed", "[I", true)
  | 6 => ("ParityRow", "down", "Z", false)
  | 7 => ("ParityRow", "writesToCut", "I", false)
  | 8 => ("ParityRow", "tear", "I", false)
  | _ => ("ParityRow", "nextScrub", "I", false)
def tyX3 : Nat → FieldType := fun k => match k with
  | 0 => .int
  | 1 => .int
  | 2 => .array (.object "ParityRow$Disk")
  | 3 => .object "ParityRow$Journal"
  | 4 => .array .int
  | 5 => .array .int
  | 6 => .boolean
  | 7 => .int
  | 8 => .int
  | _ => .int
abbrev wsX30 : List Cond := u_ws RX3 TX3 10
theorem nmX3 : ∀ a, a < 10 → ∀ b, b < 10 → a ≠ b → (TX3 a).2.1 ≠ (TX3 b).2.1 := by decide +kernel
theorem tyX3_ok : ∀ k, k < 10 → parseFieldDescriptor (TX3 k).2.2.1 = some (tyX3 k) := by decide +kernel
abbrev cX3_init : ByteArray := prog_1_method_1_code
def yX3_init : MethodName := ⟨RX3, "<init>", "(I)V"⟩
abbrev cX3_members : ByteArray := prog_1_method_2_code
def yX3_members : MethodName := ⟨RX3, "members", "()I"⟩
abbrev cX3_place : ByteArray := prog_1_method_3_code
def yX3_place : MethodName := ⟨RX3, "place", "(II)I"⟩
abbrev cX3_write : ByteArray := prog_1_method_4_code
def yX3_write : MethodName := ⟨RX3, "write", "(III)I"⟩
abbrev cX3_look : ByteArray := prog_1_method_5_code
def yX3_look : MethodName := ⟨RX3, "look", "(I)I"⟩
abbrev cX3_word : ByteArray := prog_1_method_6_code
def yX3_word : MethodName := ⟨RX3, "word", "(II)I"⟩
abbrev cX3_drain : ByteArray := prog_1_method_7_code
def yX3_drain : MethodName := ⟨RX3, "drain", "(I)I"⟩
abbrev cX3_lose : ByteArray := prog_1_method_8_code
def yX3_lose : MethodName := ⟨RX3, "lose", "(I)I"⟩
abbrev cX3_spare : ByteArray := prog_1_method_9_code
def yX3_spare : MethodName := ⟨RX3, "spare", "()I"⟩
abbrev cX3_build : ByteArray := prog_1_method_10_code
def yX3_build : MethodName := ⟨RX3, "build", "(I)I"⟩
abbrev cX3_scrub : ByteArray := prog_1_method_11_code
def yX3_scrub : MethodName := ⟨RX3, "scrub", "(I)I"⟩
abbrev cX3_rot : ByteArray := prog_1_method_12_code
def yX3_rot : MethodName := ⟨RX3, "rot", "(IIII)I"⟩
abbrev cX3_cut : ByteArray := prog_1_method_13_code
def yX3_cut : MethodName := ⟨RX3, "cut", "(II)I"⟩
abbrev cX3_start : ByteArray := prog_1_method_14_code
def yX3_start : MethodName := ⟨RX3, "start", "(I)I"⟩
abbrev cX3_chunk : ByteArray := prog_1_method_15_code
def yX3_chunk : MethodName := ⟨RX3, "chunk", "(III)I"⟩
abbrev cX3_member : ByteArray := prog_1_method_16_code
def yX3_member : MethodName := ⟨RX3, "member", "(II)I"⟩
abbrev cX3_journal : ByteArray := prog_1_method_17_code
def yX3_journal : MethodName := ⟨RX3, "journal", "(I)I"⟩
abbrev cX3_record : ByteArray := prog_1_method_18_code
def yX3_record : MethodName := ⟨RX3, "record", "(II)I"⟩
abbrev cX3_count : ByteArray := prog_1_method_19_code
def yX3_count : MethodName := ⟨RX3, "count", "(I)I"⟩
abbrev cX3_audit : ByteArray := prog_1_method_20_code
def yX3_audit : MethodName := ⟨RX3, "audit", "()I"⟩
abbrev cX3_isBlock : ByteArray := prog_1_method_21_code
def yX3_isBlock : MethodName := ⟨RX3, "isBlock", "(I)Z"⟩
abbrev cX3_isMember : ByteArray := prog_1_method_22_code
def yX3_isMember : MethodName := ⟨RX3, "isMember", "(I)Z"⟩
abbrev cX3_isStripe : ByteArray := prog_1_method_23_code
def yX3_isStripe : MethodName := ⟨RX3, "isStripe", "(I)Z"⟩
abbrev cX3_isCut : ByteArray := prog_1_method_24_code
def yX3_isCut : MethodName := ⟨RX3, "isCut", "(I)Z"⟩
abbrev cX3_parityMember : ByteArray := prog_1_method_25_code
def yX3_parityMember : MethodName := ⟨RX3, "parityMember", "(I)I"⟩
abbrev cX3_memberOf : ByteArray := prog_1_method_26_code
def yX3_memberOf : MethodName := ⟨RX3, "memberOf", "(II)I"⟩
abbrev cX3_allData : ByteArray := prog_1_method_27_code
def yX3_allData : MethodName := ⟨RX3, "allData", "()I"⟩
abbrev cX3_recordsKnown : ByteArray := prog_1_method_28_code
def yX3_recordsKnown : MethodName := ⟨RX3, "recordsKnown", "()I"⟩
abbrev cX3_memberThat : ByteArray := prog_1_method_29_code
def yX3_memberThat : MethodName := ⟨RX3, "memberThat", "(I)I"⟩
abbrev cX3_allOn : ByteArray := prog_1_method_30_code
def yX3_allOn : MethodName := ⟨RX3, "allOn", "()Z"⟩
abbrev cX3_countNotThere : ByteArray := prog_1_method_31_code
def yX3_countNotThere : MethodName := ⟨RX3, "countNotThere", "(I)I"⟩
abbrev cX3_othersThere : ByteArray := prog_1_method_32_code
def yX3_othersThere : MethodName := ⟨RX3, "othersThere", "(II)Z"⟩
abbrev cX3_sourceOf : ByteArray := prog_1_method_33_code
def yX3_sourceOf : MethodName := ⟨RX3, "sourceOf", "(II)I"⟩
abbrev cX3_isNewestNone : ByteArray := prog_1_method_34_code
def yX3_isNewestNone : MethodName := ⟨RX3, "isNewestNone", "(II)Z"⟩
abbrev cX3_haveNewest : ByteArray := prog_1_method_35_code
def yX3_haveNewest : MethodName := ⟨RX3, "haveNewest", "(II)Z"⟩
abbrev cX3_clearMixed : ByteArray := prog_1_method_36_code
def yX3_clearMixed : MethodName := ⟨RX3, "clearMixed", "()V"⟩
abbrev cX3_mix : ByteArray := prog_1_method_37_code
def yX3_mix : MethodName := ⟨RX3, "mix", "([II)V"⟩
abbrev cX3_mixOthers : ByteArray := prog_1_method_38_code
def yX3_mixOthers : MethodName := ⟨RX3, "mixOthers", "(II)V"⟩
abbrev cX3_mixNewest : ByteArray := prog_1_method_39_code
def yX3_mixNewest : MethodName := ⟨RX3, "mixNewest", "(II)Z"⟩
abbrev cX3_xorIsZero : ByteArray := prog_1_method_40_code
def yX3_xorIsZero : MethodName := ⟨RX3, "xorIsZero", "(I)Z"⟩
abbrev cX3_powerStays : ByteArray := prog_1_method_41_code
def yX3_powerStays : MethodName := ⟨RX3, "powerStays", "()Z"⟩
abbrev cX3_putChunk : ByteArray := prog_1_method_42_code
def yX3_putChunk : MethodName := ⟨RX3, "putChunk", "(II[II)Z"⟩
abbrev cX3_putCells : ByteArray := prog_1_method_43_code
def yX3_putCells : MethodName := ⟨RX3, "putCells", "(I)Z"⟩
abbrev cX3_putMark : ByteArray := prog_1_method_44_code
def yX3_putMark : MethodName := ⟨RX3, "putMark", "(I)Z"⟩
abbrev cX3_putEntry : ByteArray := prog_1_method_45_code
def yX3_putEntry : MethodName := ⟨RX3, "putEntry", "(LParityRow$Entry;)Z"⟩
abbrev cX3_drainOldest : ByteArray := prog_1_method_46_code
def yX3_drainOldest : MethodName := ⟨RX3, "drainOldest", "(I)Z"⟩
abbrev cX3_doAgain : ByteArray := prog_1_method_47_code
def yX3_doAgain : MethodName := ⟨RX3, "doAgain", "(I)Z"⟩
abbrev cX3_writeStripe : ByteArray := prog_1_method_48_code
def yX3_writeStripe : MethodName := ⟨RX3, "writeStripe", "(IIII)I"⟩
abbrev cX3_chooseWay : ByteArray := prog_1_method_49_code
def yX3_chooseWay : MethodName := ⟨RX3, "chooseWay", "(II)I"⟩
abbrev cX3_needed : ByteArray := prog_1_method_50_code
def yX3_needed : MethodName := ⟨RX3, "needed", "(II)I"⟩
abbrev cX3_addParity : ByteArray := prog_1_method_51_code
def yX3_addParity : MethodName := ⟨RX3, "addParity", "(LParityRow$Entry;)V"⟩
abbrev cX3_buildStripe : ByteArray := prog_1_method_52_code
def yX3_buildStripe : MethodName := ⟨RX3, "buildStripe", "(II)Z"⟩
abbrev cX3_scrubStripe : ByteArray := prog_1_method_53_code
def yX3_scrubStripe : MethodName := ⟨RX3, "scrubStripe", "(I)Z"⟩
abbrev cX3_firstNotThere : ByteArray := prog_1_method_54_code
def yX3_firstNotThere : MethodName := ⟨RX3, "firstNotThere", "(I)I"⟩
abbrev cX3_putOthersXor : ByteArray := prog_1_method_55_code
def yX3_putOthersXor : MethodName := ⟨RX3, "putOthersXor", "(II)Z"⟩
def RX4 : String := "ParityRowModel"
def TX4 : u_T := fun k => match k with
  | 0 => ("ParityRowModel", "thrown", "I", false)
  | 1 => ("ParityRowModel", "many", "I", true)
  | 2 => ("ParityRowModel", "words", "[I", true)
  | 3 => ("ParityRowModel", "sums", "[I", true)
  | 4 => ("ParityRowModel", "torn", "[Z", true)
  | 5 => ("ParityRowModel", "state", "[I", true)
  | 6 => ("ParityRowModel", "built", "[I", true)
  | 7 => ("ParityRowModel", "writes", "[I", true)
  | 8 => ("ParityRowModel", "records", "I", false)
  | 9 => ("ParityRowModel", "stripes", "[I", true)
  | 10 => ("ParityRowModel", "serials", "[I", true)
  | 11 => ("ParityRowModel", "bits", "[I", true)
  | 12 => ("ParityRowModel", "hasParity", "[Z", true)
  | 13 => ("ParityRowModel", "ways", "[I", true)
  | 14 => ("ParityRowModel", "kept", "[I", true)
  | 15 => ("ParityRowModel", "markCell", "I", false)
  | 16 => ("ParityRowModel", "markSerial", "I", false)
  | 17 => ("ParityRowModel", "nextSerial", "I", false)
  | 18 => ("ParityRowModel", "down", "Z", false)
  | 19 => ("ParityRowModel", "cut", "I", false)
  | 20 => ("ParityRowModel", "tear", "I", false)
  | 21 => ("ParityRowModel", "scrubAt", "I", false)
  | 22 => ("ParityRowModel", "counts", "[I", true)
  | 23 => ("ParityRowModel", "fresh", "[I", true)
  | _ => ("ParityRowModel", "given", "[I", true)
def tyX4 : Nat → FieldType := fun k => match k with
  | 0 => .int
  | 1 => .int
  | 2 => .array .int
  | 3 => .array .int
  | 4 => .array .boolean
  | 5 => .array .int
  | 6 => .array .int
  | 7 => .array .int
  | 8 => .int
  | 9 => .array .int
  | 10 => .array .int
  | 11 => .array .int
  | 12 => .array .boolean
  | 13 => .array .int
  | 14 => .array .int
  | 15 => .int
  | 16 => .int
  | 17 => .int
  | 18 => .boolean
  | 19 => .int
  | 20 => .int
  | 21 => .int
  | 22 => .array .int
  | 23 => .array .int
  | _ => .array .int
abbrev wsX40 : List Cond := u_ws RX4 TX4 25
theorem nmX4 : ∀ a, a < 25 → ∀ b, b < 25 → a ≠ b → (TX4 a).2.1 ≠ (TX4 b).2.1 := by decide +kernel
theorem tyX4_ok : ∀ k, k < 25 → parseFieldDescriptor (TX4 k).2.2.1 = some (tyX4 k) := by decide +kernel
abbrev cX4_thrown : ByteArray := prog_6_method_1_code
def yX4_thrown : MethodName := ⟨RX4, "thrown", "()I"⟩
abbrev cX4_init : ByteArray := prog_6_method_2_code
def yX4_init : MethodName := ⟨RX4, "<init>", "(I)V"⟩
abbrev cX4_in : ByteArray := prog_6_method_3_code
def yX4_in : MethodName := ⟨RX4, "in", "(JJJ)Z"⟩
abbrev cX4_members : ByteArray := prog_6_method_4_code
def yX4_members : MethodName := ⟨RX4, "members", "()I"⟩
abbrev cX4_isBlock : ByteArray := prog_6_method_5_code
def yX4_isBlock : MethodName := ⟨RX4, "isBlock", "(J)Z"⟩
abbrev cX4_parityOf : ByteArray := prog_6_method_6_code
def yX4_parityOf : MethodName := ⟨RX4, "parityOf", "(I)I"⟩
abbrev cX4_memberOf : ByteArray := prog_6_method_7_code
def yX4_memberOf : MethodName := ⟨RX4, "memberOf", "(II)I"⟩
abbrev cX4_at : ByteArray := prog_6_method_8_code
def yX4_at : MethodName := ⟨RX4, "at", "(II)I"⟩
abbrev cX4_isOn : ByteArray := prog_6_method_9_code
def yX4_isOn : MethodName := ⟨RX4, "isOn", "(II)Z"⟩
abbrev cX4_sumOf : ByteArray := prog_6_method_10_code
def yX4_sumOf : MethodName := ⟨RX4, "sumOf", "(I)I"⟩
abbrev cX4_isThere : ByteArray := prog_6_method_11_code
def yX4_isThere : MethodName := ⟨RX4, "isThere", "(II)Z"⟩
abbrev cX4_othersThere : ByteArray := prog_6_method_12_code
def yX4_othersThere : MethodName := ⟨RX4, "othersThere", "(II)Z"⟩
abbrev cX4_place : ByteArray := prog_6_method_13_code
def yX4_place : MethodName := ⟨RX4, "place", "(II)I"⟩
abbrev cX4_goes : ByteArray := prog_6_method_14_code
def yX4_goes : MethodName := ⟨RX4, "goes", "()Z"⟩
abbrev cX4_chunkIs : ByteArray := prog_6_method_15_code
def yX4_chunkIs : MethodName := ⟨RX4, "chunkIs", "(II)Z"⟩
abbrev cX4_markIs : ByteArray := prog_6_method_16_code
def yX4_markIs : MethodName := ⟨RX4, "markIs", "(II)Z"⟩
abbrev cX4_cellsOf : ByteArray := prog_6_method_17_code
def yX4_cellsOf : MethodName := ⟨RX4, "cellsOf", "(I)I"⟩
abbrev cX4_free : ByteArray := prog_6_method_18_code
def yX4_free : MethodName := ⟨RX4, "free", "()I"⟩
abbrev cX4_freshFrom : ByteArray := prog_6_method_19_code
def yX4_freshFrom : MethodName := ⟨RX4, "freshFrom", "(II)V"⟩
abbrev cX4_done : ByteArray := prog_6_method_20_code
def yX4_done : MethodName := ⟨RX4, "done", "(I)Z"⟩
abbrev cX4_drained : ByteArray := prog_6_method_21_code
def yX4_drained : MethodName := ⟨RX4, "drained", "()Z"⟩
abbrev cX4_latest : ByteArray := prog_6_method_22_code
def yX4_latest : MethodName := ⟨RX4, "latest", "(II)I"⟩
abbrev cX4_memberOfRow : ByteArray := prog_6_method_23_code
def yX4_memberOfRow : MethodName := ⟨RX4, "memberOfRow", "(II)I"⟩
abbrev cX4_hasNewest : ByteArray := prog_6_method_24_code
def yX4_hasNewest : MethodName := ⟨RX4, "hasNewest", "(II)Z"⟩
abbrev cX4_newest : ByteArray := prog_6_method_25_code
def yX4_newest : MethodName := ⟨RX4, "newest", "(III)I"⟩
abbrev cX4_can : ByteArray := prog_6_method_26_code
def yX4_can : MethodName := ⟨RX4, "can", "(III)Z"⟩
abbrev cX4_wayOf : ByteArray := prog_6_method_27_code
def yX4_wayOf : MethodName := ⟨RX4, "wayOf", "(II)I"⟩
abbrev cX4_reads : ByteArray := prog_6_method_28_code
def yX4_reads : MethodName := ⟨RX4, "reads", "(III)I"⟩
abbrev cX4_stripeIs : ByteArray := prog_6_method_29_code
def yX4_stripeIs : MethodName := ⟨RX4, "stripeIs", "(II)I"⟩
abbrev cX4_write : ByteArray := prog_6_method_30_code
def yX4_write : MethodName := ⟨RX4, "write", "(III)I"⟩
abbrev cX4_from : ByteArray := prog_6_method_31_code
def yX4_from : MethodName := ⟨RX4, "from", "(I)I"⟩
abbrev cX4_look : ByteArray := prog_6_method_32_code
def yX4_look : MethodName := ⟨RX4, "look", "(I)I"⟩
abbrev cX4_word : ByteArray := prog_6_method_33_code
def yX4_word : MethodName := ⟨RX4, "word", "(II)I"⟩
abbrev cX4_others : ByteArray := prog_6_method_34_code
def yX4_others : MethodName := ⟨RX4, "others", "(III)I"⟩
abbrev cX4_drain : ByteArray := prog_6_method_35_code
def yX4_drain : MethodName := ⟨RX4, "drain", "(I)I"⟩
abbrev cX4_notOn : ByteArray := prog_6_method_36_code
def yX4_notOn : MethodName := ⟨RX4, "notOn", "()I"⟩
abbrev cX4_lose : ByteArray := prog_6_method_37_code
def yX4_lose : MethodName := ⟨RX4, "lose", "(I)I"⟩
abbrev cX4_spare : ByteArray := prog_6_method_38_code
def yX4_spare : MethodName := ⟨RX4, "spare", "()I"⟩
abbrev cX4_freshIsOthers : ByteArray := prog_6_method_39_code
def yX4_freshIsOthers : MethodName := ⟨RX4, "freshIsOthers", "(II)V"⟩
abbrev cX4_buildsUp : ByteArray := prog_6_method_40_code
def yX4_buildsUp : MethodName := ⟨RX4, "buildsUp", "(I)Z"⟩
abbrev cX4_build : ByteArray := prog_6_method_41_code
def yX4_build : MethodName := ⟨RX4, "build", "(I)I"⟩
abbrev cX4_scrub : ByteArray := prog_6_method_42_code
def yX4_scrub : MethodName := ⟨RX4, "scrub", "(I)I"⟩
abbrev cX4_isEven : ByteArray := prog_6_method_43_code
def yX4_isEven : MethodName := ⟨RX4, "isEven", "(I)Z"⟩
abbrev cX4_rot : ByteArray := prog_6_method_44_code
def yX4_rot : MethodName := ⟨RX4, "rot", "(IIII)I"⟩
abbrev cX4_cut : ByteArray := prog_6_method_45_code
def yX4_cut : MethodName := ⟨RX4, "cut", "(II)I"⟩
abbrev cX4_start : ByteArray := prog_6_method_46_code
def yX4_start : MethodName := ⟨RX4, "start", "(I)I"⟩
abbrev cX4_chunk : ByteArray := prog_6_method_47_code
def yX4_chunk : MethodName := ⟨RX4, "chunk", "(III)I"⟩
abbrev cX4_member : ByteArray := prog_6_method_48_code
def yX4_member : MethodName := ⟨RX4, "member", "(II)I"⟩
abbrev cX4_journal : ByteArray := prog_6_method_49_code
def yX4_journal : MethodName := ⟨RX4, "journal", "(I)I"⟩
abbrev cX4_record : ByteArray := prog_6_method_50_code
def yX4_record : MethodName := ⟨RX4, "record", "(II)I"⟩
abbrev cX4_count : ByteArray := prog_6_method_51_code
def yX4_count : MethodName := ⟨RX4, "count", "(I)I"⟩
abbrev cX4_audit : ByteArray := prog_6_method_52_code
def yX4_audit : MethodName := ⟨RX4, "audit", "()I"⟩
def RJ6 : String := "java/lang/Integer"
def TJ6 : u_T := fun k => match k with
  | _ => ("", "", "", false)
def tyJ6 : Nat → FieldType := fun k => match k with
  | _ => .int
abbrev wsJ60 : List Cond := u_ws RJ6 TJ6 0
theorem nmJ6 : ∀ a, a < 0 → ∀ b, b < 0 → a ≠ b → (TJ6 a).2.1 ≠ (TJ6 b).2.1 := by decide +kernel
theorem tyJ6_ok : ∀ k, k < 0 → parseFieldDescriptor (TJ6 k).2.2.1 = some (tyJ6 k) := by decide +kernel
abbrev cJ6_bitCount_0f7a4 : ByteArray := prog_10_method_49_code
def yJ6_bitCount_0f7a4 : MethodName := ⟨RJ6, "bitCount", "(I)I"⟩
def RJ9 : String := "java/lang/Math"
def TJ9 : u_T := fun k => match k with
  | _ => ("", "", "", false)
def tyJ9 : Nat → FieldType := fun k => match k with
  | _ => .int
abbrev wsJ90 : List Cond := u_ws RJ9 TJ9 0
theorem nmJ9 : ∀ a, a < 0 → ∀ b, b < 0 → a ≠ b → (TJ9 a).2.1 ≠ (TJ9 b).2.1 := by decide +kernel
theorem tyJ9_ok : ∀ k, k < 0 → parseFieldDescriptor (TJ9 k).2.2.1 = some (tyJ9 k) := by decide +kernel
abbrev cJ9_floorMod_7cf53 : ByteArray := prog_11_method_50_code
def yJ9_floorMod_7cf53 : MethodName := ⟨RJ9, "floorMod", "(II)I"⟩
abbrev cJ9_max_7cf53 : ByteArray := prog_11_method_65_code
def yJ9_max_7cf53 : MethodName := ⟨RJ9, "max", "(II)I"⟩
abbrev cJ9_min_7cf53 : ByteArray := prog_11_method_69_code
def yJ9_min_7cf53 : MethodName := ⟨RJ9, "min", "(II)I"⟩
def RJ0 : String := "java/lang/String"
def TJ0 : u_T := fun k => match k with
  | _ => ("", "", "", false)
def tyJ0 : Nat → FieldType := fun k => match k with
  | _ => .int
abbrev wsJ00 : List Cond := u_ws RJ0 TJ0 0
theorem nmJ0 : ∀ a, a < 0 → ∀ b, b < 0 → a ≠ b → (TJ0 a).2.1 ≠ (TJ0 b).2.1 := by decide +kernel
theorem tyJ0_ok : ∀ k, k < 0 → parseFieldDescriptor (TJ0 k).2.2.1 = some (tyJ0 k) := by decide +kernel
def RL : String := "ParityRowLaw"
abbrev cL_cell : ByteArray := method_2_code
def yL_cell : MethodName := ⟨RL, "cell", "([II)I"⟩
abbrev cL_word : ByteArray := method_3_code
def yL_word : MethodName := ⟨RL, "word", "(LParityRow;II[J)I"⟩
abbrev cL_law : ByteArray := code
def yL_law : MethodName := ⟨RL, "law", "([I)Z"⟩
def wsX0_init : List Cond := .code yX0_init cX0_init 1 none :: ([.methodLink RX0 3 objectInit, .instanceMethod objectInit, .code objectInit ⟨#[0xb1]⟩ 1 none, .arrayClass .int, .fieldLink RX0 9 "ParityRow$Disk" "words" "[I", .fieldLink RX0 15 "ParityRow$Disk" "sums" "[I", .arrayClass .boolean, .fieldLink RX0 18 "ParityRow$Disk" "torn" "[Z", .fieldLink RX0 22 "ParityRow$Disk" "state" "I", .fieldLink RX0 26 "ParityRow$Disk" "built" "I", .fieldLink RX0 29 "ParityRow$Disk" "written" "I"] ++ wsX00)
def wsX0_isOn : List Cond := .code yX0_isOn cX0_isOn 2 (some .boolean) :: ([.fieldLink RX0 26 "ParityRow$Disk" "built" "I"] ++ wsX00)
def wsX0_sumOf : List Cond := .code yX0_sumOf cX0_sumOf 4 (some .int) :: ([])
def wsX0_isThere : List Cond := .code yX0_isThere cX0_isThere 2 (some .boolean) :: ([.fieldLink RX0 18 "ParityRow$Disk" "torn" "[Z", .fieldLink RX0 15 "ParityRow$Disk" "sums" "[I", .fieldLink RX0 9 "ParityRow$Disk" "words" "[I", .methodLink RX0 32 yX0_isOn, .instanceMethod yX0_isOn, .selects RX0 yX0_isOn yX0_isOn, .initialized RX0, .code yX0_isOn cX0_isOn 2 (some .boolean), .fieldLink RX0 26 "ParityRow$Disk" "built" "I", .methodLink RX0 36 yX0_sumOf, .static yX0_sumOf, .code yX0_sumOf cX0_sumOf 4 (some .int)] ++ wsX00)
def wsX0_take : List Cond := .code yX0_take cX0_take 6 none :: ([.fieldLink RX0 9 "ParityRow$Disk" "words" "[I", .fieldLink RX0 15 "ParityRow$Disk" "sums" "[I", .fieldLink RX0 18 "ParityRow$Disk" "torn" "[Z", .fieldLink RX0 29 "ParityRow$Disk" "written" "I", .methodLink RX0 36 yX0_sumOf, .static yX0_sumOf, .initialized RX0, .code yX0_sumOf cX0_sumOf 4 (some .int)] ++ wsX00)
def wsX0_replace : List Cond := .code yX0_replace cX0_replace 2 none :: ([.fieldLink RX0 9 "ParityRow$Disk" "words" "[I", .fieldLink RX0 15 "ParityRow$Disk" "sums" "[I", .fieldLink RX0 18 "ParityRow$Disk" "torn" "[Z", .fieldLink RX0 22 "ParityRow$Disk" "state" "I", .fieldLink RX0 26 "ParityRow$Disk" "built" "I"] ++ wsX00)
def wsX0_forgetBuilding : List Cond := .code yX0_forgetBuilding cX0_forgetBuilding 1 none :: ([.fieldLink RX0 22 "ParityRow$Disk" "state" "I", .fieldLink RX0 26 "ParityRow$Disk" "built" "I"] ++ wsX00)
def wsX1_init : List Cond := .code yX1_init cX1_init 2 none :: ([.methodLink RX1 3 objectInit, .instanceMethod objectInit, .code objectInit ⟨#[0xb1]⟩ 1 none, .fieldLink RX1 9 "ParityRow$Entry" "stripe" "I", .fieldLink RX1 15 "ParityRow$Entry" "parts" "I", .fieldLink RX1 18 "ParityRow$Entry" "way" "I", .arrayClass .int, .fieldLink RX1 21 "ParityRow$Entry" "words" "[I"] ++ wsX10)
def wsX1_begin : List Cond := .code yX1_begin cX1_begin 2 none :: ([.fieldLink RX1 9 "ParityRow$Entry" "stripe" "I", .fieldLink RX1 15 "ParityRow$Entry" "parts" "I"] ++ wsX10)
def wsX1_has : List Cond := .code yX1_has cX1_has 2 (some .boolean) :: ([.fieldLink RX1 15 "ParityRow$Entry" "parts" "I"] ++ wsX10)
def wsJ6_bitCount_0f7a4 : List Cond := .code yJ6_bitCount_0f7a4 cJ6_bitCount_0f7a4 1 (some .int) :: ([.constant RJ6 265 (1431655765), .constant RJ6 266 (858993459), .constant RJ6 267 (252645135)])
def wsX1_cells : List Cond := .code yX1_cells cX1_cells 1 (some .int) :: ([.fieldLink RX1 15 "ParityRow$Entry" "parts" "I", .methodLink RX1 25 yJ6_bitCount_0f7a4, .static yJ6_bitCount_0f7a4, .initialized RJ6, .code yJ6_bitCount_0f7a4 cJ6_bitCount_0f7a4 1 (some .int), .constant RJ6 265 (1431655765), .constant RJ6 266 (858993459), .constant RJ6 267 (252645135)] ++ wsX10)
def wsX1_addDatum : List Cond := .code yX1_addDatum cX1_addDatum 4 none :: ([.fieldLink RX1 15 "ParityRow$Entry" "parts" "I", .fieldLink RX1 21 "ParityRow$Entry" "words" "[I"] ++ wsX10)
def wsX1_addWords : List Cond := .code yX1_addWords cX1_addWords 4 none :: ([.fieldLink RX1 15 "ParityRow$Entry" "parts" "I", .fieldLink RX1 21 "ParityRow$Entry" "words" "[I"] ++ wsX10)
def wsX2_init : List Cond := .code yX2_init cX2_init 3 none :: ([.methodLink RX2 3 objectInit, .instanceMethod objectInit, .code objectInit ⟨#[0xb1]⟩ 1 none, .classLink RX2 9 RX1, .fieldLink RX2 11 "ParityRow$Journal" "slots" "[LParityRow$Entry;", .fieldLink RX2 17 "ParityRow$Journal" "oldest" "I", .fieldLink RX2 21 "ParityRow$Journal" "records" "I", .fieldLink RX2 24 "ParityRow$Journal" "usedCells" "I", .fieldLink RX2 27 "ParityRow$Journal" "markCell" "I", .fieldLink RX2 30 "ParityRow$Journal" "markSerial" "I", .instantiable RX1 4, .initialized RX1, .instanceMethod yX1_init, .code yX1_init cX1_init 2 none, .methodLink RX1 3 objectInit, .fieldLink RX1 9 "ParityRow$Entry" "stripe" "I", .fieldLink RX1 15 "ParityRow$Entry" "parts" "I", .fieldLink RX1 18 "ParityRow$Entry" "way" "I", .arrayClass .int, .fieldLink RX1 21 "ParityRow$Entry" "words" "[I"] ++ wsX20 ++ wsX10)
def wsX2_entry : List Cond := .code yX2_entry cX2_entry 2 (some (.object "ParityRow$Entry")) :: ([.fieldLink RX2 11 "ParityRow$Journal" "slots" "[LParityRow$Entry;", .fieldLink RX2 17 "ParityRow$Journal" "oldest" "I"] ++ wsX20)
def wsX2_made : List Cond := .code yX2_made cX2_made 1 (some (.object "ParityRow$Entry")) :: ([.fieldLink RX2 21 "ParityRow$Journal" "records" "I", .methodLink RX2 36 yX2_entry, .instanceMethod yX2_entry, .selects RX2 yX2_entry yX2_entry, .initialized RX2, .code yX2_entry cX2_entry 2 (some (.object "ParityRow$Entry")), .fieldLink RX2 11 "ParityRow$Journal" "slots" "[LParityRow$Entry;", .fieldLink RX2 17 "ParityRow$Journal" "oldest" "I"] ++ wsX20)
def wsX2_addMade_r1 : List Cond := [Cond.fieldLink RX2 24 "ParityRow$Journal" "usedCells" "I", Cond.fieldLink RX2 21 "ParityRow$Journal" "records" "I", Cond.methodLink RX2 40 yX2_made, Cond.instanceMethod yX2_made, Cond.selects RX2 yX2_made yX2_made, Cond.initialized RX2, Cond.code yX2_made cX2_made 1 (some (.object "ParityRow$Entry")), Cond.methodLink RX2 36 yX2_entry, Cond.instanceMethod yX2_entry, Cond.selects RX2 yX2_entry yX2_entry, Cond.code yX2_entry cX2_entry 2 (some (.object "ParityRow$Entry")), Cond.fieldLink RX2 11 "ParityRow$Journal" "slots" "[LParityRow$Entry;", Cond.fieldLink RX2 17 "ParityRow$Journal" "oldest" "I", Cond.instanceMethod yX1_cells, Cond.initialized RX1, Cond.selects RX1 yX1_cells yX1_cells, Cond.code yX1_cells cX1_cells 1 (some .int), Cond.fieldLink RX1 15 "ParityRow$Entry" "parts" "I", Cond.methodLink RX1 25 yJ6_bitCount_0f7a4, Cond.static yJ6_bitCount_0f7a4, Cond.initialized RJ6, Cond.code yJ6_bitCount_0f7a4 cJ6_bitCount_0f7a4 1 (some .int), Cond.constant RJ6 265 (1431655765), Cond.constant RJ6 266 (858993459)]
def wsX2_addMade_r2 : List Cond := [Cond.constant RJ6 267 (252645135)]
def wsX2_addMade : List Cond := .code yX2_addMade cX2_addMade 1 none :: ((wsX2_addMade_r1 ++ wsX2_addMade_r2) ++ wsX20 ++ wsX10)
def wsX2_freeCells : List Cond := .code yX2_freeCells cX2_freeCells 1 (some .int) :: ([.fieldLink RX2 24 "ParityRow$Journal" "usedCells" "I"] ++ wsX20)
def wsX2_nextSerial : List Cond := .code yX2_nextSerial cX2_nextSerial 1 (some .int) :: ([.fieldLink RX2 30 "ParityRow$Journal" "markSerial" "I", .fieldLink RX2 21 "ParityRow$Journal" "records" "I"] ++ wsX20)
def wsX2_latestWith : List Cond := .code yX2_latestWith cX2_latestWith 5 (some (.object "ParityRow$Entry")) :: ([.fieldLink RX2 21 "ParityRow$Journal" "records" "I", .methodLink RX2 36 yX2_entry, .instanceMethod yX2_entry, .selects RX2 yX2_entry yX2_entry, .initialized RX2, .code yX2_entry cX2_entry 2 (some (.object "ParityRow$Entry")), .fieldLink RX2 11 "ParityRow$Journal" "slots" "[LParityRow$Entry;", .fieldLink RX2 17 "ParityRow$Journal" "oldest" "I", .instanceMethod yX1_has, .initialized RX1, .selects RX1 yX1_has yX1_has, .code yX1_has cX1_has 2 (some .boolean), .fieldLink RX1 15 "ParityRow$Entry" "parts" "I"] ++ wsX20 ++ wsX10)
def wsX2_recordsUpTo : List Cond := .code yX2_recordsUpTo cX2_recordsUpTo 4 (some .int) :: ([.fieldLink RX2 21 "ParityRow$Journal" "records" "I", .methodLink RX2 36 yX2_entry, .instanceMethod yX2_entry, .selects RX2 yX2_entry yX2_entry, .initialized RX2, .code yX2_entry cX2_entry 2 (some (.object "ParityRow$Entry")), .fieldLink RX2 11 "ParityRow$Journal" "slots" "[LParityRow$Entry;", .fieldLink RX2 17 "ParityRow$Journal" "oldest" "I"] ++ wsX20 ++ wsX10)
def wsX2_recordsToFree_r1 : List Cond := [Cond.fieldLink RX2 21 "ParityRow$Journal" "records" "I", Cond.methodLink RX2 55 yX2_freeCells, Cond.instanceMethod yX2_freeCells, Cond.selects RX2 yX2_freeCells yX2_freeCells, Cond.initialized RX2, Cond.code yX2_freeCells cX2_freeCells 1 (some .int), Cond.fieldLink RX2 24 "ParityRow$Journal" "usedCells" "I", Cond.methodLink RX2 36 yX2_entry, Cond.instanceMethod yX2_entry, Cond.selects RX2 yX2_entry yX2_entry, Cond.code yX2_entry cX2_entry 2 (some (.object "ParityRow$Entry")), Cond.fieldLink RX2 11 "ParityRow$Journal" "slots" "[LParityRow$Entry;", Cond.fieldLink RX2 17 "ParityRow$Journal" "oldest" "I", Cond.instanceMethod yX1_cells, Cond.initialized RX1, Cond.selects RX1 yX1_cells yX1_cells, Cond.code yX1_cells cX1_cells 1 (some .int), Cond.fieldLink RX1 15 "ParityRow$Entry" "parts" "I", Cond.methodLink RX1 25 yJ6_bitCount_0f7a4, Cond.static yJ6_bitCount_0f7a4, Cond.initialized RJ6, Cond.code yJ6_bitCount_0f7a4 cJ6_bitCount_0f7a4 1 (some .int), Cond.constant RJ6 265 (1431655765), Cond.constant RJ6 266 (858993459)]
def wsX2_recordsToFree_r2 : List Cond := [Cond.constant RJ6 267 (252645135)]
def wsX2_recordsToFree : List Cond := .code yX2_recordsToFree cX2_recordsToFree 4 (some .int) :: ((wsX2_recordsToFree_r1 ++ wsX2_recordsToFree_r2) ++ wsX20 ++ wsX10)
def wsX2_free : List Cond := .code yX2_free cX2_free 4 none :: ([.fieldLink RX2 21 "ParityRow$Journal" "records" "I", .fieldLink RX2 27 "ParityRow$Journal" "markCell" "I", .fieldLink RX2 30 "ParityRow$Journal" "markSerial" "I", .fieldLink RX2 24 "ParityRow$Journal" "usedCells" "I", .fieldLink RX2 17 "ParityRow$Journal" "oldest" "I", .methodLink RX2 36 yX2_entry, .instanceMethod yX2_entry, .selects RX2 yX2_entry yX2_entry, .initialized RX2, .code yX2_entry cX2_entry 2 (some (.object "ParityRow$Entry")), .fieldLink RX2 11 "ParityRow$Journal" "slots" "[LParityRow$Entry;", .instanceMethod yX1_cells, .initialized RX1, .selects RX1 yX1_cells yX1_cells, .code yX1_cells cX1_cells 1 (some .int), .fieldLink RX1 15 "ParityRow$Entry" "parts" "I", .methodLink RX1 25 yJ6_bitCount_0f7a4, .static yJ6_bitCount_0f7a4, .initialized RJ6, .code yJ6_bitCount_0f7a4 cJ6_bitCount_0f7a4 1 (some .int), .constant RJ6 265 (1431655765), .constant RJ6 266 (858993459), .constant RJ6 267 (252645135)] ++ wsX20 ++ wsX10)
def wsJ9_floorMod_7cf53 : List Cond := .code yJ9_floorMod_7cf53 cJ9_floorMod_7cf53 3 (some .int) :: ([])
def wsX3_init_r1 : List Cond := [Cond.methodLink RX3 3 objectInit, Cond.instanceMethod objectInit, Cond.code objectInit ⟨#[0xb1]⟩ 1 none, Cond.arrayClass .int, Cond.fieldLink RX3 9 "ParityRow" "tally" "[I", Cond.fieldLink RX3 13 "ParityRow" "mixed" "[I", Cond.fieldLink RX3 16 "ParityRow" "down" "Z", Cond.fieldLink RX3 20 "ParityRow" "writesToCut" "I", Cond.fieldLink RX3 24 "ParityRow" "tear" "I", Cond.fieldLink RX3 27 "ParityRow" "nextScrub" "I", Cond.fieldLink RX3 36 "ParityRow" "width" "I", Cond.fieldLink RX3 39 "ParityRow" "data" "I", Cond.classLink RX3 42 RX0, Cond.fieldLink RX3 44 "ParityRow" "disks" "[LParityRow$Disk;", Cond.instantiable RX0 6, Cond.initialized RX0, Cond.classLink RX3 49 RX2, Cond.instantiable RX2 6, Cond.initialized RX2, Cond.fieldLink RX3 54 "ParityRow" "log" "LParityRow$Journal;", Cond.methodLink RX3 30 yJ9_floorMod_7cf53, Cond.static yJ9_floorMod_7cf53, Cond.initialized RJ9, Cond.code yJ9_floorMod_7cf53 cJ9_floorMod_7cf53 3 (some .int)]
def wsX3_init_r2 : List Cond := [Cond.instanceMethod yX0_init, Cond.code yX0_init cX0_init 1 none, Cond.methodLink RX0 3 objectInit, Cond.fieldLink RX0 9 "ParityRow$Disk" "words" "[I", Cond.fieldLink RX0 15 "ParityRow$Disk" "sums" "[I", Cond.arrayClass .boolean, Cond.fieldLink RX0 18 "ParityRow$Disk" "torn" "[Z", Cond.fieldLink RX0 22 "ParityRow$Disk" "state" "I", Cond.fieldLink RX0 26 "ParityRow$Disk" "built" "I", Cond.fieldLink RX0 29 "ParityRow$Disk" "written" "I", Cond.instanceMethod yX2_init, Cond.code yX2_init cX2_init 3 none, Cond.methodLink RX2 3 objectInit, Cond.classLink RX2 9 RX1, Cond.fieldLink RX2 11 "ParityRow$Journal" "slots" "[LParityRow$Entry;", Cond.fieldLink RX2 17 "ParityRow$Journal" "oldest" "I", Cond.fieldLink RX2 21 "ParityRow$Journal" "records" "I", Cond.fieldLink RX2 24 "ParityRow$Journal" "usedCells" "I", Cond.fieldLink RX2 27 "ParityRow$Journal" "markCell" "I", Cond.fieldLink RX2 30 "ParityRow$Journal" "markSerial" "I", Cond.instantiable RX1 4, Cond.initialized RX1, Cond.instanceMethod yX1_init, Cond.code yX1_init cX1_init 2 none]
def wsX3_init_r3 : List Cond := [Cond.methodLink RX1 3 objectInit, Cond.fieldLink RX1 9 "ParityRow$Entry" "stripe" "I", Cond.fieldLink RX1 15 "ParityRow$Entry" "parts" "I", Cond.fieldLink RX1 18 "ParityRow$Entry" "way" "I", Cond.fieldLink RX1 21 "ParityRow$Entry" "words" "[I"]
def wsX3_init : List Cond := .code yX3_init cX3_init 3 none :: ((wsX3_init_r1 ++ (wsX3_init_r2 ++ wsX3_init_r3)) ++ wsX30 ++ wsX00 ++ wsX20 ++ wsX10)
def wsX3_members : List Cond := .code yX3_members cX3_members 1 (some .int) :: ([.fieldLink RX3 36 "ParityRow" "width" "I"] ++ wsX30)
def wsX3_isBlock : List Cond := .code yX3_isBlock cX3_isBlock 2 (some .boolean) :: ([.fieldLink RX3 39 "ParityRow" "data" "I"] ++ wsX30)
def wsX3_parityMember : List Cond := .code yX3_parityMember cX3_parityMember 2 (some .int) :: ([.fieldLink RX3 36 "ParityRow" "width" "I"] ++ wsX30)
def wsX3_memberOf : List Cond := .code yX3_memberOf cX3_memberOf 3 (some .int) :: ([.fieldLink RX3 36 "ParityRow" "width" "I", .methodLink RX3 65 yX3_parityMember, .instanceMethod yX3_parityMember, .selects RX3 yX3_parityMember yX3_parityMember, .initialized RX3, .code yX3_parityMember cX3_parityMember 2 (some .int)] ++ wsX30)
def wsX3_place : List Cond := .code yX3_place cX3_place 4 (some .int) :: ([.fieldLink RX3 39 "ParityRow" "data" "I", .methodLink RX3 58 yX3_isBlock, .instanceMethod yX3_isBlock, .selects RX3 yX3_isBlock yX3_isBlock, .initialized RX3, .code yX3_isBlock cX3_isBlock 2 (some .boolean), .methodLink RX3 62 yX3_memberOf, .instanceMethod yX3_memberOf, .selects RX3 yX3_memberOf yX3_memberOf, .code yX3_memberOf cX3_memberOf 3 (some .int), .fieldLink RX3 36 "ParityRow" "width" "I", .methodLink RX3 65 yX3_parityMember, .instanceMethod yX3_parityMember, .selects RX3 yX3_parityMember yX3_parityMember, .code yX3_parityMember cX3_parityMember 2 (some .int)] ++ wsX30)
def wsX3_allData : List Cond := .code yX3_allData cX3_allData 1 (some .int) :: ([.fieldLink RX3 39 "ParityRow" "data" "I"] ++ wsX30)
def wsX3_needed : List Cond := .code yX3_needed cX3_needed 3 (some .int) :: ([.fieldLink RX3 39 "ParityRow" "data" "I", .methodLink RX3 194 yX3_allData, .instanceMethod yX3_allData, .selects RX3 yX3_allData yX3_allData, .initialized RX3, .code yX3_allData cX3_allData 1 (some .int)] ++ wsX30)
def wsX3_isNewestNone_r1 : List Cond := [Cond.fieldLink RX3 54 "ParityRow" "log" "LParityRow$Journal;", Cond.fieldLink RX3 44 "ParityRow" "disks" "[LParityRow$Disk;", Cond.instanceMethod yX2_latestWith, Cond.initialized RX2, Cond.selects RX2 yX2_latestWith yX2_latestWith, Cond.code yX2_latestWith cX2_latestWith 5 (some (.object "ParityRow$Entry")), Cond.fieldLink RX2 21 "ParityRow$Journal" "records" "I", Cond.methodLink RX2 36 yX2_entry, Cond.instanceMethod yX2_entry, Cond.selects RX2 yX2_entry yX2_entry, Cond.code yX2_entry cX2_entry 2 (some (.object "ParityRow$Entry")), Cond.fieldLink RX2 11 "ParityRow$Journal" "slots" "[LParityRow$Entry;", Cond.fieldLink RX2 17 "ParityRow$Journal" "oldest" "I", Cond.instanceMethod yX1_has, Cond.initialized RX1, Cond.selects RX1 yX1_has yX1_has, Cond.code yX1_has cX1_has 2 (some .boolean), Cond.fieldLink RX1 15 "ParityRow$Entry" "parts" "I", Cond.methodLink RX3 62 yX3_memberOf, Cond.instanceMethod yX3_memberOf, Cond.selects RX3 yX3_memberOf yX3_memberOf, Cond.initialized RX3, Cond.code yX3_memberOf cX3_memberOf 3 (some .int), Cond.fieldLink RX3 36 "ParityRow" "width" "I"]
def wsX3_isNewestNone_r2 : List Cond := [Cond.methodLink RX3 65 yX3_parityMember, Cond.instanceMethod yX3_parityMember, Cond.selects RX3 yX3_parityMember yX3_parityMember, Cond.code yX3_parityMember cX3_parityMember 2 (some .int), Cond.instanceMethod yX0_isThere, Cond.initialized RX0, Cond.selects RX0 yX0_isThere yX0_isThere, Cond.code yX0_isThere cX0_isThere 2 (some .boolean), Cond.fieldLink RX0 18 "ParityRow$Disk" "torn" "[Z", Cond.fieldLink RX0 15 "ParityRow$Disk" "sums" "[I", Cond.fieldLink RX0 9 "ParityRow$Disk" "words" "[I", Cond.methodLink RX0 32 yX0_isOn, Cond.instanceMethod yX0_isOn, Cond.selects RX0 yX0_isOn yX0_isOn, Cond.code yX0_isOn cX0_isOn 2 (some .boolean), Cond.fieldLink RX0 26 "ParityRow$Disk" "built" "I", Cond.methodLink RX0 36 yX0_sumOf, Cond.static yX0_sumOf, Cond.code yX0_sumOf cX0_sumOf 4 (some .int)]
def wsX3_isNewestNone : List Cond := .code yX3_isNewestNone cX3_isNewestNone 3 (some .boolean) :: ((wsX3_isNewestNone_r1 ++ wsX3_isNewestNone_r2) ++ wsX30 ++ wsX20 ++ wsX10 ++ wsX00)
def wsX3_haveNewest_r1 : List Cond := [Cond.fieldLink RX3 36 "ParityRow" "width" "I", Cond.methodLink RX3 216 yX3_isNewestNone, Cond.instanceMethod yX3_isNewestNone, Cond.selects RX3 yX3_isNewestNone yX3_isNewestNone, Cond.initialized RX3, Cond.code yX3_isNewestNone cX3_isNewestNone 3 (some .boolean), Cond.fieldLink RX3 54 "ParityRow" "log" "LParityRow$Journal;", Cond.fieldLink RX3 44 "ParityRow" "disks" "[LParityRow$Disk;", Cond.instanceMethod yX2_latestWith, Cond.initialized RX2, Cond.selects RX2 yX2_latestWith yX2_latestWith, Cond.code yX2_latestWith cX2_latestWith 5 (some (.object "ParityRow$Entry")), Cond.fieldLink RX2 21 "ParityRow$Journal" "records" "I", Cond.methodLink RX2 36 yX2_entry, Cond.instanceMethod yX2_entry, Cond.selects RX2 yX2_entry yX2_entry, Cond.code yX2_entry cX2_entry 2 (some (.object "ParityRow$Entry")), Cond.fieldLink RX2 11 "ParityRow$Journal" "slots" "[LParityRow$Entry;", Cond.fieldLink RX2 17 "ParityRow$Journal" "oldest" "I", Cond.instanceMethod yX1_has, Cond.initialized RX1, Cond.selects RX1 yX1_has yX1_has, Cond.code yX1_has cX1_has 2 (some .boolean), Cond.fieldLink RX1 15 "ParityRow$Entry" "parts" "I"]
def wsX3_haveNewest_r2 : List Cond := [Cond.methodLink RX3 62 yX3_memberOf, Cond.instanceMethod yX3_memberOf, Cond.selects RX3 yX3_memberOf yX3_memberOf, Cond.code yX3_memberOf cX3_memberOf 3 (some .int), Cond.methodLink RX3 65 yX3_parityMember, Cond.instanceMethod yX3_parityMember, Cond.selects RX3 yX3_parityMember yX3_parityMember, Cond.code yX3_parityMember cX3_parityMember 2 (some .int), Cond.instanceMethod yX0_isThere, Cond.initialized RX0, Cond.selects RX0 yX0_isThere yX0_isThere, Cond.code yX0_isThere cX0_isThere 2 (some .boolean), Cond.fieldLink RX0 18 "ParityRow$Disk" "torn" "[Z", Cond.fieldLink RX0 15 "ParityRow$Disk" "sums" "[I", Cond.fieldLink RX0 9 "ParityRow$Disk" "words" "[I", Cond.methodLink RX0 32 yX0_isOn, Cond.instanceMethod yX0_isOn, Cond.selects RX0 yX0_isOn yX0_isOn, Cond.code yX0_isOn cX0_isOn 2 (some .boolean), Cond.fieldLink RX0 26 "ParityRow$Disk" "built" "I", Cond.methodLink RX0 36 yX0_sumOf, Cond.static yX0_sumOf, Cond.code yX0_sumOf cX0_sumOf 4 (some .int)]
def wsX3_haveNewest : List Cond := .code yX3_haveNewest cX3_haveNewest 5 (some .boolean) :: ((wsX3_haveNewest_r1 ++ wsX3_haveNewest_r2) ++ wsX30 ++ wsX20 ++ wsX10 ++ wsX00)
def wsX3_chooseWay_r1 : List Cond := [Cond.fieldLink RX3 44 "ParityRow" "disks" "[LParityRow$Disk;", Cond.methodLink RX3 194 yX3_allData, Cond.instanceMethod yX3_allData, Cond.selects RX3 yX3_allData yX3_allData, Cond.initialized RX3, Cond.code yX3_allData cX3_allData 1 (some .int), Cond.fieldLink RX3 39 "ParityRow" "data" "I", Cond.methodLink RX3 65 yX3_parityMember, Cond.instanceMethod yX3_parityMember, Cond.selects RX3 yX3_parityMember yX3_parityMember, Cond.code yX3_parityMember cX3_parityMember 2 (some .int), Cond.fieldLink RX3 36 "ParityRow" "width" "I", Cond.instanceMethod yX0_isOn, Cond.initialized RX0, Cond.selects RX0 yX0_isOn yX0_isOn, Cond.code yX0_isOn cX0_isOn 2 (some .boolean), Cond.fieldLink RX0 26 "ParityRow$Disk" "built" "I", Cond.methodLink RX3 277 yX3_needed, Cond.instanceMethod yX3_needed, Cond.selects RX3 yX3_needed yX3_needed, Cond.code yX3_needed cX3_needed 3 (some .int), Cond.methodLink RX3 280 yX3_haveNewest, Cond.instanceMethod yX3_haveNewest, Cond.selects RX3 yX3_haveNewest yX3_haveNewest]
def wsX3_chooseWay_r2 : List Cond := [Cond.code yX3_haveNewest cX3_haveNewest 5 (some .boolean), Cond.methodLink RX3 216 yX3_isNewestNone, Cond.instanceMethod yX3_isNewestNone, Cond.selects RX3 yX3_isNewestNone yX3_isNewestNone, Cond.code yX3_isNewestNone cX3_isNewestNone 3 (some .boolean), Cond.fieldLink RX3 54 "ParityRow" "log" "LParityRow$Journal;", Cond.instanceMethod yX2_latestWith, Cond.initialized RX2, Cond.selects RX2 yX2_latestWith yX2_latestWith, Cond.code yX2_latestWith cX2_latestWith 5 (some (.object "ParityRow$Entry")), Cond.fieldLink RX2 21 "ParityRow$Journal" "records" "I", Cond.methodLink RX2 36 yX2_entry, Cond.instanceMethod yX2_entry, Cond.selects RX2 yX2_entry yX2_entry, Cond.code yX2_entry cX2_entry 2 (some (.object "ParityRow$Entry")), Cond.fieldLink RX2 11 "ParityRow$Journal" "slots" "[LParityRow$Entry;", Cond.fieldLink RX2 17 "ParityRow$Journal" "oldest" "I", Cond.instanceMethod yX1_has, Cond.initialized RX1, Cond.selects RX1 yX1_has yX1_has, Cond.code yX1_has cX1_has 2 (some .boolean), Cond.fieldLink RX1 15 "ParityRow$Entry" "parts" "I", Cond.methodLink RX3 62 yX3_memberOf, Cond.instanceMethod yX3_memberOf]
def wsX3_chooseWay_r3 : List Cond := [Cond.selects RX3 yX3_memberOf yX3_memberOf, Cond.code yX3_memberOf cX3_memberOf 3 (some .int), Cond.instanceMethod yX0_isThere, Cond.selects RX0 yX0_isThere yX0_isThere, Cond.code yX0_isThere cX0_isThere 2 (some .boolean), Cond.fieldLink RX0 18 "ParityRow$Disk" "torn" "[Z", Cond.fieldLink RX0 15 "ParityRow$Disk" "sums" "[I", Cond.fieldLink RX0 9 "ParityRow$Disk" "words" "[I", Cond.methodLink RX0 32 yX0_isOn, Cond.methodLink RX0 36 yX0_sumOf, Cond.static yX0_sumOf, Cond.code yX0_sumOf cX0_sumOf 4 (some .int), Cond.methodLink RX3 283 yJ6_bitCount_0f7a4, Cond.static yJ6_bitCount_0f7a4, Cond.initialized RJ6, Cond.code yJ6_bitCount_0f7a4 cJ6_bitCount_0f7a4 1 (some .int), Cond.constant RJ6 265 (1431655765), Cond.constant RJ6 266 (858993459), Cond.constant RJ6 267 (252645135)]
def wsX3_chooseWay : List Cond := .code yX3_chooseWay cX3_chooseWay 7 (some .int) :: ((wsX3_chooseWay_r1 ++ (wsX3_chooseWay_r2 ++ wsX3_chooseWay_r3)) ++ wsX30 ++ wsX00 ++ wsX20 ++ wsX10)
def wsX3_clearMixed : List Cond := .code yX3_clearMixed cX3_clearMixed 2 none :: ([.fieldLink RX3 13 "ParityRow" "mixed" "[I"] ++ wsX30)
def wsX3_mix : List Cond := .code yX3_mix cX3_mix 4 none :: ([.fieldLink RX3 13 "ParityRow" "mixed" "[I"] ++ wsX30)
def wsX3_mixNewest_r1 : List Cond := [Cond.fieldLink RX3 54 "ParityRow" "log" "LParityRow$Journal;", Cond.fieldLink RX3 44 "ParityRow" "disks" "[LParityRow$Disk;", Cond.instanceMethod yX2_latestWith, Cond.initialized RX2, Cond.selects RX2 yX2_latestWith yX2_latestWith, Cond.code yX2_latestWith cX2_latestWith 5 (some (.object "ParityRow$Entry")), Cond.fieldLink RX2 21 "ParityRow$Journal" "records" "I", Cond.methodLink RX2 36 yX2_entry, Cond.instanceMethod yX2_entry, Cond.selects RX2 yX2_entry yX2_entry, Cond.code yX2_entry cX2_entry 2 (some (.object "ParityRow$Entry")), Cond.fieldLink RX2 11 "ParityRow$Journal" "slots" "[LParityRow$Entry;", Cond.fieldLink RX2 17 "ParityRow$Journal" "oldest" "I", Cond.instanceMethod yX1_has, Cond.initialized RX1, Cond.selects RX1 yX1_has yX1_has, Cond.code yX1_has cX1_has 2 (some .boolean), Cond.fieldLink RX1 15 "ParityRow$Entry" "parts" "I", Cond.methodLink RX3 219 yX3_mix, Cond.instanceMethod yX3_mix, Cond.selects RX3 yX3_mix yX3_mix, Cond.initialized RX3, Cond.code yX3_mix cX3_mix 4 none, Cond.fieldLink RX3 13 "ParityRow" "mixed" "[I"]
def wsX3_mixNewest_r2 : List Cond := [Cond.methodLink RX3 62 yX3_memberOf, Cond.instanceMethod yX3_memberOf, Cond.selects RX3 yX3_memberOf yX3_memberOf, Cond.code yX3_memberOf cX3_memberOf 3 (some .int), Cond.fieldLink RX3 36 "ParityRow" "width" "I", Cond.methodLink RX3 65 yX3_parityMember, Cond.instanceMethod yX3_parityMember, Cond.selects RX3 yX3_parityMember yX3_parityMember, Cond.code yX3_parityMember cX3_parityMember 2 (some .int)]
def wsX3_mixNewest : List Cond := .code yX3_mixNewest cX3_mixNewest 4 (some .boolean) :: ((wsX3_mixNewest_r1 ++ wsX3_mixNewest_r2) ++ wsX30 ++ wsX10 ++ wsX00 ++ wsX20)
def wsX3_addParity_r1 : List Cond := [Cond.fieldLink RX3 36 "ParityRow" "width" "I", Cond.fieldLink RX3 9 "ParityRow" "tally" "[I", Cond.fieldLink RX3 39 "ParityRow" "data" "I", Cond.fieldLink RX3 13 "ParityRow" "mixed" "[I", Cond.methodLink RX3 277 yX3_needed, Cond.instanceMethod yX3_needed, Cond.selects RX3 yX3_needed yX3_needed, Cond.initialized RX3, Cond.code yX3_needed cX3_needed 3 (some .int), Cond.methodLink RX3 194 yX3_allData, Cond.instanceMethod yX3_allData, Cond.selects RX3 yX3_allData yX3_allData, Cond.code yX3_allData cX3_allData 1 (some .int), Cond.methodLink RX3 96 yX3_clearMixed, Cond.instanceMethod yX3_clearMixed, Cond.selects RX3 yX3_clearMixed yX3_clearMixed, Cond.code yX3_clearMixed cX3_clearMixed 2 none, Cond.instanceMethod yX1_has, Cond.initialized RX1, Cond.selects RX1 yX1_has yX1_has, Cond.code yX1_has cX1_has 2 (some .boolean), Cond.fieldLink RX1 15 "ParityRow$Entry" "parts" "I", Cond.methodLink RX3 219 yX3_mix, Cond.instanceMethod yX3_mix]
def wsX3_addParity_r2 : List Cond := [Cond.selects RX3 yX3_mix yX3_mix, Cond.code yX3_mix cX3_mix 4 none, Cond.methodLink RX3 103 yX3_mixNewest, Cond.instanceMethod yX3_mixNewest, Cond.selects RX3 yX3_mixNewest yX3_mixNewest, Cond.code yX3_mixNewest cX3_mixNewest 4 (some .boolean), Cond.fieldLink RX3 54 "ParityRow" "log" "LParityRow$Journal;", Cond.fieldLink RX3 44 "ParityRow" "disks" "[LParityRow$Disk;", Cond.instanceMethod yX2_latestWith, Cond.initialized RX2, Cond.selects RX2 yX2_latestWith yX2_latestWith, Cond.code yX2_latestWith cX2_latestWith 5 (some (.object "ParityRow$Entry")), Cond.fieldLink RX2 21 "ParityRow$Journal" "records" "I", Cond.methodLink RX2 36 yX2_entry, Cond.instanceMethod yX2_entry, Cond.selects RX2 yX2_entry yX2_entry, Cond.code yX2_entry cX2_entry 2 (some (.object "ParityRow$Entry")), Cond.fieldLink RX2 11 "ParityRow$Journal" "slots" "[LParityRow$Entry;", Cond.fieldLink RX2 17 "ParityRow$Journal" "oldest" "I", Cond.methodLink RX3 62 yX3_memberOf, Cond.instanceMethod yX3_memberOf, Cond.selects RX3 yX3_memberOf yX3_memberOf, Cond.code yX3_memberOf cX3_memberOf 3 (some .int), Cond.methodLink RX3 65 yX3_parityMember]
def wsX3_addParity_r3 : List Cond := [Cond.instanceMethod yX3_parityMember, Cond.selects RX3 yX3_parityMember yX3_parityMember, Cond.code yX3_parityMember cX3_parityMember 2 (some .int), Cond.instanceMethod yX1_addWords, Cond.selects RX1 yX1_addWords yX1_addWords, Cond.code yX1_addWords cX1_addWords 4 none, Cond.fieldLink RX1 21 "ParityRow$Entry" "words" "[I"]
def wsX3_addParity : List Cond := .code yX3_addParity cX3_addParity 4 none :: ((wsX3_addParity_r1 ++ (wsX3_addParity_r2 ++ wsX3_addParity_r3)) ++ wsX10 ++ wsX30 ++ wsX00 ++ wsX20)
def wsX3_powerStays : List Cond := .code yX3_powerStays cX3_powerStays 2 (some .boolean) :: ([.fieldLink RX3 9 "ParityRow" "tally" "[I", .fieldLink RX3 20 "ParityRow" "writesToCut" "I", .fieldLink RX3 16 "ParityRow" "down" "Z", .fieldLink RX3 27 "ParityRow" "nextScrub" "I", .fieldLink RX3 36 "ParityRow" "width" "I", .fieldLink RX3 44 "ParityRow" "disks" "[LParityRow$Disk;", .instanceMethod yX0_forgetBuilding, .initialized RX0, .selects RX0 yX0_forgetBuilding yX0_forgetBuilding, .code yX0_forgetBuilding cX0_forgetBuilding 1 none, .fieldLink RX0 22 "ParityRow$Disk" "state" "I", .fieldLink RX0 26 "ParityRow$Disk" "built" "I"] ++ wsX30 ++ wsX00)
def wsX3_putChunk_r1 : List Cond := [Cond.fieldLink RX3 44 "ParityRow" "disks" "[LParityRow$Disk;", Cond.fieldLink RX3 24 "ParityRow" "tear" "I", Cond.methodLink RX3 227 yX3_powerStays, Cond.instanceMethod yX3_powerStays, Cond.selects RX3 yX3_powerStays yX3_powerStays, Cond.initialized RX3, Cond.code yX3_powerStays cX3_powerStays 2 (some .boolean), Cond.fieldLink RX3 9 "ParityRow" "tally" "[I", Cond.fieldLink RX3 20 "ParityRow" "writesToCut" "I", Cond.fieldLink RX3 16 "ParityRow" "down" "Z", Cond.fieldLink RX3 27 "ParityRow" "nextScrub" "I", Cond.fieldLink RX3 36 "ParityRow" "width" "I", Cond.instanceMethod yX0_forgetBuilding, Cond.initialized RX0, Cond.selects RX0 yX0_forgetBuilding yX0_forgetBuilding, Cond.code yX0_forgetBuilding cX0_forgetBuilding 1 none, Cond.fieldLink RX0 22 "ParityRow$Disk" "state" "I", Cond.fieldLink RX0 26 "ParityRow$Disk" "built" "I", Cond.instanceMethod yX0_take, Cond.selects RX0 yX0_take yX0_take, Cond.code yX0_take cX0_take 6 none, Cond.fieldLink RX0 9 "ParityRow$Disk" "words" "[I", Cond.fieldLink RX0 15 "ParityRow$Disk" "sums" "[I", Cond.fieldLink RX0 18 "ParityRow$Disk" "torn" "[Z"]
def wsX3_putChunk_r2 : List Cond := [Cond.fieldLink RX0 29 "ParityRow$Disk" "written" "I", Cond.methodLink RX0 36 yX0_sumOf, Cond.static yX0_sumOf, Cond.code yX0_sumOf cX0_sumOf 4 (some .int)]
def wsX3_putChunk : List Cond := .code yX3_putChunk cX3_putChunk 6 (some .boolean) :: ((wsX3_putChunk_r1 ++ wsX3_putChunk_r2) ++ wsX30 ++ wsX00)
def wsX3_putEntry_r1 : List Cond := [Cond.fieldLink RX3 36 "ParityRow" "width" "I", Cond.fieldLink RX3 44 "ParityRow" "disks" "[LParityRow$Disk;", Cond.methodLink RX3 62 yX3_memberOf, Cond.instanceMethod yX3_memberOf, Cond.selects RX3 yX3_memberOf yX3_memberOf, Cond.initialized RX3, Cond.code yX3_memberOf cX3_memberOf 3 (some .int), Cond.methodLink RX3 65 yX3_parityMember, Cond.instanceMethod yX3_parityMember, Cond.selects RX3 yX3_parityMember yX3_parityMember, Cond.code yX3_parityMember cX3_parityMember 2 (some .int), Cond.instanceMethod yX1_has, Cond.initialized RX1, Cond.selects RX1 yX1_has yX1_has, Cond.code yX1_has cX1_has 2 (some .boolean), Cond.fieldLink RX1 15 "ParityRow$Entry" "parts" "I", Cond.instanceMethod yX0_isOn, Cond.initialized RX0, Cond.selects RX0 yX0_isOn yX0_isOn, Cond.code yX0_isOn cX0_isOn 2 (some .boolean), Cond.fieldLink RX0 26 "ParityRow$Disk" "built" "I", Cond.methodLink RX3 240 yX3_putChunk, Cond.instanceMethod yX3_putChunk, Cond.selects RX3 yX3_putChunk yX3_putChunk]
def wsX3_putEntry_r2 : List Cond := [Cond.code yX3_putChunk cX3_putChunk 6 (some .boolean), Cond.fieldLink RX3 24 "ParityRow" "tear" "I", Cond.methodLink RX3 227 yX3_powerStays, Cond.instanceMethod yX3_powerStays, Cond.selects RX3 yX3_powerStays yX3_powerStays, Cond.code yX3_powerStays cX3_powerStays 2 (some .boolean), Cond.fieldLink RX3 9 "ParityRow" "tally" "[I", Cond.fieldLink RX3 20 "ParityRow" "writesToCut" "I", Cond.fieldLink RX3 16 "ParityRow" "down" "Z", Cond.fieldLink RX3 27 "ParityRow" "nextScrub" "I", Cond.instanceMethod yX0_forgetBuilding, Cond.selects RX0 yX0_forgetBuilding yX0_forgetBuilding, Cond.code yX0_forgetBuilding cX0_forgetBuilding 1 none, Cond.fieldLink RX0 22 "ParityRow$Disk" "state" "I", Cond.instanceMethod yX0_take, Cond.selects RX0 yX0_take yX0_take, Cond.code yX0_take cX0_take 6 none, Cond.fieldLink RX0 9 "ParityRow$Disk" "words" "[I", Cond.fieldLink RX0 15 "ParityRow$Disk" "sums" "[I", Cond.fieldLink RX0 18 "ParityRow$Disk" "torn" "[Z", Cond.fieldLink RX0 29 "ParityRow$Disk" "written" "I", Cond.methodLink RX0 36 yX0_sumOf, Cond.static yX0_sumOf, Cond.code yX0_sumOf cX0_sumOf 4 (some .int)]
def wsX3_putEntry : List Cond := .code yX3_putEntry cX3_putEntry 4 (some .boolean) :: ((wsX3_putEntry_r1 ++ wsX3_putEntry_r2) ++ wsX30 ++ wsX10 ++ wsX00)
def wsX3_putMark_r1 : List Cond := [Cond.fieldLink RX3 9 "ParityRow" "tally" "[I", Cond.fieldLink RX3 54 "ParityRow" "log" "LParityRow$Journal;", Cond.methodLink RX3 227 yX3_powerStays, Cond.instanceMethod yX3_powerStays, Cond.selects RX3 yX3_powerStays yX3_powerStays, Cond.initialized RX3, Cond.code yX3_powerStays cX3_powerStays 2 (some .boolean), Cond.fieldLink RX3 20 "ParityRow" "writesToCut" "I", Cond.fieldLink RX3 16 "ParityRow" "down" "Z", Cond.fieldLink RX3 27 "ParityRow" "nextScrub" "I", Cond.fieldLink RX3 36 "ParityRow" "width" "I", Cond.fieldLink RX3 44 "ParityRow" "disks" "[LParityRow$Disk;", Cond.instanceMethod yX0_forgetBuilding, Cond.initialized RX0, Cond.selects RX0 yX0_forgetBuilding yX0_forgetBuilding, Cond.code yX0_forgetBuilding cX0_forgetBuilding 1 none, Cond.fieldLink RX0 22 "ParityRow$Disk" "state" "I", Cond.fieldLink RX0 26 "ParityRow$Disk" "built" "I", Cond.instanceMethod yX2_free, Cond.initialized RX2, Cond.selects RX2 yX2_free yX2_free, Cond.code yX2_free cX2_free 4 none, Cond.fieldLink RX2 21 "ParityRow$Journal" "records" "I", Cond.fieldLink RX2 27 "ParityRow$Journal" "markCell" "I"]
def wsX3_putMark_r2 : List Cond := [Cond.fieldLink RX2 30 "ParityRow$Journal" "markSerial" "I", Cond.fieldLink RX2 24 "ParityRow$Journal" "usedCells" "I", Cond.fieldLink RX2 17 "ParityRow$Journal" "oldest" "I", Cond.methodLink RX2 36 yX2_entry, Cond.instanceMethod yX2_entry, Cond.selects RX2 yX2_entry yX2_entry, Cond.code yX2_entry cX2_entry 2 (some (.object "ParityRow$Entry")), Cond.fieldLink RX2 11 "ParityRow$Journal" "slots" "[LParityRow$Entry;", Cond.instanceMethod yX1_cells, Cond.initialized RX1, Cond.selects RX1 yX1_cells yX1_cells, Cond.code yX1_cells cX1_cells 1 (some .int), Cond.fieldLink RX1 15 "ParityRow$Entry" "parts" "I", Cond.methodLink RX1 25 yJ6_bitCount_0f7a4, Cond.static yJ6_bitCount_0f7a4, Cond.initialized RJ6, Cond.code yJ6_bitCount_0f7a4 cJ6_bitCount_0f7a4 1 (some .int), Cond.constant RJ6 265 (1431655765), Cond.constant RJ6 266 (858993459), Cond.constant RJ6 267 (252645135)]
def wsX3_putMark : List Cond := .code yX3_putMark cX3_putMark 2 (some .boolean) :: ((wsX3_putMark_r1 ++ wsX3_putMark_r2) ++ wsX30 ++ wsX00 ++ wsX20 ++ wsX10)
def wsX3_drainOldest_r1 : List Cond := [Cond.fieldLink RX3 54 "ParityRow" "log" "LParityRow$Journal;", Cond.fieldLink RX3 9 "ParityRow" "tally" "[I", Cond.instanceMethod yX2_entry, Cond.initialized RX2, Cond.selects RX2 yX2_entry yX2_entry, Cond.code yX2_entry cX2_entry 2 (some (.object "ParityRow$Entry")), Cond.fieldLink RX2 11 "ParityRow$Journal" "slots" "[LParityRow$Entry;", Cond.fieldLink RX2 17 "ParityRow$Journal" "oldest" "I", Cond.methodLink RX3 244 yX3_putEntry, Cond.instanceMethod yX3_putEntry, Cond.selects RX3 yX3_putEntry yX3_putEntry, Cond.initialized RX3, Cond.code yX3_putEntry cX3_putEntry 4 (some .boolean), Cond.fieldLink RX3 36 "ParityRow" "width" "I", Cond.fieldLink RX3 44 "ParityRow" "disks" "[LParityRow$Disk;", Cond.methodLink RX3 62 yX3_memberOf, Cond.instanceMethod yX3_memberOf, Cond.selects RX3 yX3_memberOf yX3_memberOf, Cond.code yX3_memberOf cX3_memberOf 3 (some .int), Cond.methodLink RX3 65 yX3_parityMember, Cond.instanceMethod yX3_parityMember, Cond.selects RX3 yX3_parityMember yX3_parityMember, Cond.code yX3_parityMember cX3_parityMember 2 (some .int), Cond.instanceMethod yX1_has]
def wsX3_drainOldest_r2 : List Cond := [Cond.initialized RX1, Cond.selects RX1 yX1_has yX1_has, Cond.code yX1_has cX1_has 2 (some .boolean), Cond.fieldLink RX1 15 "ParityRow$Entry" "parts" "I", Cond.instanceMethod yX0_isOn, Cond.initialized RX0, Cond.selects RX0 yX0_isOn yX0_isOn, Cond.code yX0_isOn cX0_isOn 2 (some .boolean), Cond.fieldLink RX0 26 "ParityRow$Disk" "built" "I", Cond.methodLink RX3 240 yX3_putChunk, Cond.instanceMethod yX3_putChunk, Cond.selects RX3 yX3_putChunk yX3_putChunk, Cond.code yX3_putChunk cX3_putChunk 6 (some .boolean), Cond.fieldLink RX3 24 "ParityRow" "tear" "I", Cond.methodLink RX3 227 yX3_powerStays, Cond.instanceMethod yX3_powerStays, Cond.selects RX3 yX3_powerStays yX3_powerStays, Cond.code yX3_powerStays cX3_powerStays 2 (some .boolean), Cond.fieldLink RX3 20 "ParityRow" "writesToCut" "I", Cond.fieldLink RX3 16 "ParityRow" "down" "Z", Cond.fieldLink RX3 27 "ParityRow" "nextScrub" "I", Cond.instanceMethod yX0_forgetBuilding, Cond.selects RX0 yX0_forgetBuilding yX0_forgetBuilding, Cond.code yX0_forgetBuilding cX0_forgetBuilding 1 none]
def wsX3_drainOldest_r3 : List Cond := [Cond.fieldLink RX0 22 "ParityRow$Disk" "state" "I", Cond.instanceMethod yX0_take, Cond.selects RX0 yX0_take yX0_take, Cond.code yX0_take cX0_take 6 none, Cond.fieldLink RX0 9 "ParityRow$Disk" "words" "[I", Cond.fieldLink RX0 15 "ParityRow$Disk" "sums" "[I", Cond.fieldLink RX0 18 "ParityRow$Disk" "torn" "[Z", Cond.fieldLink RX0 29 "ParityRow$Disk" "written" "I", Cond.methodLink RX0 36 yX0_sumOf, Cond.static yX0_sumOf, Cond.code yX0_sumOf cX0_sumOf 4 (some .int), Cond.methodLink RX3 150 yX3_putMark, Cond.instanceMethod yX3_putMark, Cond.selects RX3 yX3_putMark yX3_putMark, Cond.code yX3_putMark cX3_putMark 2 (some .boolean), Cond.instanceMethod yX2_free, Cond.selects RX2 yX2_free yX2_free, Cond.code yX2_free cX2_free 4 none, Cond.fieldLink RX2 21 "ParityRow$Journal" "records" "I", Cond.fieldLink RX2 27 "ParityRow$Journal" "markCell" "I", Cond.fieldLink RX2 30 "ParityRow$Journal" "markSerial" "I", Cond.fieldLink RX2 24 "ParityRow$Journal" "usedCells" "I", Cond.methodLink RX2 36 yX2_entry, Cond.instanceMethod yX1_cells]
def wsX3_drainOldest_r4 : List Cond := [Cond.selects RX1 yX1_cells yX1_cells, Cond.code yX1_cells cX1_cells 1 (some .int), Cond.methodLink RX1 25 yJ6_bitCount_0f7a4, Cond.static yJ6_bitCount_0f7a4, Cond.initialized RJ6, Cond.code yJ6_bitCount_0f7a4 cJ6_bitCount_0f7a4 1 (some .int), Cond.constant RJ6 265 (1431655765), Cond.constant RJ6 266 (858993459), Cond.constant RJ6 267 (252645135)]
def wsX3_drainOldest : List Cond := .code yX3_drainOldest cX3_drainOldest 3 (some .boolean) :: ((wsX3_drainOldest_r1 ++ (wsX3_drainOldest_r2 ++ (wsX3_drainOldest_r3 ++ wsX3_drainOldest_r4))) ++ wsX30 ++ wsX20 ++ wsX10 ++ wsX00)
def wsX3_putCells : List Cond := .code yX3_putCells cX3_putCells 3 (some .boolean) :: ([.fieldLink RX3 9 "ParityRow" "tally" "[I", .methodLink RX3 227 yX3_powerStays, .instanceMethod yX3_powerStays, .selects RX3 yX3_powerStays yX3_powerStays, .initialized RX3, .code yX3_powerStays cX3_powerStays 2 (some .boolean), .fieldLink RX3 20 "ParityRow" "writesToCut" "I", .fieldLink RX3 16 "ParityRow" "down" "Z", .fieldLink RX3 27 "ParityRow" "nextScrub" "I", .fieldLink RX3 36 "ParityRow" "width" "I", .fieldLink RX3 44 "ParityRow" "disks" "[LParityRow$Disk;", .instanceMethod yX0_forgetBuilding, .initialized RX0, .selects RX0 yX0_forgetBuilding yX0_forgetBuilding, .code yX0_forgetBuilding cX0_forgetBuilding 1 none, .fieldLink RX0 22 "ParityRow$Disk" "state" "I", .fieldLink RX0 26 "ParityRow$Disk" "built" "I"] ++ wsX30 ++ wsX00)
def wsX3_writeStripe_r1 : List Cond := [Cond.fieldLink RX3 54 "ParityRow" "log" "LParityRow$Journal;", Cond.fieldLink RX3 39 "ParityRow" "data" "I", Cond.fieldLink RX3 9 "ParityRow" "tally" "[I", Cond.instanceMethod yX2_made, Cond.initialized RX2, Cond.selects RX2 yX2_made yX2_made, Cond.code yX2_made cX2_made 1 (some (.object "ParityRow$Entry")), Cond.fieldLink RX2 21 "ParityRow$Journal" "records" "I", Cond.methodLink RX2 36 yX2_entry, Cond.instanceMethod yX2_entry, Cond.selects RX2 yX2_entry yX2_entry, Cond.code yX2_entry cX2_entry 2 (some (.object "ParityRow$Entry")), Cond.fieldLink RX2 11 "ParityRow$Journal" "slots" "[LParityRow$Entry;", Cond.fieldLink RX2 17 "ParityRow$Journal" "oldest" "I", Cond.instanceMethod yX1_begin, Cond.initialized RX1, Cond.selects RX1 yX1_begin yX1_begin, Cond.code yX1_begin cX1_begin 2 none, Cond.fieldLink RX1 9 "ParityRow$Entry" "stripe" "I", Cond.fieldLink RX1 15 "ParityRow$Entry" "parts" "I", Cond.instanceMethod yX1_addDatum, Cond.selects RX1 yX1_addDatum yX1_addDatum, Cond.code yX1_addDatum cX1_addDatum 4 none, Cond.fieldLink RX1 21 "ParityRow$Entry" "words" "[I"]
def wsX3_writeStripe_r2 : List Cond := [Cond.methodLink RX3 258 yX3_chooseWay, Cond.instanceMethod yX3_chooseWay, Cond.selects RX3 yX3_chooseWay yX3_chooseWay, Cond.initialized RX3, Cond.code yX3_chooseWay cX3_chooseWay 7 (some .int), Cond.fieldLink RX3 44 "ParityRow" "disks" "[LParityRow$Disk;", Cond.methodLink RX3 194 yX3_allData, Cond.instanceMethod yX3_allData, Cond.selects RX3 yX3_allData yX3_allData, Cond.code yX3_allData cX3_allData 1 (some .int), Cond.methodLink RX3 65 yX3_parityMember, Cond.instanceMethod yX3_parityMember, Cond.selects RX3 yX3_parityMember yX3_parityMember, Cond.code yX3_parityMember cX3_parityMember 2 (some .int), Cond.fieldLink RX3 36 "ParityRow" "width" "I", Cond.instanceMethod yX0_isOn, Cond.initialized RX0, Cond.selects RX0 yX0_isOn yX0_isOn, Cond.code yX0_isOn cX0_isOn 2 (some .boolean), Cond.fieldLink RX0 26 "ParityRow$Disk" "built" "I", Cond.methodLink RX3 277 yX3_needed, Cond.instanceMethod yX3_needed, Cond.selects RX3 yX3_needed yX3_needed, Cond.code yX3_needed cX3_needed 3 (some .int)]
def wsX3_writeStripe_r3 : List Cond := [Cond.methodLink RX3 280 yX3_haveNewest, Cond.instanceMethod yX3_haveNewest, Cond.selects RX3 yX3_haveNewest yX3_haveNewest, Cond.code yX3_haveNewest cX3_haveNewest 5 (some .boolean), Cond.methodLink RX3 216 yX3_isNewestNone, Cond.instanceMethod yX3_isNewestNone, Cond.selects RX3 yX3_isNewestNone yX3_isNewestNone, Cond.code yX3_isNewestNone cX3_isNewestNone 3 (some .boolean), Cond.instanceMethod yX2_latestWith, Cond.selects RX2 yX2_latestWith yX2_latestWith, Cond.code yX2_latestWith cX2_latestWith 5 (some (.object "ParityRow$Entry")), Cond.instanceMethod yX1_has, Cond.selects RX1 yX1_has yX1_has, Cond.code yX1_has cX1_has 2 (some .boolean), Cond.methodLink RX3 62 yX3_memberOf, Cond.instanceMethod yX3_memberOf, Cond.selects RX3 yX3_memberOf yX3_memberOf, Cond.code yX3_memberOf cX3_memberOf 3 (some .int), Cond.instanceMethod yX0_isThere, Cond.selects RX0 yX0_isThere yX0_isThere, Cond.code yX0_isThere cX0_isThere 2 (some .boolean), Cond.fieldLink RX0 18 "ParityRow$Disk" "torn" "[Z", Cond.fieldLink RX0 15 "ParityRow$Disk" "sums" "[I", Cond.fieldLink RX0 9 "ParityRow$Disk" "words" "[I"]
def wsX3_writeStripe_r4 : List Cond := [Cond.methodLink RX0 32 yX0_isOn, Cond.methodLink RX0 36 yX0_sumOf, Cond.static yX0_sumOf, Cond.code yX0_sumOf cX0_sumOf 4 (some .int), Cond.methodLink RX3 283 yJ6_bitCount_0f7a4, Cond.static yJ6_bitCount_0f7a4, Cond.initialized RJ6, Cond.code yJ6_bitCount_0f7a4 cJ6_bitCount_0f7a4 1 (some .int), Cond.constant RJ6 265 (1431655765), Cond.constant RJ6 266 (858993459), Cond.constant RJ6 267 (252645135), Cond.methodLink RX3 261 yX3_addParity, Cond.instanceMethod yX3_addParity, Cond.selects RX3 yX3_addParity yX3_addParity, Cond.code yX3_addParity cX3_addParity 4 none, Cond.fieldLink RX3 13 "ParityRow" "mixed" "[I", Cond.methodLink RX3 96 yX3_clearMixed, Cond.instanceMethod yX3_clearMixed, Cond.selects RX3 yX3_clearMixed yX3_clearMixed, Cond.code yX3_clearMixed cX3_clearMixed 2 none, Cond.methodLink RX3 219 yX3_mix, Cond.instanceMethod yX3_mix, Cond.selects RX3 yX3_mix yX3_mix, Cond.code yX3_mix cX3_mix 4 none]
def wsX3_writeStripe_r5 : List Cond := [Cond.methodLink RX3 103 yX3_mixNewest, Cond.instanceMethod yX3_mixNewest, Cond.selects RX3 yX3_mixNewest yX3_mixNewest, Cond.code yX3_mixNewest cX3_mixNewest 4 (some .boolean), Cond.instanceMethod yX1_addWords, Cond.selects RX1 yX1_addWords yX1_addWords, Cond.code yX1_addWords cX1_addWords 4 none, Cond.instanceMethod yX1_cells, Cond.selects RX1 yX1_cells yX1_cells, Cond.code yX1_cells cX1_cells 1 (some .int), Cond.methodLink RX1 25 yJ6_bitCount_0f7a4, Cond.instanceMethod yX2_recordsToFree, Cond.selects RX2 yX2_recordsToFree yX2_recordsToFree, Cond.code yX2_recordsToFree cX2_recordsToFree 4 (some .int), Cond.methodLink RX2 55 yX2_freeCells, Cond.instanceMethod yX2_freeCells, Cond.selects RX2 yX2_freeCells yX2_freeCells, Cond.code yX2_freeCells cX2_freeCells 1 (some .int), Cond.fieldLink RX2 24 "ParityRow$Journal" "usedCells" "I", Cond.methodLink RX3 110 yX3_drainOldest, Cond.instanceMethod yX3_drainOldest, Cond.selects RX3 yX3_drainOldest yX3_drainOldest, Cond.code yX3_drainOldest cX3_drainOldest 3 (some .boolean), Cond.methodLink RX3 244 yX3_putEntry]
def wsX3_writeStripe_r6 : List Cond := [Cond.instanceMethod yX3_putEntry, Cond.selects RX3 yX3_putEntry yX3_putEntry, Cond.code yX3_putEntry cX3_putEntry 4 (some .boolean), Cond.methodLink RX3 240 yX3_putChunk, Cond.instanceMethod yX3_putChunk, Cond.selects RX3 yX3_putChunk yX3_putChunk, Cond.code yX3_putChunk cX3_putChunk 6 (some .boolean), Cond.fieldLink RX3 24 "ParityRow" "tear" "I", Cond.methodLink RX3 227 yX3_powerStays, Cond.instanceMethod yX3_powerStays, Cond.selects RX3 yX3_powerStays yX3_powerStays, Cond.code yX3_powerStays cX3_powerStays 2 (some .boolean), Cond.fieldLink RX3 20 "ParityRow" "writesToCut" "I", Cond.fieldLink RX3 16 "ParityRow" "down" "Z", Cond.fieldLink RX3 27 "ParityRow" "nextScrub" "I", Cond.instanceMethod yX0_forgetBuilding, Cond.selects RX0 yX0_forgetBuilding yX0_forgetBuilding, Cond.code yX0_forgetBuilding cX0_forgetBuilding 1 none, Cond.fieldLink RX0 22 "ParityRow$Disk" "state" "I", Cond.instanceMethod yX0_take, Cond.selects RX0 yX0_take yX0_take, Cond.code yX0_take cX0_take 6 none, Cond.fieldLink RX0 29 "ParityRow$Disk" "written" "I", Cond.methodLink RX3 150 yX3_putMark]
def wsX3_writeStripe_r7 : List Cond := [Cond.instanceMethod yX3_putMark, Cond.selects RX3 yX3_putMark yX3_putMark, Cond.code yX3_putMark cX3_putMark 2 (some .boolean), Cond.instanceMethod yX2_free, Cond.selects RX2 yX2_free yX2_free, Cond.code yX2_free cX2_free 4 none, Cond.fieldLink RX2 27 "ParityRow$Journal" "markCell" "I", Cond.fieldLink RX2 30 "ParityRow$Journal" "markSerial" "I", Cond.methodLink RX3 271 yX3_putCells, Cond.instanceMethod yX3_putCells, Cond.selects RX3 yX3_putCells yX3_putCells, Cond.code yX3_putCells cX3_putCells 3 (some .boolean), Cond.instanceMethod yX2_addMade, Cond.selects RX2 yX2_addMade yX2_addMade, Cond.code yX2_addMade cX2_addMade 1 none, Cond.methodLink RX2 40 yX2_made]
def wsX3_writeStripe : List Cond := .code yX3_writeStripe cX3_writeStripe 7 (some .int) :: ((wsX3_writeStripe_r1 ++ (wsX3_writeStripe_r2 ++ (wsX3_writeStripe_r3 ++ (wsX3_writeStripe_r4 ++ (wsX3_writeStripe_r5 ++ (wsX3_writeStripe_r6 ++ wsX3_writeStripe_r7)))))) ++ wsX30 ++ wsX10 ++ wsX20 ++ wsX00)
def wsX3_write_r1 : List Cond := [Cond.fieldLink RX3 16 "ParityRow" "down" "Z", Cond.fieldLink RX3 39 "ParityRow" "data" "I", Cond.methodLink RX3 69 Lib.Math.max.name, Cond.static Lib.Math.max.name, Cond.initialized "java/lang/Math", Cond.code Lib.Math.max.name Lib.Math.max.code 2 (some .int), Cond.methodLink RX3 72 Lib.Math.min.name, Cond.static Lib.Math.min.name, Cond.code Lib.Math.min.name Lib.Math.min.code 2 (some .int), Cond.methodLink RX3 58 yX3_isBlock, Cond.instanceMethod yX3_isBlock, Cond.selects RX3 yX3_isBlock yX3_isBlock, Cond.initialized RX3, Cond.code yX3_isBlock cX3_isBlock 2 (some .boolean), Cond.methodLink RX3 75 yX3_writeStripe, Cond.instanceMethod yX3_writeStripe, Cond.selects RX3 yX3_writeStripe yX3_writeStripe, Cond.code yX3_writeStripe cX3_writeStripe 7 (some .int), Cond.fieldLink RX3 54 "ParityRow" "log" "LParityRow$Journal;", Cond.fieldLink RX3 9 "ParityRow" "tally" "[I", Cond.instanceMethod yX2_made, Cond.initialized RX2, Cond.selects RX2 yX2_made yX2_made, Cond.code yX2_made cX2_made 1 (some (.object "ParityRow$Entry"))]
def wsX3_write_r2 : List Cond := [Cond.fieldLink RX2 21 "ParityRow$Journal" "records" "I", Cond.methodLink RX2 36 yX2_entry, Cond.instanceMethod yX2_entry, Cond.selects RX2 yX2_entry yX2_entry, Cond.code yX2_entry cX2_entry 2 (some (.object "ParityRow$Entry")), Cond.fieldLink RX2 11 "ParityRow$Journal" "slots" "[LParityRow$Entry;", Cond.fieldLink RX2 17 "ParityRow$Journal" "oldest" "I", Cond.instanceMethod yX1_begin, Cond.initialized RX1, Cond.selects RX1 yX1_begin yX1_begin, Cond.code yX1_begin cX1_begin 2 none, Cond.fieldLink RX1 9 "ParityRow$Entry" "stripe" "I", Cond.fieldLink RX1 15 "ParityRow$Entry" "parts" "I", Cond.instanceMethod yX1_addDatum, Cond.selects RX1 yX1_addDatum yX1_addDatum, Cond.code yX1_addDatum cX1_addDatum 4 none, Cond.fieldLink RX1 21 "ParityRow$Entry" "words" "[I", Cond.methodLink RX3 258 yX3_chooseWay, Cond.instanceMethod yX3_chooseWay, Cond.selects RX3 yX3_chooseWay yX3_chooseWay, Cond.code yX3_chooseWay cX3_chooseWay 7 (some .int), Cond.fieldLink RX3 44 "ParityRow" "disks" "[LParityRow$Disk;", Cond.methodLink RX3 194 yX3_allData, Cond.instanceMethod yX3_allData]
def wsX3_write_r3 : List Cond := [Cond.selects RX3 yX3_allData yX3_allData, Cond.code yX3_allData cX3_allData 1 (some .int), Cond.methodLink RX3 65 yX3_parityMember, Cond.instanceMethod yX3_parityMember, Cond.selects RX3 yX3_parityMember yX3_parityMember, Cond.code yX3_parityMember cX3_parityMember 2 (some .int), Cond.fieldLink RX3 36 "ParityRow" "width" "I", Cond.instanceMethod yX0_isOn, Cond.initialized RX0, Cond.selects RX0 yX0_isOn yX0_isOn, Cond.code yX0_isOn cX0_isOn 2 (some .boolean), Cond.fieldLink RX0 26 "ParityRow$Disk" "built" "I", Cond.methodLink RX3 277 yX3_needed, Cond.instanceMethod yX3_needed, Cond.selects RX3 yX3_needed yX3_needed, Cond.code yX3_needed cX3_needed 3 (some .int), Cond.methodLink RX3 280 yX3_haveNewest, Cond.instanceMethod yX3_haveNewest, Cond.selects RX3 yX3_haveNewest yX3_haveNewest, Cond.code yX3_haveNewest cX3_haveNewest 5 (some .boolean), Cond.methodLink RX3 216 yX3_isNewestNone, Cond.instanceMethod yX3_isNewestNone, Cond.selects RX3 yX3_isNewestNone yX3_isNewestNone, Cond.code yX3_isNewestNone cX3_isNewestNone 3 (some .boolean)]
def wsX3_write_r4 : List Cond := [Cond.instanceMethod yX2_latestWith, Cond.selects RX2 yX2_latestWith yX2_latestWith, Cond.code yX2_latestWith cX2_latestWith 5 (some (.object "ParityRow$Entry")), Cond.instanceMethod yX1_has, Cond.selects RX1 yX1_has yX1_has, Cond.code yX1_has cX1_has 2 (some .boolean), Cond.methodLink RX3 62 yX3_memberOf, Cond.instanceMethod yX3_memberOf, Cond.selects RX3 yX3_memberOf yX3_memberOf, Cond.code yX3_memberOf cX3_memberOf 3 (some .int), Cond.instanceMethod yX0_isThere, Cond.selects RX0 yX0_isThere yX0_isThere, Cond.code yX0_isThere cX0_isThere 2 (some .boolean), Cond.fieldLink RX0 18 "ParityRow$Disk" "torn" "[Z", Cond.fieldLink RX0 15 "ParityRow$Disk" "sums" "[I", Cond.fieldLink RX0 9 "ParityRow$Disk" "words" "[I", Cond.methodLink RX0 32 yX0_isOn, Cond.methodLink RX0 36 yX0_sumOf, Cond.static yX0_sumOf, Cond.code yX0_sumOf cX0_sumOf 4 (some .int), Cond.methodLink RX3 283 yJ6_bitCount_0f7a4, Cond.static yJ6_bitCount_0f7a4, Cond.initialized RJ6, Cond.code yJ6_bitCount_0f7a4 cJ6_bitCount_0f7a4 1 (some .int)]
def wsX3_write_r5 : List Cond := [Cond.constant RJ6 265 (1431655765), Cond.constant RJ6 266 (858993459), Cond.constant RJ6 267 (252645135), Cond.methodLink RX3 261 yX3_addParity, Cond.instanceMethod yX3_addParity, Cond.selects RX3 yX3_addParity yX3_addParity, Cond.code yX3_addParity cX3_addParity 4 none, Cond.fieldLink RX3 13 "ParityRow" "mixed" "[I", Cond.methodLink RX3 96 yX3_clearMixed, Cond.instanceMethod yX3_clearMixed, Cond.selects RX3 yX3_clearMixed yX3_clearMixed, Cond.code yX3_clearMixed cX3_clearMixed 2 none, Cond.methodLink RX3 219 yX3_mix, Cond.instanceMethod yX3_mix, Cond.selects RX3 yX3_mix yX3_mix, Cond.code yX3_mix cX3_mix 4 none, Cond.methodLink RX3 103 yX3_mixNewest, Cond.instanceMethod yX3_mixNewest, Cond.selects RX3 yX3_mixNewest yX3_mixNewest, Cond.code yX3_mixNewest cX3_mixNewest 4 (some .boolean), Cond.instanceMethod yX1_addWords, Cond.selects RX1 yX1_addWords yX1_addWords, Cond.code yX1_addWords cX1_addWords 4 none, Cond.instanceMethod yX1_cells]
def wsX3_write_r6 : List Cond := [Cond.selects RX1 yX1_cells yX1_cells, Cond.code yX1_cells cX1_cells 1 (some .int), Cond.methodLink RX1 25 yJ6_bitCount_0f7a4, Cond.instanceMethod yX2_recordsToFree, Cond.selects RX2 yX2_recordsToFree yX2_recordsToFree, Cond.code yX2_recordsToFree cX2_recordsToFree 4 (some .int), Cond.methodLink RX2 55 yX2_freeCells, Cond.instanceMethod yX2_freeCells, Cond.selects RX2 yX2_freeCells yX2_freeCells, Cond.code yX2_freeCells cX2_freeCells 1 (some .int), Cond.fieldLink RX2 24 "ParityRow$Journal" "usedCells" "I", Cond.methodLink RX3 110 yX3_drainOldest, Cond.instanceMethod yX3_drainOldest, Cond.selects RX3 yX3_drainOldest yX3_drainOldest, Cond.code yX3_drainOldest cX3_drainOldest 3 (some .boolean), Cond.methodLink RX3 244 yX3_putEntry, Cond.instanceMethod yX3_putEntry, Cond.selects RX3 yX3_putEntry yX3_putEntry, Cond.code yX3_putEntry cX3_putEntry 4 (some .boolean), Cond.methodLink RX3 240 yX3_putChunk, Cond.instanceMethod yX3_putChunk, Cond.selects RX3 yX3_putChunk yX3_putChunk, Cond.code yX3_putChunk cX3_putChunk 6 (some .boolean), Cond.fieldLink RX3 24 "ParityRow" "tear" "I"]
def wsX3_write_r7 : List Cond := [Cond.methodLink RX3 227 yX3_powerStays, Cond.instanceMethod yX3_powerStays, Cond.selects RX3 yX3_powerStays yX3_powerStays, Cond.code yX3_powerStays cX3_powerStays 2 (some .boolean), Cond.fieldLink RX3 20 "ParityRow" "writesToCut" "I", Cond.fieldLink RX3 27 "ParityRow" "nextScrub" "I", Cond.instanceMethod yX0_forgetBuilding, Cond.selects RX0 yX0_forgetBuilding yX0_forgetBuilding, Cond.code yX0_forgetBuilding cX0_forgetBuilding 1 none, Cond.fieldLink RX0 22 "ParityRow$Disk" "state" "I", Cond.instanceMethod yX0_take, Cond.selects RX0 yX0_take yX0_take, Cond.code yX0_take cX0_take 6 none, Cond.fieldLink RX0 29 "ParityRow$Disk" "written" "I", Cond.methodLink RX3 150 yX3_putMark, Cond.instanceMethod yX3_putMark, Cond.selects RX3 yX3_putMark yX3_putMark, Cond.code yX3_putMark cX3_putMark 2 (some .boolean), Cond.instanceMethod yX2_free, Cond.selects RX2 yX2_free yX2_free, Cond.code yX2_free cX2_free 4 none, Cond.fieldLink RX2 27 "ParityRow$Journal" "markCell" "I", Cond.fieldLink RX2 30 "ParityRow$Journal" "markSerial" "I", Cond.methodLink RX3 271 yX3_putCells]
def wsX3_write_r8 : List Cond := [Cond.instanceMethod yX3_putCells, Cond.selects RX3 yX3_putCells yX3_putCells, Cond.code yX3_putCells cX3_putCells 3 (some .boolean), Cond.instanceMethod yX2_addMade, Cond.selects RX2 yX2_addMade yX2_addMade, Cond.code yX2_addMade cX2_addMade 1 none, Cond.methodLink RX2 40 yX2_made]
def wsX3_write : List Cond := .code yX3_write cX3_write 9 (some .int) :: ((wsX3_write_r1 ++ (wsX3_write_r2 ++ (wsX3_write_r3 ++ (wsX3_write_r4 ++ (wsX3_write_r5 ++ (wsX3_write_r6 ++ (wsX3_write_r7 ++ wsX3_write_r8))))))) ++ wsX30 ++ wsX10 ++ wsX20 ++ wsX00)
def wsX3_countNotThere : List Cond := .code yX3_countNotThere cX3_countNotThere 4 (some .int) :: ([.fieldLink RX3 36 "ParityRow" "width" "I", .fieldLink RX3 44 "ParityRow" "disks" "[LParityRow$Disk;", .instanceMethod yX0_isThere, .initialized RX0, .selects RX0 yX0_isThere yX0_isThere, .code yX0_isThere cX0_isThere 2 (some .boolean), .fieldLink RX0 18 "ParityRow$Disk" "torn" "[Z", .fieldLink RX0 15 "ParityRow$Disk" "sums" "[I", .fieldLink RX0 9 "ParityRow$Disk" "words" "[I", .methodLink RX0 32 yX0_isOn, .instanceMethod yX0_isOn, .selects RX0 yX0_isOn yX0_isOn, .code yX0_isOn cX0_isOn 2 (some .boolean), .fieldLink RX0 26 "ParityRow$Disk" "built" "I", .methodLink RX0 36 yX0_sumOf, .static yX0_sumOf, .code yX0_sumOf cX0_sumOf 4 (some .int)] ++ wsX30 ++ wsX00)
def wsX3_othersThere : List Cond := .code yX3_othersThere cX3_othersThere 3 (some .boolean) :: ([.fieldLink RX3 44 "ParityRow" "disks" "[LParityRow$Disk;", .methodLink RX3 203 yX3_countNotThere, .instanceMethod yX3_countNotThere, .selects RX3 yX3_countNotThere yX3_countNotThere, .initialized RX3, .code yX3_countNotThere cX3_countNotThere 4 (some .int), .fieldLink RX3 36 "ParityRow" "width" "I", .instanceMethod yX0_isThere, .initialized RX0, .selects RX0 yX0_isThere yX0_isThere, .code yX0_isThere cX0_isThere 2 (some .boolean), .fieldLink RX0 18 "ParityRow$Disk" "torn" "[Z", .fieldLink RX0 15 "ParityRow$Disk" "sums" "[I", .fieldLink RX0 9 "ParityRow$Disk" "words" "[I", .methodLink RX0 32 yX0_isOn, .instanceMethod yX0_isOn, .selects RX0 yX0_isOn yX0_isOn, .code yX0_isOn cX0_isOn 2 (some .boolean), .fieldLink RX0 26 "ParityRow$Disk" "built" "I", .methodLink RX0 36 yX0_sumOf, .static yX0_sumOf, .code yX0_sumOf cX0_sumOf 4 (some .int)] ++ wsX30 ++ wsX00)
def wsX3_sourceOf_r1 : List Cond := [Cond.fieldLink RX3 54 "ParityRow" "log" "LParityRow$Journal;", Cond.fieldLink RX3 44 "ParityRow" "disks" "[LParityRow$Disk;", Cond.instanceMethod yX2_latestWith, Cond.initialized RX2, Cond.selects RX2 yX2_latestWith yX2_latestWith, Cond.code yX2_latestWith cX2_latestWith 5 (some (.object "ParityRow$Entry")), Cond.fieldLink RX2 21 "ParityRow$Journal" "records" "I", Cond.methodLink RX2 36 yX2_entry, Cond.instanceMethod yX2_entry, Cond.selects RX2 yX2_entry yX2_entry, Cond.code yX2_entry cX2_entry 2 (some (.object "ParityRow$Entry")), Cond.fieldLink RX2 11 "ParityRow$Journal" "slots" "[LParityRow$Entry;", Cond.fieldLink RX2 17 "ParityRow$Journal" "oldest" "I", Cond.instanceMethod yX1_has, Cond.initialized RX1, Cond.selects RX1 yX1_has yX1_has, Cond.code yX1_has cX1_has 2 (some .boolean), Cond.fieldLink RX1 15 "ParityRow$Entry" "parts" "I", Cond.methodLink RX3 62 yX3_memberOf, Cond.instanceMethod yX3_memberOf, Cond.selects RX3 yX3_memberOf yX3_memberOf, Cond.initialized RX3, Cond.code yX3_memberOf cX3_memberOf 3 (some .int), Cond.fieldLink RX3 36 "ParityRow" "width" "I"]
def wsX3_sourceOf_r2 : List Cond := [Cond.methodLink RX3 65 yX3_parityMember, Cond.instanceMethod yX3_parityMember, Cond.selects RX3 yX3_parityMember yX3_parityMember, Cond.code yX3_parityMember cX3_parityMember 2 (some .int), Cond.instanceMethod yX0_isThere, Cond.initialized RX0, Cond.selects RX0 yX0_isThere yX0_isThere, Cond.code yX0_isThere cX0_isThere 2 (some .boolean), Cond.fieldLink RX0 18 "ParityRow$Disk" "torn" "[Z", Cond.fieldLink RX0 15 "ParityRow$Disk" "sums" "[I", Cond.fieldLink RX0 9 "ParityRow$Disk" "words" "[I", Cond.methodLink RX0 32 yX0_isOn, Cond.instanceMethod yX0_isOn, Cond.selects RX0 yX0_isOn yX0_isOn, Cond.code yX0_isOn cX0_isOn 2 (some .boolean), Cond.fieldLink RX0 26 "ParityRow$Disk" "built" "I", Cond.methodLink RX0 36 yX0_sumOf, Cond.static yX0_sumOf, Cond.code yX0_sumOf cX0_sumOf 4 (some .int), Cond.methodLink RX3 213 yX3_othersThere, Cond.instanceMethod yX3_othersThere, Cond.selects RX3 yX3_othersThere yX3_othersThere, Cond.code yX3_othersThere cX3_othersThere 3 (some .boolean), Cond.methodLink RX3 203 yX3_countNotThere]
def wsX3_sourceOf_r3 : List Cond := [Cond.instanceMethod yX3_countNotThere, Cond.selects RX3 yX3_countNotThere yX3_countNotThere, Cond.code yX3_countNotThere cX3_countNotThere 4 (some .int)]
def wsX3_sourceOf : List Cond := .code yX3_sourceOf cX3_sourceOf 4 (some .int) :: ((wsX3_sourceOf_r1 ++ (wsX3_sourceOf_r2 ++ wsX3_sourceOf_r3)) ++ wsX30 ++ wsX20 ++ wsX10 ++ wsX00)
def wsX3_look_r1 : List Cond := [Cond.fieldLink RX3 16 "ParityRow" "down" "Z", Cond.fieldLink RX3 39 "ParityRow" "data" "I", Cond.methodLink RX3 58 yX3_isBlock, Cond.instanceMethod yX3_isBlock, Cond.selects RX3 yX3_isBlock yX3_isBlock, Cond.initialized RX3, Cond.code yX3_isBlock cX3_isBlock 2 (some .boolean), Cond.methodLink RX3 79 yX3_sourceOf, Cond.instanceMethod yX3_sourceOf, Cond.selects RX3 yX3_sourceOf yX3_sourceOf, Cond.code yX3_sourceOf cX3_sourceOf 4 (some .int), Cond.fieldLink RX3 54 "ParityRow" "log" "LParityRow$Journal;", Cond.fieldLink RX3 44 "ParityRow" "disks" "[LParityRow$Disk;", Cond.instanceMethod yX2_latestWith, Cond.initialized RX2, Cond.selects RX2 yX2_latestWith yX2_latestWith, Cond.code yX2_latestWith cX2_latestWith 5 (some (.object "ParityRow$Entry")), Cond.fieldLink RX2 21 "ParityRow$Journal" "records" "I", Cond.methodLink RX2 36 yX2_entry, Cond.instanceMethod yX2_entry, Cond.selects RX2 yX2_entry yX2_entry, Cond.code yX2_entry cX2_entry 2 (some (.object "ParityRow$Entry")), Cond.fieldLink RX2 11 "ParityRow$Journal" "slots" "[LParityRow$Entry;", Cond.fieldLink RX2 17 "ParityRow$Journal" "oldest" "I"]
def wsX3_look_r2 : List Cond := [Cond.instanceMethod yX1_has, Cond.initialized RX1, Cond.selects RX1 yX1_has yX1_has, Cond.code yX1_has cX1_has 2 (some .boolean), Cond.fieldLink RX1 15 "ParityRow$Entry" "parts" "I", Cond.methodLink RX3 62 yX3_memberOf, Cond.instanceMethod yX3_memberOf, Cond.selects RX3 yX3_memberOf yX3_memberOf, Cond.code yX3_memberOf cX3_memberOf 3 (some .int), Cond.fieldLink RX3 36 "ParityRow" "width" "I", Cond.methodLink RX3 65 yX3_parityMember, Cond.instanceMethod yX3_parityMember, Cond.selects RX3 yX3_parityMember yX3_parityMember, Cond.code yX3_parityMember cX3_parityMember 2 (some .int), Cond.instanceMethod yX0_isThere, Cond.initialized RX0, Cond.selects RX0 yX0_isThere yX0_isThere, Cond.code yX0_isThere cX0_isThere 2 (some .boolean), Cond.fieldLink RX0 18 "ParityRow$Disk" "torn" "[Z", Cond.fieldLink RX0 15 "ParityRow$Disk" "sums" "[I", Cond.fieldLink RX0 9 "ParityRow$Disk" "words" "[I", Cond.methodLink RX0 32 yX0_isOn, Cond.instanceMethod yX0_isOn, Cond.selects RX0 yX0_isOn yX0_isOn]
def wsX3_look_r3 : List Cond := [Cond.code yX0_isOn cX0_isOn 2 (some .boolean), Cond.fieldLink RX0 26 "ParityRow$Disk" "built" "I", Cond.methodLink RX0 36 yX0_sumOf, Cond.static yX0_sumOf, Cond.code yX0_sumOf cX0_sumOf 4 (some .int), Cond.methodLink RX3 213 yX3_othersThere, Cond.instanceMethod yX3_othersThere, Cond.selects RX3 yX3_othersThere yX3_othersThere, Cond.code yX3_othersThere cX3_othersThere 3 (some .boolean), Cond.methodLink RX3 203 yX3_countNotThere, Cond.instanceMethod yX3_countNotThere, Cond.selects RX3 yX3_countNotThere yX3_countNotThere, Cond.code yX3_countNotThere cX3_countNotThere 4 (some .int)]
def wsX3_look : List Cond := .code yX3_look cX3_look 2 (some .int) :: ((wsX3_look_r1 ++ (wsX3_look_r2 ++ wsX3_look_r3)) ++ wsX30 ++ wsX20 ++ wsX10 ++ wsX00)
def wsX3_mixOthers : List Cond := .code yX3_mixOthers cX3_mixOthers 4 none :: ([.fieldLink RX3 36 "ParityRow" "width" "I", .fieldLink RX3 44 "ParityRow" "disks" "[LParityRow$Disk;", .methodLink RX3 219 yX3_mix, .instanceMethod yX3_mix, .selects RX3 yX3_mix yX3_mix, .initialized RX3, .code yX3_mix cX3_mix 4 none, .fieldLink RX3 13 "ParityRow" "mixed" "[I"] ++ wsX30 ++ wsX00)
def wsX3_word_r1 : List Cond := [Cond.classLink RX3 82 "java/lang/IndexOutOfBoundsException", Cond.initialized "java/lang/IndexOutOfBoundsException", Cond.classLink RX3 89 "java/lang/IllegalStateException", Cond.initialized "java/lang/IllegalStateException", Cond.fieldLink RX3 16 "ParityRow" "down" "Z", Cond.fieldLink RX3 39 "ParityRow" "data" "I", Cond.fieldLink RX3 13 "ParityRow" "mixed" "[I", Cond.methodLink RX3 58 yX3_isBlock, Cond.instanceMethod yX3_isBlock, Cond.selects RX3 yX3_isBlock yX3_isBlock, Cond.initialized RX3, Cond.code yX3_isBlock cX3_isBlock 2 (some .boolean), Cond.methodLink RX3 79 yX3_sourceOf, Cond.instanceMethod yX3_sourceOf, Cond.selects RX3 yX3_sourceOf yX3_sourceOf, Cond.code yX3_sourceOf cX3_sourceOf 4 (some .int), Cond.fieldLink RX3 54 "ParityRow" "log" "LParityRow$Journal;", Cond.fieldLink RX3 44 "ParityRow" "disks" "[LParityRow$Disk;", Cond.instanceMethod yX2_latestWith, Cond.initialized RX2, Cond.selects RX2 yX2_latestWith yX2_latestWith, Cond.code yX2_latestWith cX2_latestWith 5 (some (.object "ParityRow$Entry")), Cond.fieldLink RX2 21 "ParityRow$Journal" "records" "I", Cond.methodLink RX2 36 yX2_entry]
def wsX3_word_r2 : List Cond := [Cond.instanceMethod yX2_entry, Cond.selects RX2 yX2_entry yX2_entry, Cond.code yX2_entry cX2_entry 2 (some (.object "ParityRow$Entry")), Cond.fieldLink RX2 11 "ParityRow$Journal" "slots" "[LParityRow$Entry;", Cond.fieldLink RX2 17 "ParityRow$Journal" "oldest" "I", Cond.instanceMethod yX1_has, Cond.initialized RX1, Cond.selects RX1 yX1_has yX1_has, Cond.code yX1_has cX1_has 2 (some .boolean), Cond.fieldLink RX1 15 "ParityRow$Entry" "parts" "I", Cond.methodLink RX3 62 yX3_memberOf, Cond.instanceMethod yX3_memberOf, Cond.selects RX3 yX3_memberOf yX3_memberOf, Cond.code yX3_memberOf cX3_memberOf 3 (some .int), Cond.fieldLink RX3 36 "ParityRow" "width" "I", Cond.methodLink RX3 65 yX3_parityMember, Cond.instanceMethod yX3_parityMember, Cond.selects RX3 yX3_parityMember yX3_parityMember, Cond.code yX3_parityMember cX3_parityMember 2 (some .int), Cond.instanceMethod yX0_isThere, Cond.initialized RX0, Cond.selects RX0 yX0_isThere yX0_isThere, Cond.code yX0_isThere cX0_isThere 2 (some .boolean), Cond.fieldLink RX0 18 "ParityRow$Disk" "torn" "[Z"]
def wsX3_word_r3 : List Cond := [Cond.fieldLink RX0 15 "ParityRow$Disk" "sums" "[I", Cond.fieldLink RX0 9 "ParityRow$Disk" "words" "[I", Cond.methodLink RX0 32 yX0_isOn, Cond.instanceMethod yX0_isOn, Cond.selects RX0 yX0_isOn yX0_isOn, Cond.code yX0_isOn cX0_isOn 2 (some .boolean), Cond.fieldLink RX0 26 "ParityRow$Disk" "built" "I", Cond.methodLink RX0 36 yX0_sumOf, Cond.static yX0_sumOf, Cond.code yX0_sumOf cX0_sumOf 4 (some .int), Cond.methodLink RX3 213 yX3_othersThere, Cond.instanceMethod yX3_othersThere, Cond.selects RX3 yX3_othersThere yX3_othersThere, Cond.code yX3_othersThere cX3_othersThere 3 (some .boolean), Cond.methodLink RX3 203 yX3_countNotThere, Cond.instanceMethod yX3_countNotThere, Cond.selects RX3 yX3_countNotThere yX3_countNotThere, Cond.code yX3_countNotThere cX3_countNotThere 4 (some .int), Cond.methodLink RX3 96 yX3_clearMixed, Cond.instanceMethod yX3_clearMixed, Cond.selects RX3 yX3_clearMixed yX3_clearMixed, Cond.code yX3_clearMixed cX3_clearMixed 2 none, Cond.methodLink RX3 99 yX3_mixOthers, Cond.instanceMethod yX3_mixOthers]
def wsX3_word_r4 : List Cond := [Cond.selects RX3 yX3_mixOthers yX3_mixOthers, Cond.code yX3_mixOthers cX3_mixOthers 4 none, Cond.methodLink RX3 219 yX3_mix, Cond.instanceMethod yX3_mix, Cond.selects RX3 yX3_mix yX3_mix, Cond.code yX3_mix cX3_mix 4 none, Cond.methodLink RX3 103 yX3_mixNewest, Cond.instanceMethod yX3_mixNewest, Cond.selects RX3 yX3_mixNewest yX3_mixNewest, Cond.code yX3_mixNewest cX3_mixNewest 4 (some .boolean)]
def wsX3_drain_r1 : List Cond := [Cond.fieldLink RX3 16 "ParityRow" "down" "Z", Cond.fieldLink RX3 54 "ParityRow" "log" "LParityRow$Journal;", Cond.methodLink RX3 72 Lib.Math.min.name, Cond.static Lib.Math.min.name, Cond.initialized "java/lang/Math", Cond.code Lib.Math.min.name Lib.Math.min.code 2 (some .int), Cond.methodLink RX3 110 yX3_drainOldest, Cond.instanceMethod yX3_drainOldest, Cond.selects RX3 yX3_drainOldest yX3_drainOldest, Cond.initialized RX3, Cond.code yX3_drainOldest cX3_drainOldest 3 (some .boolean), Cond.fieldLink RX3 9 "ParityRow" "tally" "[I", Cond.instanceMethod yX2_entry, Cond.initialized RX2, Cond.selects RX2 yX2_entry yX2_entry, Cond.code yX2_entry cX2_entry 2 (some (.object "ParityRow$Entry")), Cond.fieldLink RX2 11 "ParityRow$Journal" "slots" "[LParityRow$Entry;", Cond.fieldLink RX2 17 "ParityRow$Journal" "oldest" "I", Cond.methodLink RX3 244 yX3_putEntry, Cond.instanceMethod yX3_putEntry, Cond.selects RX3 yX3_putEntry yX3_putEntry, Cond.code yX3_putEntry cX3_putEntry 4 (some .boolean), Cond.fieldLink RX3 36 "ParityRow" "width" "I", Cond.fieldLink RX3 44 "ParityRow" "disks" "[LParityRow$Disk;"]
def wsX3_drain_r2 : List Cond := [Cond.methodLink RX3 62 yX3_memberOf, Cond.instanceMethod yX3_memberOf, Cond.selects RX3 yX3_memberOf yX3_memberOf, Cond.code yX3_memberOf cX3_memberOf 3 (some .int), Cond.methodLink RX3 65 yX3_parityMember, Cond.instanceMethod yX3_parityMember, Cond.selects RX3 yX3_parityMember yX3_parityMember, Cond.code yX3_parityMember cX3_parityMember 2 (some .int), Cond.instanceMethod yX1_has, Cond.initialized RX1, Cond.selects RX1 yX1_has yX1_has, Cond.code yX1_has cX1_has 2 (some .boolean), Cond.fieldLink RX1 15 "ParityRow$Entry" "parts" "I", Cond.instanceMethod yX0_isOn, Cond.initialized RX0, Cond.selects RX0 yX0_isOn yX0_isOn, Cond.code yX0_isOn cX0_isOn 2 (some .boolean), Cond.fieldLink RX0 26 "ParityRow$Disk" "built" "I", Cond.methodLink RX3 240 yX3_putChunk, Cond.instanceMethod yX3_putChunk, Cond.selects RX3 yX3_putChunk yX3_putChunk, Cond.code yX3_putChunk cX3_putChunk 6 (some .boolean), Cond.fieldLink RX3 24 "ParityRow" "tear" "I", Cond.methodLink RX3 227 yX3_powerStays]
def wsX3_drain_r3 : List Cond := [Cond.instanceMethod yX3_powerStays, Cond.selects RX3 yX3_powerStays yX3_powerStays, Cond.code yX3_powerStays cX3_powerStays 2 (some .boolean), Cond.fieldLink RX3 20 "ParityRow" "writesToCut" "I", Cond.fieldLink RX3 27 "ParityRow" "nextScrub" "I", Cond.instanceMethod yX0_forgetBuilding, Cond.selects RX0 yX0_forgetBuilding yX0_forgetBuilding, Cond.code yX0_forgetBuilding cX0_forgetBuilding 1 none, Cond.fieldLink RX0 22 "ParityRow$Disk" "state" "I", Cond.instanceMethod yX0_take, Cond.selects RX0 yX0_take yX0_take, Cond.code yX0_take cX0_take 6 none, Cond.fieldLink RX0 9 "ParityRow$Disk" "words" "[I", Cond.fieldLink RX0 15 "ParityRow$Disk" "sums" "[I", Cond.fieldLink RX0 18 "ParityRow$Disk" "torn" "[Z", Cond.fieldLink RX0 29 "ParityRow$Disk" "written" "I", Cond.methodLink RX0 36 yX0_sumOf, Cond.static yX0_sumOf, Cond.code yX0_sumOf cX0_sumOf 4 (some .int), Cond.methodLink RX3 150 yX3_putMark, Cond.instanceMethod yX3_putMark, Cond.selects RX3 yX3_putMark yX3_putMark, Cond.code yX3_putMark cX3_putMark 2 (some .boolean), Cond.instanceMethod yX2_free]
def wsX3_drain_r4 : List Cond := [Cond.selects RX2 yX2_free yX2_free, Cond.code yX2_free cX2_free 4 none, Cond.fieldLink RX2 21 "ParityRow$Journal" "records" "I", Cond.fieldLink RX2 27 "ParityRow$Journal" "markCell" "I", Cond.fieldLink RX2 30 "ParityRow$Journal" "markSerial" "I", Cond.fieldLink RX2 24 "ParityRow$Journal" "usedCells" "I", Cond.methodLink RX2 36 yX2_entry, Cond.instanceMethod yX1_cells, Cond.selects RX1 yX1_cells yX1_cells, Cond.code yX1_cells cX1_cells 1 (some .int), Cond.methodLink RX1 25 yJ6_bitCount_0f7a4, Cond.static yJ6_bitCount_0f7a4, Cond.initialized RJ6, Cond.code yJ6_bitCount_0f7a4 cJ6_bitCount_0f7a4 1 (some .int), Cond.constant RJ6 265 (1431655765), Cond.constant RJ6 266 (858993459), Cond.constant RJ6 267 (252645135)]
def wsX3_drain : List Cond := .code yX3_drain cX3_drain 2 (some .int) :: ((wsX3_drain_r1 ++ (wsX3_drain_r2 ++ (wsX3_drain_r3 ++ wsX3_drain_r4))) ++ wsX30 ++ wsX20 ++ wsX10 ++ wsX00)
def wsX3_isMember : List Cond := .code yX3_isMember cX3_isMember 2 (some .boolean) :: ([.fieldLink RX3 36 "ParityRow" "width" "I"] ++ wsX30)
def wsX3_memberThat : List Cond := .code yX3_memberThat cX3_memberThat 3 (some .int) :: ([.fieldLink RX3 36 "ParityRow" "width" "I", .fieldLink RX3 44 "ParityRow" "disks" "[LParityRow$Disk;"] ++ wsX30 ++ wsX00)
def wsX3_allOn : List Cond := .code yX3_allOn cX3_allOn 1 (some .boolean) :: ([.methodLink RX3 126 yX3_memberThat, .instanceMethod yX3_memberThat, .selects RX3 yX3_memberThat yX3_memberThat, .initialized RX3, .code yX3_memberThat cX3_memberThat 3 (some .int), .fieldLink RX3 36 "ParityRow" "width" "I", .fieldLink RX3 44 "ParityRow" "disks" "[LParityRow$Disk;"] ++ wsX30 ++ wsX00)
def wsX3_lose : List Cond := .code yX3_lose cX3_lose 2 (some .int) :: ([.fieldLink RX3 16 "ParityRow" "down" "Z", .fieldLink RX3 44 "ParityRow" "disks" "[LParityRow$Disk;", .methodLink RX3 113 yX3_isMember, .instanceMethod yX3_isMember, .selects RX3 yX3_isMember yX3_isMember, .initialized RX3, .code yX3_isMember cX3_isMember 2 (some .boolean), .fieldLink RX3 36 "ParityRow" "width" "I", .methodLink RX3 116 yX3_allOn, .instanceMethod yX3_allOn, .selects RX3 yX3_allOn yX3_allOn, .code yX3_allOn cX3_allOn 1 (some .boolean), .methodLink RX3 126 yX3_memberThat, .instanceMethod yX3_memberThat, .selects RX3 yX3_memberThat yX3_memberThat, .code yX3_memberThat cX3_memberThat 3 (some .int)] ++ wsX30 ++ wsX00)
def wsX3_spare : List Cond := .code yX3_spare cX3_spare 2 (some .int) :: ([.fieldLink RX3 16 "ParityRow" "down" "Z", .fieldLink RX3 44 "ParityRow" "disks" "[LParityRow$Disk;", .methodLink RX3 126 yX3_memberThat, .instanceMethod yX3_memberThat, .selects RX3 yX3_memberThat yX3_memberThat, .initialized RX3, .code yX3_memberThat cX3_memberThat 3 (some .int), .fieldLink RX3 36 "ParityRow" "width" "I", .instanceMethod yX0_replace, .initialized RX0, .selects RX0 yX0_replace yX0_replace, .code yX0_replace cX0_replace 2 none, .fieldLink RX0 9 "ParityRow$Disk" "words" "[I", .fieldLink RX0 15 "ParityRow$Disk" "sums" "[I", .fieldLink RX0 18 "ParityRow$Disk" "torn" "[Z", .fieldLink RX0 22 "ParityRow$Disk" "state" "I", .fieldLink RX0 26 "ParityRow$Disk" "built" "I"] ++ wsX30 ++ wsX00)
def wsX3_putOthersXor_r1 : List Cond := [Cond.fieldLink RX3 13 "ParityRow" "mixed" "[I", Cond.methodLink RX3 96 yX3_clearMixed, Cond.instanceMethod yX3_clearMixed, Cond.selects RX3 yX3_clearMixed yX3_clearMixed, Cond.initialized RX3, Cond.code yX3_clearMixed cX3_clearMixed 2 none, Cond.methodLink RX3 99 yX3_mixOthers, Cond.instanceMethod yX3_mixOthers, Cond.selects RX3 yX3_mixOthers yX3_mixOthers, Cond.code yX3_mixOthers cX3_mixOthers 4 none, Cond.fieldLink RX3 36 "ParityRow" "width" "I", Cond.fieldLink RX3 44 "ParityRow" "disks" "[LParityRow$Disk;", Cond.methodLink RX3 219 yX3_mix, Cond.instanceMethod yX3_mix, Cond.selects RX3 yX3_mix yX3_mix, Cond.code yX3_mix cX3_mix 4 none, Cond.methodLink RX3 240 yX3_putChunk, Cond.instanceMethod yX3_putChunk, Cond.selects RX3 yX3_putChunk yX3_putChunk, Cond.code yX3_putChunk cX3_putChunk 6 (some .boolean), Cond.fieldLink RX3 24 "ParityRow" "tear" "I", Cond.methodLink RX3 227 yX3_powerStays, Cond.instanceMethod yX3_powerStays, Cond.selects RX3 yX3_powerStays yX3_powerStays]
def wsX3_putOthersXor_r2 : List Cond := [Cond.code yX3_powerStays cX3_powerStays 2 (some .boolean), Cond.fieldLink RX3 9 "ParityRow" "tally" "[I", Cond.fieldLink RX3 20 "ParityRow" "writesToCut" "I", Cond.fieldLink RX3 16 "ParityRow" "down" "Z", Cond.fieldLink RX3 27 "ParityRow" "nextScrub" "I", Cond.instanceMethod yX0_forgetBuilding, Cond.initialized RX0, Cond.selects RX0 yX0_forgetBuilding yX0_forgetBuilding, Cond.code yX0_forgetBuilding cX0_forgetBuilding 1 none, Cond.fieldLink RX0 22 "ParityRow$Disk" "state" "I", Cond.fieldLink RX0 26 "ParityRow$Disk" "built" "I", Cond.instanceMethod yX0_take, Cond.selects RX0 yX0_take yX0_take, Cond.code yX0_take cX0_take 6 none, Cond.fieldLink RX0 9 "ParityRow$Disk" "words" "[I", Cond.fieldLink RX0 15 "ParityRow$Disk" "sums" "[I", Cond.fieldLink RX0 18 "ParityRow$Disk" "torn" "[Z", Cond.fieldLink RX0 29 "ParityRow$Disk" "written" "I", Cond.methodLink RX0 36 yX0_sumOf, Cond.static yX0_sumOf, Cond.code yX0_sumOf cX0_sumOf 4 (some .int)]
def wsX3_putOthersXor : List Cond := .code yX3_putOthersXor cX3_putOthersXor 3 (some .boolean) :: ((wsX3_putOthersXor_r1 ++ wsX3_putOthersXor_r2) ++ wsX30 ++ wsX00)
def wsX3_buildStripe_r1 : List Cond := [Cond.fieldLink RX3 54 "ParityRow" "log" "LParityRow$Journal;", Cond.fieldLink RX3 44 "ParityRow" "disks" "[LParityRow$Disk;", Cond.fieldLink RX3 9 "ParityRow" "tally" "[I", Cond.fieldLink RX3 39 "ParityRow" "data" "I", Cond.instanceMethod yX2_recordsUpTo, Cond.initialized RX2, Cond.selects RX2 yX2_recordsUpTo yX2_recordsUpTo, Cond.code yX2_recordsUpTo cX2_recordsUpTo 4 (some .int), Cond.fieldLink RX2 21 "ParityRow$Journal" "records" "I", Cond.methodLink RX2 36 yX2_entry, Cond.instanceMethod yX2_entry, Cond.selects RX2 yX2_entry yX2_entry, Cond.code yX2_entry cX2_entry 2 (some (.object "ParityRow$Entry")), Cond.fieldLink RX2 11 "ParityRow$Journal" "slots" "[LParityRow$Entry;", Cond.fieldLink RX2 17 "ParityRow$Journal" "oldest" "I", Cond.methodLink RX3 110 yX3_drainOldest, Cond.instanceMethod yX3_drainOldest, Cond.selects RX3 yX3_drainOldest yX3_drainOldest, Cond.initialized RX3, Cond.code yX3_drainOldest cX3_drainOldest 3 (some .boolean), Cond.methodLink RX3 244 yX3_putEntry, Cond.instanceMethod yX3_putEntry, Cond.selects RX3 yX3_putEntry yX3_putEntry, Cond.code yX3_putEntry cX3_putEntry 4 (some .boolean)]
def wsX3_buildStripe_r2 : List Cond := [Cond.fieldLink RX3 36 "ParityRow" "width" "I", Cond.methodLink RX3 62 yX3_memberOf, Cond.instanceMethod yX3_memberOf, Cond.selects RX3 yX3_memberOf yX3_memberOf, Cond.code yX3_memberOf cX3_memberOf 3 (some .int), Cond.methodLink RX3 65 yX3_parityMember, Cond.instanceMethod yX3_parityMember, Cond.selects RX3 yX3_parityMember yX3_parityMember, Cond.code yX3_parityMember cX3_parityMember 2 (some .int), Cond.instanceMethod yX1_has, Cond.initialized RX1, Cond.selects RX1 yX1_has yX1_has, Cond.code yX1_has cX1_has 2 (some .boolean), Cond.fieldLink RX1 15 "ParityRow$Entry" "parts" "I", Cond.instanceMethod yX0_isOn, Cond.initialized RX0, Cond.selects RX0 yX0_isOn yX0_isOn, Cond.code yX0_isOn cX0_isOn 2 (some .boolean), Cond.fieldLink RX0 26 "ParityRow$Disk" "built" "I", Cond.methodLink RX3 240 yX3_putChunk, Cond.instanceMethod yX3_putChunk, Cond.selects RX3 yX3_putChunk yX3_putChunk, Cond.code yX3_putChunk cX3_putChunk 6 (some .boolean), Cond.fieldLink RX3 24 "ParityRow" "tear" "I"]
def wsX3_buildStripe_r3 : List Cond := [Cond.methodLink RX3 227 yX3_powerStays, Cond.instanceMethod yX3_powerStays, Cond.selects RX3 yX3_powerStays yX3_powerStays, Cond.code yX3_powerStays cX3_powerStays 2 (some .boolean), Cond.fieldLink RX3 20 "ParityRow" "writesToCut" "I", Cond.fieldLink RX3 16 "ParityRow" "down" "Z", Cond.fieldLink RX3 27 "ParityRow" "nextScrub" "I", Cond.instanceMethod yX0_forgetBuilding, Cond.selects RX0 yX0_forgetBuilding yX0_forgetBuilding, Cond.code yX0_forgetBuilding cX0_forgetBuilding 1 none, Cond.fieldLink RX0 22 "ParityRow$Disk" "state" "I", Cond.instanceMethod yX0_take, Cond.selects RX0 yX0_take yX0_take, Cond.code yX0_take cX0_take 6 none, Cond.fieldLink RX0 9 "ParityRow$Disk" "words" "[I", Cond.fieldLink RX0 15 "ParityRow$Disk" "sums" "[I", Cond.fieldLink RX0 18 "ParityRow$Disk" "torn" "[Z", Cond.fieldLink RX0 29 "ParityRow$Disk" "written" "I", Cond.methodLink RX0 36 yX0_sumOf, Cond.static yX0_sumOf, Cond.code yX0_sumOf cX0_sumOf 4 (some .int), Cond.methodLink RX3 150 yX3_putMark, Cond.instanceMethod yX3_putMark, Cond.selects RX3 yX3_putMark yX3_putMark]
def wsX3_buildStripe_r4 : List Cond := [Cond.code yX3_putMark cX3_putMark 2 (some .boolean), Cond.instanceMethod yX2_free, Cond.selects RX2 yX2_free yX2_free, Cond.code yX2_free cX2_free 4 none, Cond.fieldLink RX2 27 "ParityRow$Journal" "markCell" "I", Cond.fieldLink RX2 30 "ParityRow$Journal" "markSerial" "I", Cond.fieldLink RX2 24 "ParityRow$Journal" "usedCells" "I", Cond.instanceMethod yX1_cells, Cond.selects RX1 yX1_cells yX1_cells, Cond.code yX1_cells cX1_cells 1 (some .int), Cond.methodLink RX1 25 yJ6_bitCount_0f7a4, Cond.static yJ6_bitCount_0f7a4, Cond.initialized RJ6, Cond.code yJ6_bitCount_0f7a4 cJ6_bitCount_0f7a4 1 (some .int), Cond.constant RJ6 265 (1431655765), Cond.constant RJ6 266 (858993459), Cond.constant RJ6 267 (252645135), Cond.methodLink RX3 213 yX3_othersThere, Cond.instanceMethod yX3_othersThere, Cond.selects RX3 yX3_othersThere yX3_othersThere, Cond.code yX3_othersThere cX3_othersThere 3 (some .boolean), Cond.methodLink RX3 203 yX3_countNotThere, Cond.instanceMethod yX3_countNotThere, Cond.selects RX3 yX3_countNotThere yX3_countNotThere]
def wsX3_buildStripe_r5 : List Cond := [Cond.code yX3_countNotThere cX3_countNotThere 4 (some .int), Cond.instanceMethod yX0_isThere, Cond.selects RX0 yX0_isThere yX0_isThere, Cond.code yX0_isThere cX0_isThere 2 (some .boolean), Cond.methodLink RX0 32 yX0_isOn, Cond.methodLink RX3 295 yX3_putOthersXor, Cond.instanceMethod yX3_putOthersXor, Cond.selects RX3 yX3_putOthersXor yX3_putOthersXor, Cond.code yX3_putOthersXor cX3_putOthersXor 3 (some .boolean), Cond.fieldLink RX3 13 "ParityRow" "mixed" "[I", Cond.methodLink RX3 96 yX3_clearMixed, Cond.instanceMethod yX3_clearMixed, Cond.selects RX3 yX3_clearMixed yX3_clearMixed, Cond.code yX3_clearMixed cX3_clearMixed 2 none, Cond.methodLink RX3 99 yX3_mixOthers, Cond.instanceMethod yX3_mixOthers, Cond.selects RX3 yX3_mixOthers yX3_mixOthers, Cond.code yX3_mixOthers cX3_mixOthers 4 none, Cond.methodLink RX3 219 yX3_mix, Cond.instanceMethod yX3_mix, Cond.selects RX3 yX3_mix yX3_mix, Cond.code yX3_mix cX3_mix 4 none]
def wsX3_buildStripe : List Cond := .code yX3_buildStripe cX3_buildStripe 4 (some .boolean) :: ((wsX3_buildStripe_r1 ++ (wsX3_buildStripe_r2 ++ (wsX3_buildStripe_r3 ++ (wsX3_buildStripe_r4 ++ wsX3_buildStripe_r5)))) ++ wsX30 ++ wsX00 ++ wsX20 ++ wsX10)
def wsX3_build_r1 : List Cond := [Cond.fieldLink RX3 16 "ParityRow" "down" "Z", Cond.fieldLink RX3 44 "ParityRow" "disks" "[LParityRow$Disk;", Cond.methodLink RX3 126 yX3_memberThat, Cond.instanceMethod yX3_memberThat, Cond.selects RX3 yX3_memberThat yX3_memberThat, Cond.initialized RX3, Cond.code yX3_memberThat cX3_memberThat 3 (some .int), Cond.fieldLink RX3 36 "ParityRow" "width" "I", Cond.methodLink RX3 132 yX3_buildStripe, Cond.instanceMethod yX3_buildStripe, Cond.selects RX3 yX3_buildStripe yX3_buildStripe, Cond.code yX3_buildStripe cX3_buildStripe 4 (some .boolean), Cond.fieldLink RX3 54 "ParityRow" "log" "LParityRow$Journal;", Cond.fieldLink RX3 9 "ParityRow" "tally" "[I", Cond.fieldLink RX3 39 "ParityRow" "data" "I", Cond.instanceMethod yX2_recordsUpTo, Cond.initialized RX2, Cond.selects RX2 yX2_recordsUpTo yX2_recordsUpTo, Cond.code yX2_recordsUpTo cX2_recordsUpTo 4 (some .int), Cond.fieldLink RX2 21 "ParityRow$Journal" "records" "I", Cond.methodLink RX2 36 yX2_entry, Cond.instanceMethod yX2_entry, Cond.selects RX2 yX2_entry yX2_entry, Cond.code yX2_entry cX2_entry 2 (some (.object "ParityRow$Entry"))]
def wsX3_build_r2 : List Cond := [Cond.fieldLink RX2 11 "ParityRow$Journal" "slots" "[LParityRow$Entry;", Cond.fieldLink RX2 17 "ParityRow$Journal" "oldest" "I", Cond.methodLink RX3 110 yX3_drainOldest, Cond.instanceMethod yX3_drainOldest, Cond.selects RX3 yX3_drainOldest yX3_drainOldest, Cond.code yX3_drainOldest cX3_drainOldest 3 (some .boolean), Cond.methodLink RX3 244 yX3_putEntry, Cond.instanceMethod yX3_putEntry, Cond.selects RX3 yX3_putEntry yX3_putEntry, Cond.code yX3_putEntry cX3_putEntry 4 (some .boolean), Cond.methodLink RX3 62 yX3_memberOf, Cond.instanceMethod yX3_memberOf, Cond.selects RX3 yX3_memberOf yX3_memberOf, Cond.code yX3_memberOf cX3_memberOf 3 (some .int), Cond.methodLink RX3 65 yX3_parityMember, Cond.instanceMethod yX3_parityMember, Cond.selects RX3 yX3_parityMember yX3_parityMember, Cond.code yX3_parityMember cX3_parityMember 2 (some .int), Cond.instanceMethod yX1_has, Cond.initialized RX1, Cond.selects RX1 yX1_has yX1_has, Cond.code yX1_has cX1_has 2 (some .boolean), Cond.fieldLink RX1 15 "ParityRow$Entry" "parts" "I", Cond.instanceMethod yX0_isOn]
def wsX3_build_r3 : List Cond := [Cond.initialized RX0, Cond.selects RX0 yX0_isOn yX0_isOn, Cond.code yX0_isOn cX0_isOn 2 (some .boolean), Cond.fieldLink RX0 26 "ParityRow$Disk" "built" "I", Cond.methodLink RX3 240 yX3_putChunk, Cond.instanceMethod yX3_putChunk, Cond.selects RX3 yX3_putChunk yX3_putChunk, Cond.code yX3_putChunk cX3_putChunk 6 (some .boolean), Cond.fieldLink RX3 24 "ParityRow" "tear" "I", Cond.methodLink RX3 227 yX3_powerStays, Cond.instanceMethod yX3_powerStays, Cond.selects RX3 yX3_powerStays yX3_powerStays, Cond.code yX3_powerStays cX3_powerStays 2 (some .boolean), Cond.fieldLink RX3 20 "ParityRow" "writesToCut" "I", Cond.fieldLink RX3 27 "ParityRow" "nextScrub" "I", Cond.instanceMethod yX0_forgetBuilding, Cond.selects RX0 yX0_forgetBuilding yX0_forgetBuilding, Cond.code yX0_forgetBuilding cX0_forgetBuilding 1 none, Cond.fieldLink RX0 22 "ParityRow$Disk" "state" "I", Cond.instanceMethod yX0_take, Cond.selects RX0 yX0_take yX0_take, Cond.code yX0_take cX0_take 6 none, Cond.fieldLink RX0 9 "ParityRow$Disk" "words" "[I", Cond.fieldLink RX0 15 "ParityRow$Disk" "sums" "[I"]
def wsX3_build_r4 : List Cond := [Cond.fieldLink RX0 18 "ParityRow$Disk" "torn" "[Z", Cond.fieldLink RX0 29 "ParityRow$Disk" "written" "I", Cond.methodLink RX0 36 yX0_sumOf, Cond.static yX0_sumOf, Cond.code yX0_sumOf cX0_sumOf 4 (some .int), Cond.methodLink RX3 150 yX3_putMark, Cond.instanceMethod yX3_putMark, Cond.selects RX3 yX3_putMark yX3_putMark, Cond.code yX3_putMark cX3_putMark 2 (some .boolean), Cond.instanceMethod yX2_free, Cond.selects RX2 yX2_free yX2_free, Cond.code yX2_free cX2_free 4 none, Cond.fieldLink RX2 27 "ParityRow$Journal" "markCell" "I", Cond.fieldLink RX2 30 "ParityRow$Journal" "markSerial" "I", Cond.fieldLink RX2 24 "ParityRow$Journal" "usedCells" "I", Cond.instanceMethod yX1_cells, Cond.selects RX1 yX1_cells yX1_cells, Cond.code yX1_cells cX1_cells 1 (some .int), Cond.methodLink RX1 25 yJ6_bitCount_0f7a4, Cond.static yJ6_bitCount_0f7a4, Cond.initialized RJ6, Cond.code yJ6_bitCount_0f7a4 cJ6_bitCount_0f7a4 1 (some .int), Cond.constant RJ6 265 (1431655765), Cond.constant RJ6 266 (858993459)]
def wsX3_build_r5 : List Cond := [Cond.constant RJ6 267 (252645135), Cond.methodLink RX3 213 yX3_othersThere, Cond.instanceMethod yX3_othersThere, Cond.selects RX3 yX3_othersThere yX3_othersThere, Cond.code yX3_othersThere cX3_othersThere 3 (some .boolean), Cond.methodLink RX3 203 yX3_countNotThere, Cond.instanceMethod yX3_countNotThere, Cond.selects RX3 yX3_countNotThere yX3_countNotThere, Cond.code yX3_countNotThere cX3_countNotThere 4 (some .int), Cond.instanceMethod yX0_isThere, Cond.selects RX0 yX0_isThere yX0_isThere, Cond.code yX0_isThere cX0_isThere 2 (some .boolean), Cond.methodLink RX0 32 yX0_isOn, Cond.methodLink RX3 295 yX3_putOthersXor, Cond.instanceMethod yX3_putOthersXor, Cond.selects RX3 yX3_putOthersXor yX3_putOthersXor, Cond.code yX3_putOthersXor cX3_putOthersXor 3 (some .boolean), Cond.fieldLink RX3 13 "ParityRow" "mixed" "[I", Cond.methodLink RX3 96 yX3_clearMixed, Cond.instanceMethod yX3_clearMixed, Cond.selects RX3 yX3_clearMixed yX3_clearMixed, Cond.code yX3_clearMixed cX3_clearMixed 2 none, Cond.methodLink RX3 99 yX3_mixOthers, Cond.instanceMethod yX3_mixOthers]
def wsX3_build_r6 : List Cond := [Cond.selects RX3 yX3_mixOthers yX3_mixOthers, Cond.code yX3_mixOthers cX3_mixOthers 4 none, Cond.methodLink RX3 219 yX3_mix, Cond.instanceMethod yX3_mix, Cond.selects RX3 yX3_mix yX3_mix, Cond.code yX3_mix cX3_mix 4 none]
def wsX3_build : List Cond := .code yX3_build cX3_build 5 (some .int) :: ((wsX3_build_r1 ++ (wsX3_build_r2 ++ (wsX3_build_r3 ++ (wsX3_build_r4 ++ (wsX3_build_r5 ++ wsX3_build_r6))))) ++ wsX30 ++ wsX00 ++ wsX20 ++ wsX10)
def wsX3_xorIsZero : List Cond := .code yX3_xorIsZero cX3_xorIsZero 3 (some .boolean) :: ([.fieldLink RX3 13 "ParityRow" "mixed" "[I", .methodLink RX3 96 yX3_clearMixed, .instanceMethod yX3_clearMixed, .selects RX3 yX3_clearMixed yX3_clearMixed, .initialized RX3, .code yX3_clearMixed cX3_clearMixed 2 none, .methodLink RX3 99 yX3_mixOthers, .instanceMethod yX3_mixOthers, .selects RX3 yX3_mixOthers yX3_mixOthers, .code yX3_mixOthers cX3_mixOthers 4 none, .fieldLink RX3 36 "ParityRow" "width" "I", .fieldLink RX3 44 "ParityRow" "disks" "[LParityRow$Disk;", .methodLink RX3 219 yX3_mix, .instanceMethod yX3_mix, .selects RX3 yX3_mix yX3_mix, .code yX3_mix cX3_mix 4 none] ++ wsX30 ++ wsX00)
def wsX3_firstNotThere : List Cond := .code yX3_firstNotThere cX3_firstNotThere 3 (some .int) :: ([.fieldLink RX3 36 "ParityRow" "width" "I", .fieldLink RX3 44 "ParityRow" "disks" "[LParityRow$Disk;", .instanceMethod yX0_isThere, .initialized RX0, .selects RX0 yX0_isThere yX0_isThere, .code yX0_isThere cX0_isThere 2 (some .boolean), .fieldLink RX0 18 "ParityRow$Disk" "torn" "[Z", .fieldLink RX0 15 "ParityRow$Disk" "sums" "[I", .fieldLink RX0 9 "ParityRow$Disk" "words" "[I", .methodLink RX0 32 yX0_isOn, .instanceMethod yX0_isOn, .selects RX0 yX0_isOn yX0_isOn, .code yX0_isOn cX0_isOn 2 (some .boolean), .fieldLink RX0 26 "ParityRow$Disk" "built" "I", .methodLink RX0 36 yX0_sumOf, .static yX0_sumOf, .code yX0_sumOf cX0_sumOf 4 (some .int)] ++ wsX30 ++ wsX00)
def wsX3_scrubStripe_r1 : List Cond := [Cond.fieldLink RX3 9 "ParityRow" "tally" "[I", Cond.fieldLink RX3 36 "ParityRow" "width" "I", Cond.methodLink RX3 203 yX3_countNotThere, Cond.instanceMethod yX3_countNotThere, Cond.selects RX3 yX3_countNotThere yX3_countNotThere, Cond.initialized RX3, Cond.code yX3_countNotThere cX3_countNotThere 4 (some .int), Cond.fieldLink RX3 44 "ParityRow" "disks" "[LParityRow$Disk;", Cond.instanceMethod yX0_isThere, Cond.initialized RX0, Cond.selects RX0 yX0_isThere yX0_isThere, Cond.code yX0_isThere cX0_isThere 2 (some .boolean), Cond.fieldLink RX0 18 "ParityRow$Disk" "torn" "[Z", Cond.fieldLink RX0 15 "ParityRow$Disk" "sums" "[I", Cond.fieldLink RX0 9 "ParityRow$Disk" "words" "[I", Cond.methodLink RX0 32 yX0_isOn, Cond.instanceMethod yX0_isOn, Cond.selects RX0 yX0_isOn yX0_isOn, Cond.code yX0_isOn cX0_isOn 2 (some .boolean), Cond.fieldLink RX0 26 "ParityRow$Disk" "built" "I", Cond.methodLink RX0 36 yX0_sumOf, Cond.static yX0_sumOf, Cond.code yX0_sumOf cX0_sumOf 4 (some .int), Cond.methodLink RX3 206 yX3_xorIsZero]
def wsX3_scrubStripe_r2 : List Cond := [Cond.instanceMethod yX3_xorIsZero, Cond.selects RX3 yX3_xorIsZero yX3_xorIsZero, Cond.code yX3_xorIsZero cX3_xorIsZero 3 (some .boolean), Cond.fieldLink RX3 13 "ParityRow" "mixed" "[I", Cond.methodLink RX3 96 yX3_clearMixed, Cond.instanceMethod yX3_clearMixed, Cond.selects RX3 yX3_clearMixed yX3_clearMixed, Cond.code yX3_clearMixed cX3_clearMixed 2 none, Cond.methodLink RX3 99 yX3_mixOthers, Cond.instanceMethod yX3_mixOthers, Cond.selects RX3 yX3_mixOthers yX3_mixOthers, Cond.code yX3_mixOthers cX3_mixOthers 4 none, Cond.methodLink RX3 219 yX3_mix, Cond.instanceMethod yX3_mix, Cond.selects RX3 yX3_mix yX3_mix, Cond.code yX3_mix cX3_mix 4 none, Cond.methodLink RX3 65 yX3_parityMember, Cond.instanceMethod yX3_parityMember, Cond.selects RX3 yX3_parityMember yX3_parityMember, Cond.code yX3_parityMember cX3_parityMember 2 (some .int), Cond.methodLink RX3 298 yX3_firstNotThere, Cond.instanceMethod yX3_firstNotThere, Cond.selects RX3 yX3_firstNotThere yX3_firstNotThere, Cond.code yX3_firstNotThere cX3_firstNotThere 3 (some .int)]
def wsX3_scrubStripe_r3 : List Cond := [Cond.methodLink RX3 295 yX3_putOthersXor, Cond.instanceMethod yX3_putOthersXor, Cond.selects RX3 yX3_putOthersXor yX3_putOthersXor, Cond.code yX3_putOthersXor cX3_putOthersXor 3 (some .boolean), Cond.methodLink RX3 240 yX3_putChunk, Cond.instanceMethod yX3_putChunk, Cond.selects RX3 yX3_putChunk yX3_putChunk, Cond.code yX3_putChunk cX3_putChunk 6 (some .boolean), Cond.fieldLink RX3 24 "ParityRow" "tear" "I", Cond.methodLink RX3 227 yX3_powerStays, Cond.instanceMethod yX3_powerStays, Cond.selects RX3 yX3_powerStays yX3_powerStays, Cond.code yX3_powerStays cX3_powerStays 2 (some .boolean), Cond.fieldLink RX3 20 "ParityRow" "writesToCut" "I", Cond.fieldLink RX3 16 "ParityRow" "down" "Z", Cond.fieldLink RX3 27 "ParityRow" "nextScrub" "I", Cond.instanceMethod yX0_forgetBuilding, Cond.selects RX0 yX0_forgetBuilding yX0_forgetBuilding, Cond.code yX0_forgetBuilding cX0_forgetBuilding 1 none, Cond.fieldLink RX0 22 "ParityRow$Disk" "state" "I", Cond.instanceMethod yX0_take, Cond.selects RX0 yX0_take yX0_take, Cond.code yX0_take cX0_take 6 none, Cond.fieldLink RX0 29 "ParityRow$Disk" "written" "I"]
def wsX3_scrubStripe : List Cond := .code yX3_scrubStripe cX3_scrubStripe 3 (some .boolean) :: ((wsX3_scrubStripe_r1 ++ (wsX3_scrubStripe_r2 ++ wsX3_scrubStripe_r3)) ++ wsX30 ++ wsX00)
def wsX3_scrub_r1 : List Cond := [Cond.fieldLink RX3 16 "ParityRow" "down" "Z", Cond.fieldLink RX3 9 "ParityRow" "tally" "[I", Cond.fieldLink RX3 27 "ParityRow" "nextScrub" "I", Cond.methodLink RX3 116 yX3_allOn, Cond.instanceMethod yX3_allOn, Cond.selects RX3 yX3_allOn yX3_allOn, Cond.initialized RX3, Cond.code yX3_allOn cX3_allOn 1 (some .boolean), Cond.methodLink RX3 126 yX3_memberThat, Cond.instanceMethod yX3_memberThat, Cond.selects RX3 yX3_memberThat yX3_memberThat, Cond.code yX3_memberThat cX3_memberThat 3 (some .int), Cond.fieldLink RX3 36 "ParityRow" "width" "I", Cond.fieldLink RX3 44 "ParityRow" "disks" "[LParityRow$Disk;", Cond.methodLink RX3 135 yX3_scrubStripe, Cond.instanceMethod yX3_scrubStripe, Cond.selects RX3 yX3_scrubStripe yX3_scrubStripe, Cond.code yX3_scrubStripe cX3_scrubStripe 3 (some .boolean), Cond.methodLink RX3 203 yX3_countNotThere, Cond.instanceMethod yX3_countNotThere, Cond.selects RX3 yX3_countNotThere yX3_countNotThere, Cond.code yX3_countNotThere cX3_countNotThere 4 (some .int), Cond.instanceMethod yX0_isThere, Cond.initialized RX0]
def wsX3_scrub_r2 : List Cond := [Cond.selects RX0 yX0_isThere yX0_isThere, Cond.code yX0_isThere cX0_isThere 2 (some .boolean), Cond.fieldLink RX0 18 "ParityRow$Disk" "torn" "[Z", Cond.fieldLink RX0 15 "ParityRow$Disk" "sums" "[I", Cond.fieldLink RX0 9 "ParityRow$Disk" "words" "[I", Cond.methodLink RX0 32 yX0_isOn, Cond.instanceMethod yX0_isOn, Cond.selects RX0 yX0_isOn yX0_isOn, Cond.code yX0_isOn cX0_isOn 2 (some .boolean), Cond.fieldLink RX0 26 "ParityRow$Disk" "built" "I", Cond.methodLink RX0 36 yX0_sumOf, Cond.static yX0_sumOf, Cond.code yX0_sumOf cX0_sumOf 4 (some .int), Cond.methodLink RX3 206 yX3_xorIsZero, Cond.instanceMethod yX3_xorIsZero, Cond.selects RX3 yX3_xorIsZero yX3_xorIsZero, Cond.code yX3_xorIsZero cX3_xorIsZero 3 (some .boolean), Cond.fieldLink RX3 13 "ParityRow" "mixed" "[I", Cond.methodLink RX3 96 yX3_clearMixed, Cond.instanceMethod yX3_clearMixed, Cond.selects RX3 yX3_clearMixed yX3_clearMixed, Cond.code yX3_clearMixed cX3_clearMixed 2 none, Cond.methodLink RX3 99 yX3_mixOthers, Cond.instanceMethod yX3_mixOthers]
def wsX3_scrub_r3 : List Cond := [Cond.selects RX3 yX3_mixOthers yX3_mixOthers, Cond.code yX3_mixOthers cX3_mixOthers 4 none, Cond.methodLink RX3 219 yX3_mix, Cond.instanceMethod yX3_mix, Cond.selects RX3 yX3_mix yX3_mix, Cond.code yX3_mix cX3_mix 4 none, Cond.methodLink RX3 65 yX3_parityMember, Cond.instanceMethod yX3_parityMember, Cond.selects RX3 yX3_parityMember yX3_parityMember, Cond.code yX3_parityMember cX3_parityMember 2 (some .int), Cond.methodLink RX3 298 yX3_firstNotThere, Cond.instanceMethod yX3_firstNotThere, Cond.selects RX3 yX3_firstNotThere yX3_firstNotThere, Cond.code yX3_firstNotThere cX3_firstNotThere 3 (some .int), Cond.methodLink RX3 295 yX3_putOthersXor, Cond.instanceMethod yX3_putOthersXor, Cond.selects RX3 yX3_putOthersXor yX3_putOthersXor, Cond.code yX3_putOthersXor cX3_putOthersXor 3 (some .boolean), Cond.methodLink RX3 240 yX3_putChunk, Cond.instanceMethod yX3_putChunk, Cond.selects RX3 yX3_putChunk yX3_putChunk, Cond.code yX3_putChunk cX3_putChunk 6 (some .boolean), Cond.fieldLink RX3 24 "ParityRow" "tear" "I", Cond.methodLink RX3 227 yX3_powerStays]
def wsX3_scrub_r4 : List Cond := [Cond.instanceMethod yX3_powerStays, Cond.selects RX3 yX3_powerStays yX3_powerStays, Cond.code yX3_powerStays cX3_powerStays 2 (some .boolean), Cond.fieldLink RX3 20 "ParityRow" "writesToCut" "I", Cond.instanceMethod yX0_forgetBuilding, Cond.selects RX0 yX0_forgetBuilding yX0_forgetBuilding, Cond.code yX0_forgetBuilding cX0_forgetBuilding 1 none, Cond.fieldLink RX0 22 "ParityRow$Disk" "state" "I", Cond.instanceMethod yX0_take, Cond.selects RX0 yX0_take yX0_take, Cond.code yX0_take cX0_take 6 none, Cond.fieldLink RX0 29 "ParityRow$Disk" "written" "I"]
def wsX3_scrub : List Cond := .code yX3_scrub cX3_scrub 4 (some .int) :: ((wsX3_scrub_r1 ++ (wsX3_scrub_r2 ++ (wsX3_scrub_r3 ++ wsX3_scrub_r4))) ++ wsX30 ++ wsX00)
def wsX3_isStripe : List Cond := .code yX3_isStripe cX3_isStripe 1 (some .boolean) :: ([])
def wsX3_rot : List Cond := .code yX3_rot cX3_rot 6 (some .int) :: ([.fieldLink RX3 44 "ParityRow" "disks" "[LParityRow$Disk;", .methodLink RX3 113 yX3_isMember, .instanceMethod yX3_isMember, .selects RX3 yX3_isMember yX3_isMember, .initialized RX3, .code yX3_isMember cX3_isMember 2 (some .boolean), .fieldLink RX3 36 "ParityRow" "width" "I", .methodLink RX3 138 yX3_isStripe, .static yX3_isStripe, .code yX3_isStripe cX3_isStripe 1 (some .boolean)] ++ wsX30 ++ wsX00)
def wsX3_isCut : List Cond := .code yX3_isCut cX3_isCut 1 (some .boolean) :: ([])
def wsX3_cut : List Cond := .code yX3_cut cX3_cut 3 (some .int) :: ([.fieldLink RX3 16 "ParityRow" "down" "Z", .fieldLink RX3 20 "ParityRow" "writesToCut" "I", .fieldLink RX3 24 "ParityRow" "tear" "I", .methodLink RX3 144 yX3_isCut, .static yX3_isCut, .initialized RX3, .code yX3_isCut cX3_isCut 1 (some .boolean)] ++ wsX30)
def wsX3_doAgain_r1 : List Cond := [Cond.fieldLink RX3 54 "ParityRow" "log" "LParityRow$Journal;", Cond.fieldLink RX3 9 "ParityRow" "tally" "[I", Cond.instanceMethod yX2_entry, Cond.initialized RX2, Cond.selects RX2 yX2_entry yX2_entry, Cond.code yX2_entry cX2_entry 2 (some (.object "ParityRow$Entry")), Cond.fieldLink RX2 11 "ParityRow$Journal" "slots" "[LParityRow$Entry;", Cond.fieldLink RX2 17 "ParityRow$Journal" "oldest" "I", Cond.methodLink RX3 244 yX3_putEntry, Cond.instanceMethod yX3_putEntry, Cond.selects RX3 yX3_putEntry yX3_putEntry, Cond.initialized RX3, Cond.code yX3_putEntry cX3_putEntry 4 (some .boolean), Cond.fieldLink RX3 36 "ParityRow" "width" "I", Cond.fieldLink RX3 44 "ParityRow" "disks" "[LParityRow$Disk;", Cond.methodLink RX3 62 yX3_memberOf, Cond.instanceMethod yX3_memberOf, Cond.selects RX3 yX3_memberOf yX3_memberOf, Cond.code yX3_memberOf cX3_memberOf 3 (some .int), Cond.methodLink RX3 65 yX3_parityMember, Cond.instanceMethod yX3_parityMember, Cond.selects RX3 yX3_parityMember yX3_parityMember, Cond.code yX3_parityMember cX3_parityMember 2 (some .int), Cond.instanceMethod yX1_has]
def wsX3_doAgain_r2 : List Cond := [Cond.initialized RX1, Cond.selects RX1 yX1_has yX1_has, Cond.code yX1_has cX1_has 2 (some .boolean), Cond.fieldLink RX1 15 "ParityRow$Entry" "parts" "I", Cond.instanceMethod yX0_isOn, Cond.initialized RX0, Cond.selects RX0 yX0_isOn yX0_isOn, Cond.code yX0_isOn cX0_isOn 2 (some .boolean), Cond.fieldLink RX0 26 "ParityRow$Disk" "built" "I", Cond.methodLink RX3 240 yX3_putChunk, Cond.instanceMethod yX3_putChunk, Cond.selects RX3 yX3_putChunk yX3_putChunk, Cond.code yX3_putChunk cX3_putChunk 6 (some .boolean), Cond.fieldLink RX3 24 "ParityRow" "tear" "I", Cond.methodLink RX3 227 yX3_powerStays, Cond.instanceMethod yX3_powerStays, Cond.selects RX3 yX3_powerStays yX3_powerStays, Cond.code yX3_powerStays cX3_powerStays 2 (some .boolean), Cond.fieldLink RX3 20 "ParityRow" "writesToCut" "I", Cond.fieldLink RX3 16 "ParityRow" "down" "Z", Cond.fieldLink RX3 27 "ParityRow" "nextScrub" "I", Cond.instanceMethod yX0_forgetBuilding, Cond.selects RX0 yX0_forgetBuilding yX0_forgetBuilding, Cond.code yX0_forgetBuilding cX0_forgetBuilding 1 none]
def wsX3_doAgain_r3 : List Cond := [Cond.fieldLink RX0 22 "ParityRow$Disk" "state" "I", Cond.instanceMethod yX0_take, Cond.selects RX0 yX0_take yX0_take, Cond.code yX0_take cX0_take 6 none, Cond.fieldLink RX0 9 "ParityRow$Disk" "words" "[I", Cond.fieldLink RX0 15 "ParityRow$Disk" "sums" "[I", Cond.fieldLink RX0 18 "ParityRow$Disk" "torn" "[Z", Cond.fieldLink RX0 29 "ParityRow$Disk" "written" "I", Cond.methodLink RX0 36 yX0_sumOf, Cond.static yX0_sumOf, Cond.code yX0_sumOf cX0_sumOf 4 (some .int)]
def wsX3_doAgain : List Cond := .code yX3_doAgain cX3_doAgain 3 (some .boolean) :: ((wsX3_doAgain_r1 ++ (wsX3_doAgain_r2 ++ wsX3_doAgain_r3)) ++ wsX30 ++ wsX20 ++ wsX10 ++ wsX00)
def wsX3_start_r1 : List Cond := [Cond.fieldLink RX3 16 "ParityRow" "down" "Z", Cond.fieldLink RX3 20 "ParityRow" "writesToCut" "I", Cond.fieldLink RX3 54 "ParityRow" "log" "LParityRow$Journal;", Cond.methodLink RX3 144 yX3_isCut, Cond.static yX3_isCut, Cond.initialized RX3, Cond.code yX3_isCut cX3_isCut 1 (some .boolean), Cond.methodLink RX3 147 yX3_doAgain, Cond.instanceMethod yX3_doAgain, Cond.selects RX3 yX3_doAgain yX3_doAgain, Cond.code yX3_doAgain cX3_doAgain 3 (some .boolean), Cond.fieldLink RX3 9 "ParityRow" "tally" "[I", Cond.instanceMethod yX2_entry, Cond.initialized RX2, Cond.selects RX2 yX2_entry yX2_entry, Cond.code yX2_entry cX2_entry 2 (some (.object "ParityRow$Entry")), Cond.fieldLink RX2 11 "ParityRow$Journal" "slots" "[LParityRow$Entry;", Cond.fieldLink RX2 17 "ParityRow$Journal" "oldest" "I", Cond.methodLink RX3 244 yX3_putEntry, Cond.instanceMethod yX3_putEntry, Cond.selects RX3 yX3_putEntry yX3_putEntry, Cond.code yX3_putEntry cX3_putEntry 4 (some .boolean), Cond.fieldLink RX3 36 "ParityRow" "width" "I", Cond.fieldLink RX3 44 "ParityRow" "disks" "[LParityRow$Disk;"]
def wsX3_start_r2 : List Cond := [Cond.methodLink RX3 62 yX3_memberOf, Cond.instanceMethod yX3_memberOf, Cond.selects RX3 yX3_memberOf yX3_memberOf, Cond.code yX3_memberOf cX3_memberOf 3 (some .int), Cond.methodLink RX3 65 yX3_parityMember, Cond.instanceMethod yX3_parityMember, Cond.selects RX3 yX3_parityMember yX3_parityMember, Cond.code yX3_parityMember cX3_parityMember 2 (some .int), Cond.instanceMethod yX1_has, Cond.initialized RX1, Cond.selects RX1 yX1_has yX1_has, Cond.code yX1_has cX1_has 2 (some .boolean), Cond.fieldLink RX1 15 "ParityRow$Entry" "parts" "I", Cond.instanceMethod yX0_isOn, Cond.initialized RX0, Cond.selects RX0 yX0_isOn yX0_isOn, Cond.code yX0_isOn cX0_isOn 2 (some .boolean), Cond.fieldLink RX0 26 "ParityRow$Disk" "built" "I", Cond.methodLink RX3 240 yX3_putChunk, Cond.instanceMethod yX3_putChunk, Cond.selects RX3 yX3_putChunk yX3_putChunk, Cond.code yX3_putChunk cX3_putChunk 6 (some .boolean), Cond.fieldLink RX3 24 "ParityRow" "tear" "I", Cond.methodLink RX3 227 yX3_powerStays]
def wsX3_start_r3 : List Cond := [Cond.instanceMethod yX3_powerStays, Cond.selects RX3 yX3_powerStays yX3_powerStays, Cond.code yX3_powerStays cX3_powerStays 2 (some .boolean), Cond.fieldLink RX3 27 "ParityRow" "nextScrub" "I", Cond.instanceMethod yX0_forgetBuilding, Cond.selects RX0 yX0_forgetBuilding yX0_forgetBuilding, Cond.code yX0_forgetBuilding cX0_forgetBuilding 1 none, Cond.fieldLink RX0 22 "ParityRow$Disk" "state" "I", Cond.instanceMethod yX0_take, Cond.selects RX0 yX0_take yX0_take, Cond.code yX0_take cX0_take 6 none, Cond.fieldLink RX0 9 "ParityRow$Disk" "words" "[I", Cond.fieldLink RX0 15 "ParityRow$Disk" "sums" "[I", Cond.fieldLink RX0 18 "ParityRow$Disk" "torn" "[Z", Cond.fieldLink RX0 29 "ParityRow$Disk" "written" "I", Cond.methodLink RX0 36 yX0_sumOf, Cond.static yX0_sumOf, Cond.code yX0_sumOf cX0_sumOf 4 (some .int), Cond.methodLink RX3 150 yX3_putMark, Cond.instanceMethod yX3_putMark, Cond.selects RX3 yX3_putMark yX3_putMark, Cond.code yX3_putMark cX3_putMark 2 (some .boolean), Cond.instanceMethod yX2_free, Cond.selects RX2 yX2_free yX2_free]
def wsX3_start_r4 : List Cond := [Cond.code yX2_free cX2_free 4 none, Cond.fieldLink RX2 21 "ParityRow$Journal" "records" "I", Cond.fieldLink RX2 27 "ParityRow$Journal" "markCell" "I", Cond.fieldLink RX2 30 "ParityRow$Journal" "markSerial" "I", Cond.fieldLink RX2 24 "ParityRow$Journal" "usedCells" "I", Cond.methodLink RX2 36 yX2_entry, Cond.instanceMethod yX1_cells, Cond.selects RX1 yX1_cells yX1_cells, Cond.code yX1_cells cX1_cells 1 (some .int), Cond.methodLink RX1 25 yJ6_bitCount_0f7a4, Cond.static yJ6_bitCount_0f7a4, Cond.initialized RJ6, Cond.code yJ6_bitCount_0f7a4 cJ6_bitCount_0f7a4 1 (some .int), Cond.constant RJ6 265 (1431655765), Cond.constant RJ6 266 (858993459), Cond.constant RJ6 267 (252645135)]
def wsX3_start : List Cond := .code yX3_start cX3_start 3 (some .int) :: ((wsX3_start_r1 ++ (wsX3_start_r2 ++ (wsX3_start_r3 ++ wsX3_start_r4))) ++ wsX30 ++ wsX20 ++ wsX10 ++ wsX00)
def wsX3_chunk_r1 : List Cond := [Cond.fieldLink RX3 44 "ParityRow" "disks" "[LParityRow$Disk;", Cond.methodLink RX3 113 yX3_isMember, Cond.instanceMethod yX3_isMember, Cond.selects RX3 yX3_isMember yX3_isMember, Cond.initialized RX3, Cond.code yX3_isMember cX3_isMember 2 (some .boolean), Cond.fieldLink RX3 36 "ParityRow" "width" "I", Cond.methodLink RX3 138 yX3_isStripe, Cond.static yX3_isStripe, Cond.code yX3_isStripe cX3_isStripe 1 (some .boolean), Cond.instanceMethod yX0_isThere, Cond.initialized RX0, Cond.selects RX0 yX0_isThere yX0_isThere, Cond.code yX0_isThere cX0_isThere 2 (some .boolean), Cond.fieldLink RX0 18 "ParityRow$Disk" "torn" "[Z", Cond.fieldLink RX0 15 "ParityRow$Disk" "sums" "[I", Cond.fieldLink RX0 9 "ParityRow$Disk" "words" "[I", Cond.methodLink RX0 32 yX0_isOn, Cond.instanceMethod yX0_isOn, Cond.selects RX0 yX0_isOn yX0_isOn, Cond.code yX0_isOn cX0_isOn 2 (some .boolean), Cond.fieldLink RX0 26 "ParityRow$Disk" "built" "I", Cond.methodLink RX0 36 yX0_sumOf, Cond.static yX0_sumOf]
def wsX3_chunk_r2 : List Cond := [Cond.code yX0_sumOf cX0_sumOf 4 (some .int)]
def wsX3_chunk : List Cond := .code yX3_chunk cX3_chunk 5 (some .int) :: ((wsX3_chunk_r1 ++ wsX3_chunk_r2) ++ wsX30 ++ wsX00)
def wsX3_member : List Cond := .code yX3_member cX3_member 3 (some .int) :: ([.fieldLink RX3 44 "ParityRow" "disks" "[LParityRow$Disk;", .methodLink RX3 113 yX3_isMember, .instanceMethod yX3_isMember, .selects RX3 yX3_isMember yX3_isMember, .initialized RX3, .code yX3_isMember cX3_isMember 2 (some .boolean), .fieldLink RX3 36 "ParityRow" "width" "I"] ++ wsX30 ++ wsX00)
def wsX3_recordsKnown : List Cond := .code yX3_recordsKnown cX3_recordsKnown 1 (some .int) :: ([.fieldLink RX3 16 "ParityRow" "down" "Z", .fieldLink RX3 54 "ParityRow" "log" "LParityRow$Journal;"] ++ wsX30 ++ wsX20)
def wsX3_journal : List Cond := .code yX3_journal cX3_journal 2 (some .int) :: ([.fieldLink RX3 16 "ParityRow" "down" "Z", .fieldLink RX3 54 "ParityRow" "log" "LParityRow$Journal;", .instanceMethod yX2_freeCells, .initialized RX2, .selects RX2 yX2_freeCells yX2_freeCells, .code yX2_freeCells cX2_freeCells 1 (some .int), .fieldLink RX2 24 "ParityRow$Journal" "usedCells" "I", .methodLink RX3 170 yX3_recordsKnown, .instanceMethod yX3_recordsKnown, .selects RX3 yX3_recordsKnown yX3_recordsKnown, .initialized RX3, .code yX3_recordsKnown cX3_recordsKnown 1 (some .int), .instanceMethod yX2_nextSerial, .selects RX2 yX2_nextSerial yX2_nextSerial, .code yX2_nextSerial cX2_nextSerial 1 (some .int), .fieldLink RX2 30 "ParityRow$Journal" "markSerial" "I", .fieldLink RX2 21 "ParityRow$Journal" "records" "I"] ++ wsX30 ++ wsX20)
def wsX3_record : List Cond := .code yX3_record cX3_record 4 (some .int) :: ([.fieldLink RX3 54 "ParityRow" "log" "LParityRow$Journal;", .fieldLink RX3 39 "ParityRow" "data" "I", .methodLink RX3 170 yX3_recordsKnown, .instanceMethod yX3_recordsKnown, .selects RX3 yX3_recordsKnown yX3_recordsKnown, .initialized RX3, .code yX3_recordsKnown cX3_recordsKnown 1 (some .int), .fieldLink RX3 16 "ParityRow" "down" "Z", .instanceMethod yX2_entry, .initialized RX2, .selects RX2 yX2_entry yX2_entry, .code yX2_entry cX2_entry 2 (some (.object "ParityRow$Entry")), .fieldLink RX2 11 "ParityRow$Journal" "slots" "[LParityRow$Entry;", .fieldLink RX2 17 "ParityRow$Journal" "oldest" "I", .methodLink RX3 194 yX3_allData, .instanceMethod yX3_allData, .selects RX3 yX3_allData yX3_allData, .code yX3_allData cX3_allData 1 (some .int), .instanceMethod yX1_has, .initialized RX1, .selects RX1 yX1_has yX1_has, .code yX1_has cX1_has 2 (some .boolean), .fieldLink RX1 15 "ParityRow$Entry" "parts" "I"] ++ wsX30 ++ wsX10 ++ wsX20)
def wsX3_count : List Cond := .code yX3_count cX3_count 2 (some .int) :: ([.fieldLink RX3 9 "ParityRow" "tally" "[I"] ++ wsX30)
def wsX3_audit_r1 : List Cond := [Cond.methodLink RX3 203 yX3_countNotThere, Cond.instanceMethod yX3_countNotThere, Cond.selects RX3 yX3_countNotThere yX3_countNotThere, Cond.initialized RX3, Cond.code yX3_countNotThere cX3_countNotThere 4 (some .int), Cond.fieldLink RX3 36 "ParityRow" "width" "I", Cond.fieldLink RX3 44 "ParityRow" "disks" "[LParityRow$Disk;", Cond.instanceMethod yX0_isThere, Cond.initialized RX0, Cond.selects RX0 yX0_isThere yX0_isThere, Cond.code yX0_isThere cX0_isThere 2 (some .boolean), Cond.fieldLink RX0 18 "ParityRow$Disk" "torn" "[Z", Cond.fieldLink RX0 15 "ParityRow$Disk" "sums" "[I", Cond.fieldLink RX0 9 "ParityRow$Disk" "words" "[I", Cond.methodLink RX0 32 yX0_isOn, Cond.instanceMethod yX0_isOn, Cond.selects RX0 yX0_isOn yX0_isOn, Cond.code yX0_isOn cX0_isOn 2 (some .boolean), Cond.fieldLink RX0 26 "ParityRow$Disk" "built" "I", Cond.methodLink RX0 36 yX0_sumOf, Cond.static yX0_sumOf, Cond.code yX0_sumOf cX0_sumOf 4 (some .int), Cond.methodLink RX3 206 yX3_xorIsZero, Cond.instanceMethod yX3_xorIsZero]
def wsX3_audit_r2 : List Cond := [Cond.selects RX3 yX3_xorIsZero yX3_xorIsZero, Cond.code yX3_xorIsZero cX3_xorIsZero 3 (some .boolean), Cond.fieldLink RX3 13 "ParityRow" "mixed" "[I", Cond.methodLink RX3 96 yX3_clearMixed, Cond.instanceMethod yX3_clearMixed, Cond.selects RX3 yX3_clearMixed yX3_clearMixed, Cond.code yX3_clearMixed cX3_clearMixed 2 none, Cond.methodLink RX3 99 yX3_mixOthers, Cond.instanceMethod yX3_mixOthers, Cond.selects RX3 yX3_mixOthers yX3_mixOthers, Cond.code yX3_mixOthers cX3_mixOthers 4 none, Cond.methodLink RX3 219 yX3_mix, Cond.instanceMethod yX3_mix, Cond.selects RX3 yX3_mix yX3_mix, Cond.code yX3_mix cX3_mix 4 none]
def wsX3_audit : List Cond := .code yX3_audit cX3_audit 3 (some .int) :: ((wsX3_audit_r1 ++ wsX3_audit_r2) ++ wsX30 ++ wsX00)
def wsX4_thrown : List Cond := .code yX4_thrown cX4_thrown 1 (some .int) :: ([.fieldLink RX4 1 "ParityRowModel" "thrown" "I"] ++ wsX40)
def wsX4_init : List Cond := .code yX4_init cX4_init 2 none :: ([.methodLink RX4 7 objectInit, .instanceMethod objectInit, .code objectInit ⟨#[0xb1]⟩ 1 none, .arrayClass .int, .fieldLink RX4 13 "ParityRowModel" "words" "[I", .fieldLink RX4 17 "ParityRowModel" "sums" "[I", .arrayClass .boolean, .fieldLink RX4 20 "ParityRowModel" "torn" "[Z", .fieldLink RX4 24 "ParityRowModel" "state" "[I", .fieldLink RX4 27 "ParityRowModel" "built" "[I", .fieldLink RX4 30 "ParityRowModel" "writes" "[I", .fieldLink RX4 33 "ParityRowModel" "stripes" "[I", .fieldLink RX4 36 "ParityRowModel" "serials" "[I", .fieldLink RX4 39 "ParityRowModel" "bits" "[I", .fieldLink RX4 42 "ParityRowModel" "hasParity" "[Z", .fieldLink RX4 45 "ParityRowModel" "ways" "[I", .fieldLink RX4 48 "ParityRowModel" "kept" "[I", .fieldLink RX4 51 "ParityRowModel" "markSerial" "I", .fieldLink RX4 54 "ParityRowModel" "nextSerial" "I", .fieldLink RX4 57 "ParityRowModel" "cut" "I", .fieldLink RX4 60 "ParityRowModel" "counts" "[I", .fieldLink RX4 63 "ParityRowModel" "fresh" "[I", .fieldLink RX4 66 "ParityRowModel" "given" "[I", .fieldLink RX4 69 "ParityRowModel" "many" "I"] ++ wsX40)
def wsX4_in : List Cond := .code yX4_in cX4_in 6 (some .boolean) :: ([])
def wsX4_members : List Cond := .code yX4_members cX4_members 1 (some .int) :: ([.fieldLink RX4 69 "ParityRowModel" "many" "I"] ++ wsX40)
def wsX4_isBlock : List Cond := .code yX4_isBlock cX4_isBlock 3 (some .boolean) :: ([.constantLong RX4 72 (24), .fieldLink RX4 69 "ParityRowModel" "many" "I", .methodLink RX4 74 yX4_in, .static yX4_in, .initialized RX4, .code yX4_in cX4_in 6 (some .boolean)] ++ wsX40)
def wsX4_parityOf : List Cond := .code yX4_parityOf cX4_parityOf 2 (some .int) :: ([.fieldLink RX4 69 "ParityRowModel" "many" "I"] ++ wsX40)
def wsX4_memberOf : List Cond := .code yX4_memberOf cX4_memberOf 3 (some .int) :: ([.fieldLink RX4 69 "ParityRowModel" "many" "I", .methodLink RX4 78 yX4_parityOf, .instanceMethod yX4_parityOf, .selects RX4 yX4_parityOf yX4_parityOf, .initialized RX4, .code yX4_parityOf cX4_parityOf 2 (some .int)] ++ wsX40)
def wsX4_at : List Cond := .code yX4_at cX4_at 3 (some .int) :: ([])
def wsX4_isOn : List Cond := .code yX4_isOn cX4_isOn 3 (some .boolean) :: ([.fieldLink RX4 24 "ParityRowModel" "state" "[I", .fieldLink RX4 27 "ParityRowModel" "built" "[I"] ++ wsX40)
def wsX4_sumOf : List Cond := .code yX4_sumOf cX4_sumOf 4 (some .int) :: ([.fieldLink RX4 13 "ParityRowModel" "words" "[I"] ++ wsX40)
def wsX4_isThere : List Cond := .code yX4_isThere cX4_isThere 4 (some .boolean) :: ([.fieldLink RX4 20 "ParityRowModel" "torn" "[Z", .fieldLink RX4 17 "ParityRowModel" "sums" "[I", .methodLink RX4 82 yX4_at, .instanceMethod yX4_at, .selects RX4 yX4_at yX4_at, .initialized RX4, .code yX4_at cX4_at 3 (some .int), .methodLink RX4 86 yX4_isOn, .instanceMethod yX4_isOn, .selects RX4 yX4_isOn yX4_isOn, .code yX4_isOn cX4_isOn 3 (some .boolean), .fieldLink RX4 24 "ParityRowModel" "state" "[I", .fieldLink RX4 27 "ParityRowModel" "built" "[I", .methodLink RX4 90 yX4_sumOf, .instanceMethod yX4_sumOf, .selects RX4 yX4_sumOf yX4_sumOf, .code yX4_sumOf cX4_sumOf 4 (some .int), .fieldLink RX4 13 "ParityRowModel" "words" "[I"] ++ wsX40)
def wsX4_othersThere : List Cond := .code yX4_othersThere cX4_othersThere 5 (some .boolean) :: ([.fieldLink RX4 69 "ParityRowModel" "many" "I", .methodLink RX4 93 yX4_isThere, .instanceMethod yX4_isThere, .selects RX4 yX4_isThere yX4_isThere, .initialized RX4, .code yX4_isThere cX4_isThere 4 (some .boolean), .fieldLink RX4 20 "ParityRowModel" "torn" "[Z", .fieldLink RX4 17 "ParityRowModel" "sums" "[I", .methodLink RX4 82 yX4_at, .instanceMethod yX4_at, .selects RX4 yX4_at yX4_at, .code yX4_at cX4_at 3 (some .int), .methodLink RX4 86 yX4_isOn, .instanceMethod yX4_isOn, .selects RX4 yX4_isOn yX4_isOn, .code yX4_isOn cX4_isOn 3 (some .boolean), .fieldLink RX4 24 "ParityRowModel" "state" "[I", .fieldLink RX4 27 "ParityRowModel" "built" "[I", .methodLink RX4 90 yX4_sumOf, .instanceMethod yX4_sumOf, .selects RX4 yX4_sumOf yX4_sumOf, .code yX4_sumOf cX4_sumOf 4 (some .int), .fieldLink RX4 13 "ParityRowModel" "words" "[I"] ++ wsX40)
def wsX4_place : List Cond := .code yX4_place cX4_place 4 (some .int) :: ([.fieldLink RX4 69 "ParityRowModel" "many" "I", .methodLink RX4 96 yX4_isBlock, .instanceMethod yX4_isBlock, .selects RX4 yX4_isBlock yX4_isBlock, .initialized RX4, .code yX4_isBlock cX4_isBlock 3 (some .boolean), .constantLong RX4 72 (24), .methodLink RX4 74 yX4_in, .static yX4_in, .code yX4_in cX4_in 6 (some .boolean), .methodLink RX4 100 yX4_memberOf, .instanceMethod yX4_memberOf, .selects RX4 yX4_memberOf yX4_memberOf, .code yX4_memberOf cX4_memberOf 3 (some .int), .methodLink RX4 78 yX4_parityOf, .instanceMethod yX4_parityOf, .selects RX4 yX4_parityOf yX4_parityOf, .code yX4_parityOf cX4_parityOf 2 (some .int)] ++ wsX40)
def wsX4_goes : List Cond := .code yX4_goes cX4_goes 3 (some .boolean) :: ([.fieldLink RX4 60 "ParityRowModel" "counts" "[I", .fieldLink RX4 57 "ParityRowModel" "cut" "I", .fieldLink RX4 103 "ParityRowModel" "down" "Z", .fieldLink RX4 107 "ParityRowModel" "scrubAt" "I", .fieldLink RX4 69 "ParityRowModel" "many" "I", .fieldLink RX4 27 "ParityRowModel" "built" "[I"] ++ wsX40)
def wsX4_chunkIs_r1 : List Cond := [Cond.fieldLink RX4 30 "ParityRowModel" "writes" "[I", Cond.fieldLink RX4 114 "ParityRowModel" "tear" "I", Cond.fieldLink RX4 13 "ParityRowModel" "words" "[I", Cond.fieldLink RX4 63 "ParityRowModel" "fresh" "[I", Cond.fieldLink RX4 20 "ParityRowModel" "torn" "[Z", Cond.fieldLink RX4 17 "ParityRowModel" "sums" "[I", Cond.methodLink RX4 82 yX4_at, Cond.instanceMethod yX4_at, Cond.selects RX4 yX4_at yX4_at, Cond.initialized RX4, Cond.code yX4_at cX4_at 3 (some .int), Cond.methodLink RX4 110 yX4_goes, Cond.instanceMethod yX4_goes, Cond.selects RX4 yX4_goes yX4_goes, Cond.code yX4_goes cX4_goes 3 (some .boolean), Cond.fieldLink RX4 60 "ParityRowModel" "counts" "[I", Cond.fieldLink RX4 57 "ParityRowModel" "cut" "I", Cond.fieldLink RX4 103 "ParityRowModel" "down" "Z", Cond.fieldLink RX4 107 "ParityRowModel" "scrubAt" "I", Cond.fieldLink RX4 69 "ParityRowModel" "many" "I", Cond.fieldLink RX4 27 "ParityRowModel" "built" "[I", Cond.methodLink RX4 90 yX4_sumOf, Cond.instanceMethod yX4_sumOf, Cond.selects RX4 yX4_sumOf yX4_sumOf]
def wsX4_chunkIs_r2 : List Cond := [Cond.code yX4_sumOf cX4_sumOf 4 (some .int)]
def wsX4_chunkIs : List Cond := .code yX4_chunkIs cX4_chunkIs 7 (some .boolean) :: ((wsX4_chunkIs_r1 ++ wsX4_chunkIs_r2) ++ wsX40)
def wsX4_markIs : List Cond := .code yX4_markIs cX4_markIs 3 (some .boolean) :: ([.fieldLink RX4 60 "ParityRowModel" "counts" "[I", .fieldLink RX4 117 "ParityRowModel" "markCell" "I", .fieldLink RX4 51 "ParityRowModel" "markSerial" "I", .methodLink RX4 110 yX4_goes, .instanceMethod yX4_goes, .selects RX4 yX4_goes yX4_goes, .initialized RX4, .code yX4_goes cX4_goes 3 (some .boolean), .fieldLink RX4 57 "ParityRowModel" "cut" "I", .fieldLink RX4 103 "ParityRowModel" "down" "Z", .fieldLink RX4 107 "ParityRowModel" "scrubAt" "I", .fieldLink RX4 69 "ParityRowModel" "many" "I", .fieldLink RX4 27 "ParityRowModel" "built" "[I"] ++ wsX40)
def wsX4_cellsOf : List Cond := .code yX4_cellsOf cX4_cellsOf 4 (some .int) :: ([.fieldLink RX4 42 "ParityRowModel" "hasParity" "[Z", .fieldLink RX4 69 "ParityRowModel" "many" "I", .fieldLink RX4 39 "ParityRowModel" "bits" "[I"] ++ wsX40)
def wsX4_free : List Cond := .code yX4_free cX4_free 3 (some .int) :: ([.fieldLink RX4 120 "ParityRowModel" "records" "I", .methodLink RX4 123 yX4_cellsOf, .instanceMethod yX4_cellsOf, .selects RX4 yX4_cellsOf yX4_cellsOf, .initialized RX4, .code yX4_cellsOf cX4_cellsOf 4 (some .int), .fieldLink RX4 42 "ParityRowModel" "hasParity" "[Z", .fieldLink RX4 69 "ParityRowModel" "many" "I", .fieldLink RX4 39 "ParityRowModel" "bits" "[I"] ++ wsX40)
def wsX4_freshFrom : List Cond := .code yX4_freshFrom cX4_freshFrom 4 none :: ([.fieldLink RX4 63 "ParityRowModel" "fresh" "[I", .fieldLink RX4 48 "ParityRowModel" "kept" "[I"] ++ wsX40)
def wsX4_done_r1 : List Cond := [Cond.fieldLink RX4 33 "ParityRowModel" "stripes" "[I", Cond.fieldLink RX4 69 "ParityRowModel" "many" "I", Cond.fieldLink RX4 39 "ParityRowModel" "bits" "[I", Cond.fieldLink RX4 42 "ParityRowModel" "hasParity" "[Z", Cond.methodLink RX4 100 yX4_memberOf, Cond.instanceMethod yX4_memberOf, Cond.selects RX4 yX4_memberOf yX4_memberOf, Cond.initialized RX4, Cond.code yX4_memberOf cX4_memberOf 3 (some .int), Cond.methodLink RX4 78 yX4_parityOf, Cond.instanceMethod yX4_parityOf, Cond.selects RX4 yX4_parityOf yX4_parityOf, Cond.code yX4_parityOf cX4_parityOf 2 (some .int), Cond.methodLink RX4 86 yX4_isOn, Cond.instanceMethod yX4_isOn, Cond.selects RX4 yX4_isOn yX4_isOn, Cond.code yX4_isOn cX4_isOn 3 (some .boolean), Cond.fieldLink RX4 24 "ParityRowModel" "state" "[I", Cond.fieldLink RX4 27 "ParityRowModel" "built" "[I", Cond.methodLink RX4 126 yX4_freshFrom, Cond.instanceMethod yX4_freshFrom, Cond.selects RX4 yX4_freshFrom yX4_freshFrom, Cond.code yX4_freshFrom cX4_freshFrom 4 none, Cond.fieldLink RX4 63 "ParityRowModel" "fresh" "[I"]
def wsX4_done_r2 : List Cond := [Cond.fieldLink RX4 48 "ParityRowModel" "kept" "[I", Cond.methodLink RX4 130 yX4_chunkIs, Cond.instanceMethod yX4_chunkIs, Cond.selects RX4 yX4_chunkIs yX4_chunkIs, Cond.code yX4_chunkIs cX4_chunkIs 7 (some .boolean), Cond.fieldLink RX4 30 "ParityRowModel" "writes" "[I", Cond.fieldLink RX4 114 "ParityRowModel" "tear" "I", Cond.fieldLink RX4 13 "ParityRowModel" "words" "[I", Cond.fieldLink RX4 20 "ParityRowModel" "torn" "[Z", Cond.fieldLink RX4 17 "ParityRowModel" "sums" "[I", Cond.methodLink RX4 82 yX4_at, Cond.instanceMethod yX4_at, Cond.selects RX4 yX4_at yX4_at, Cond.code yX4_at cX4_at 3 (some .int), Cond.methodLink RX4 110 yX4_goes, Cond.instanceMethod yX4_goes, Cond.selects RX4 yX4_goes yX4_goes, Cond.code yX4_goes cX4_goes 3 (some .boolean), Cond.fieldLink RX4 60 "ParityRowModel" "counts" "[I", Cond.fieldLink RX4 57 "ParityRowModel" "cut" "I", Cond.fieldLink RX4 103 "ParityRowModel" "down" "Z", Cond.fieldLink RX4 107 "ParityRowModel" "scrubAt" "I", Cond.methodLink RX4 90 yX4_sumOf, Cond.instanceMethod yX4_sumOf]
def wsX4_done_r3 : List Cond := [Cond.selects RX4 yX4_sumOf yX4_sumOf, Cond.code yX4_sumOf cX4_sumOf 4 (some .int)]
def wsX4_done : List Cond := .code yX4_done cX4_done 5 (some .boolean) :: ((wsX4_done_r1 ++ (wsX4_done_r2 ++ wsX4_done_r3)) ++ wsX40)
def wsX4_drained_r1 : List Cond := [Cond.fieldLink RX4 117 "ParityRowModel" "markCell" "I", Cond.fieldLink RX4 36 "ParityRowModel" "serials" "[I", Cond.fieldLink RX4 60 "ParityRowModel" "counts" "[I", Cond.fieldLink RX4 120 "ParityRowModel" "records" "I", Cond.fieldLink RX4 33 "ParityRowModel" "stripes" "[I", Cond.fieldLink RX4 39 "ParityRowModel" "bits" "[I", Cond.fieldLink RX4 42 "ParityRowModel" "hasParity" "[Z", Cond.fieldLink RX4 45 "ParityRowModel" "ways" "[I", Cond.fieldLink RX4 48 "ParityRowModel" "kept" "[I", Cond.methodLink RX4 123 yX4_cellsOf, Cond.instanceMethod yX4_cellsOf, Cond.selects RX4 yX4_cellsOf yX4_cellsOf, Cond.initialized RX4, Cond.code yX4_cellsOf cX4_cellsOf 4 (some .int), Cond.fieldLink RX4 69 "ParityRowModel" "many" "I", Cond.methodLink RX4 133 yX4_done, Cond.instanceMethod yX4_done, Cond.selects RX4 yX4_done yX4_done, Cond.code yX4_done cX4_done 5 (some .boolean), Cond.methodLink RX4 100 yX4_memberOf, Cond.instanceMethod yX4_memberOf, Cond.selects RX4 yX4_memberOf yX4_memberOf, Cond.code yX4_memberOf cX4_memberOf 3 (some .int), Cond.methodLink RX4 78 yX4_parityOf]
def wsX4_drained_r2 : List Cond := [Cond.instanceMethod yX4_parityOf, Cond.selects RX4 yX4_parityOf yX4_parityOf, Cond.code yX4_parityOf cX4_parityOf 2 (some .int), Cond.methodLink RX4 86 yX4_isOn, Cond.instanceMethod yX4_isOn, Cond.selects RX4 yX4_isOn yX4_isOn, Cond.code yX4_isOn cX4_isOn 3 (some .boolean), Cond.fieldLink RX4 24 "ParityRowModel" "state" "[I", Cond.fieldLink RX4 27 "ParityRowModel" "built" "[I", Cond.methodLink RX4 126 yX4_freshFrom, Cond.instanceMethod yX4_freshFrom, Cond.selects RX4 yX4_freshFrom yX4_freshFrom, Cond.code yX4_freshFrom cX4_freshFrom 4 none, Cond.fieldLink RX4 63 "ParityRowModel" "fresh" "[I", Cond.methodLink RX4 130 yX4_chunkIs, Cond.instanceMethod yX4_chunkIs, Cond.selects RX4 yX4_chunkIs yX4_chunkIs, Cond.code yX4_chunkIs cX4_chunkIs 7 (some .boolean), Cond.fieldLink RX4 30 "ParityRowModel" "writes" "[I", Cond.fieldLink RX4 114 "ParityRowModel" "tear" "I", Cond.fieldLink RX4 13 "ParityRowModel" "words" "[I", Cond.fieldLink RX4 20 "ParityRowModel" "torn" "[Z", Cond.fieldLink RX4 17 "ParityRowModel" "sums" "[I", Cond.methodLink RX4 82 yX4_at]
def wsX4_drained_r3 : List Cond := [Cond.instanceMethod yX4_at, Cond.selects RX4 yX4_at yX4_at, Cond.code yX4_at cX4_at 3 (some .int), Cond.methodLink RX4 110 yX4_goes, Cond.instanceMethod yX4_goes, Cond.selects RX4 yX4_goes yX4_goes, Cond.code yX4_goes cX4_goes 3 (some .boolean), Cond.fieldLink RX4 57 "ParityRowModel" "cut" "I", Cond.fieldLink RX4 103 "ParityRowModel" "down" "Z", Cond.fieldLink RX4 107 "ParityRowModel" "scrubAt" "I", Cond.methodLink RX4 90 yX4_sumOf, Cond.instanceMethod yX4_sumOf, Cond.selects RX4 yX4_sumOf yX4_sumOf, Cond.code yX4_sumOf cX4_sumOf 4 (some .int), Cond.methodLink RX4 137 yX4_markIs, Cond.instanceMethod yX4_markIs, Cond.selects RX4 yX4_markIs yX4_markIs, Cond.code yX4_markIs cX4_markIs 3 (some .boolean), Cond.fieldLink RX4 51 "ParityRowModel" "markSerial" "I"]
def wsX4_drained : List Cond := .code yX4_drained cX4_drained 4 (some .boolean) :: ((wsX4_drained_r1 ++ (wsX4_drained_r2 ++ wsX4_drained_r3)) ++ wsX40)
def wsX4_latest : List Cond := .code yX4_latest cX4_latest 5 (some .int) :: ([.fieldLink RX4 120 "ParityRowModel" "records" "I", .fieldLink RX4 42 "ParityRowModel" "hasParity" "[Z", .fieldLink RX4 39 "ParityRowModel" "bits" "[I", .fieldLink RX4 33 "ParityRowModel" "stripes" "[I"] ++ wsX40)
def wsX4_memberOfRow : List Cond := .code yX4_memberOfRow cX4_memberOfRow 3 (some .int) :: ([.methodLink RX4 78 yX4_parityOf, .instanceMethod yX4_parityOf, .selects RX4 yX4_parityOf yX4_parityOf, .initialized RX4, .code yX4_parityOf cX4_parityOf 2 (some .int), .fieldLink RX4 69 "ParityRowModel" "many" "I", .methodLink RX4 100 yX4_memberOf, .instanceMethod yX4_memberOf, .selects RX4 yX4_memberOf yX4_memberOf, .code yX4_memberOf cX4_memberOf 3 (some .int)] ++ wsX40)
def wsX4_hasNewest_r1 : List Cond := [Cond.methodLink RX4 140 yX4_latest, Cond.instanceMethod yX4_latest, Cond.selects RX4 yX4_latest yX4_latest, Cond.initialized RX4, Cond.code yX4_latest cX4_latest 5 (some .int), Cond.fieldLink RX4 120 "ParityRowModel" "records" "I", Cond.fieldLink RX4 42 "ParityRowModel" "hasParity" "[Z", Cond.fieldLink RX4 39 "ParityRowModel" "bits" "[I", Cond.fieldLink RX4 33 "ParityRowModel" "stripes" "[I", Cond.methodLink RX4 143 yX4_memberOfRow, Cond.instanceMethod yX4_memberOfRow, Cond.selects RX4 yX4_memberOfRow yX4_memberOfRow, Cond.code yX4_memberOfRow cX4_memberOfRow 3 (some .int), Cond.methodLink RX4 78 yX4_parityOf, Cond.instanceMethod yX4_parityOf, Cond.selects RX4 yX4_parityOf yX4_parityOf, Cond.code yX4_parityOf cX4_parityOf 2 (some .int), Cond.fieldLink RX4 69 "ParityRowModel" "many" "I", Cond.methodLink RX4 100 yX4_memberOf, Cond.instanceMethod yX4_memberOf, Cond.selects RX4 yX4_memberOf yX4_memberOf, Cond.code yX4_memberOf cX4_memberOf 3 (some .int), Cond.methodLink RX4 93 yX4_isThere, Cond.instanceMethod yX4_isThere]
def wsX4_hasNewest_r2 : List Cond := [Cond.selects RX4 yX4_isThere yX4_isThere, Cond.code yX4_isThere cX4_isThere 4 (some .boolean), Cond.fieldLink RX4 20 "ParityRowModel" "torn" "[Z", Cond.fieldLink RX4 17 "ParityRowModel" "sums" "[I", Cond.methodLink RX4 82 yX4_at, Cond.instanceMethod yX4_at, Cond.selects RX4 yX4_at yX4_at, Cond.code yX4_at cX4_at 3 (some .int), Cond.methodLink RX4 86 yX4_isOn, Cond.instanceMethod yX4_isOn, Cond.selects RX4 yX4_isOn yX4_isOn, Cond.code yX4_isOn cX4_isOn 3 (some .boolean), Cond.fieldLink RX4 24 "ParityRowModel" "state" "[I", Cond.fieldLink RX4 27 "ParityRowModel" "built" "[I", Cond.methodLink RX4 90 yX4_sumOf, Cond.instanceMethod yX4_sumOf, Cond.selects RX4 yX4_sumOf yX4_sumOf, Cond.code yX4_sumOf cX4_sumOf 4 (some .int), Cond.fieldLink RX4 13 "ParityRowModel" "words" "[I"]
def wsX4_hasNewest : List Cond := .code yX4_hasNewest cX4_hasNewest 3 (some .boolean) :: ((wsX4_hasNewest_r1 ++ wsX4_hasNewest_r2) ++ wsX40)
def wsX4_newest_r1 : List Cond := [Cond.fieldLink RX4 48 "ParityRowModel" "kept" "[I", Cond.fieldLink RX4 13 "ParityRowModel" "words" "[I", Cond.methodLink RX4 140 yX4_latest, Cond.instanceMethod yX4_latest, Cond.selects RX4 yX4_latest yX4_latest, Cond.initialized RX4, Cond.code yX4_latest cX4_latest 5 (some .int), Cond.fieldLink RX4 120 "ParityRowModel" "records" "I", Cond.fieldLink RX4 42 "ParityRowModel" "hasParity" "[Z", Cond.fieldLink RX4 39 "ParityRowModel" "bits" "[I", Cond.fieldLink RX4 33 "ParityRowModel" "stripes" "[I", Cond.methodLink RX4 143 yX4_memberOfRow, Cond.instanceMethod yX4_memberOfRow, Cond.selects RX4 yX4_memberOfRow yX4_memberOfRow, Cond.code yX4_memberOfRow cX4_memberOfRow 3 (some .int), Cond.methodLink RX4 78 yX4_parityOf, Cond.instanceMethod yX4_parityOf, Cond.selects RX4 yX4_parityOf yX4_parityOf, Cond.code yX4_parityOf cX4_parityOf 2 (some .int), Cond.fieldLink RX4 69 "ParityRowModel" "many" "I", Cond.methodLink RX4 100 yX4_memberOf, Cond.instanceMethod yX4_memberOf, Cond.selects RX4 yX4_memberOf yX4_memberOf, Cond.code yX4_memberOf cX4_memberOf 3 (some .int)]
def wsX4_newest_r2 : List Cond := [Cond.methodLink RX4 82 yX4_at, Cond.instanceMethod yX4_at, Cond.selects RX4 yX4_at yX4_at, Cond.code yX4_at cX4_at 3 (some .int)]
def wsX4_newest : List Cond := .code yX4_newest cX4_newest 5 (some .int) :: ((wsX4_newest_r1 ++ wsX4_newest_r2) ++ wsX40)
def wsX4_can_r1 : List Cond := [Cond.fieldLink RX4 69 "ParityRowModel" "many" "I", Cond.methodLink RX4 146 yX4_hasNewest, Cond.instanceMethod yX4_hasNewest, Cond.selects RX4 yX4_hasNewest yX4_hasNewest, Cond.initialized RX4, Cond.code yX4_hasNewest cX4_hasNewest 3 (some .boolean), Cond.methodLink RX4 140 yX4_latest, Cond.instanceMethod yX4_latest, Cond.selects RX4 yX4_latest yX4_latest, Cond.code yX4_latest cX4_latest 5 (some .int), Cond.fieldLink RX4 120 "ParityRowModel" "records" "I", Cond.fieldLink RX4 42 "ParityRowModel" "hasParity" "[Z", Cond.fieldLink RX4 39 "ParityRowModel" "bits" "[I", Cond.fieldLink RX4 33 "ParityRowModel" "stripes" "[I", Cond.methodLink RX4 143 yX4_memberOfRow, Cond.instanceMethod yX4_memberOfRow, Cond.selects RX4 yX4_memberOfRow yX4_memberOfRow, Cond.code yX4_memberOfRow cX4_memberOfRow 3 (some .int), Cond.methodLink RX4 78 yX4_parityOf, Cond.instanceMethod yX4_parityOf, Cond.selects RX4 yX4_parityOf yX4_parityOf, Cond.code yX4_parityOf cX4_parityOf 2 (some .int), Cond.methodLink RX4 100 yX4_memberOf, Cond.instanceMethod yX4_memberOf]
def wsX4_can_r2 : List Cond := [Cond.selects RX4 yX4_memberOf yX4_memberOf, Cond.code yX4_memberOf cX4_memberOf 3 (some .int), Cond.methodLink RX4 93 yX4_isThere, Cond.instanceMethod yX4_isThere, Cond.selects RX4 yX4_isThere yX4_isThere, Cond.code yX4_isThere cX4_isThere 4 (some .boolean), Cond.fieldLink RX4 20 "ParityRowModel" "torn" "[Z", Cond.fieldLink RX4 17 "ParityRowModel" "sums" "[I", Cond.methodLink RX4 82 yX4_at, Cond.instanceMethod yX4_at, Cond.selects RX4 yX4_at yX4_at, Cond.code yX4_at cX4_at 3 (some .int), Cond.methodLink RX4 86 yX4_isOn, Cond.instanceMethod yX4_isOn, Cond.selects RX4 yX4_isOn yX4_isOn, Cond.code yX4_isOn cX4_isOn 3 (some .boolean), Cond.fieldLink RX4 24 "ParityRowModel" "state" "[I", Cond.fieldLink RX4 27 "ParityRowModel" "built" "[I", Cond.methodLink RX4 90 yX4_sumOf, Cond.instanceMethod yX4_sumOf, Cond.selects RX4 yX4_sumOf yX4_sumOf, Cond.code yX4_sumOf cX4_sumOf 4 (some .int), Cond.fieldLink RX4 13 "ParityRowModel" "words" "[I"]
def wsX4_can : List Cond := .code yX4_can cX4_can 7 (some .boolean) :: ((wsX4_can_r1 ++ wsX4_can_r2) ++ wsX40)
def wsX4_wayOf_r1 : List Cond := [Cond.fieldLink RX4 69 "ParityRowModel" "many" "I", Cond.methodLink RX4 78 yX4_parityOf, Cond.instanceMethod yX4_parityOf, Cond.selects RX4 yX4_parityOf yX4_parityOf, Cond.initialized RX4, Cond.code yX4_parityOf cX4_parityOf 2 (some .int), Cond.methodLink RX4 86 yX4_isOn, Cond.instanceMethod yX4_isOn, Cond.selects RX4 yX4_isOn yX4_isOn, Cond.code yX4_isOn cX4_isOn 3 (some .boolean), Cond.fieldLink RX4 24 "ParityRowModel" "state" "[I", Cond.fieldLink RX4 27 "ParityRowModel" "built" "[I", Cond.methodLink RX4 149 yX4_can, Cond.instanceMethod yX4_can, Cond.selects RX4 yX4_can yX4_can, Cond.code yX4_can cX4_can 7 (some .boolean), Cond.methodLink RX4 146 yX4_hasNewest, Cond.instanceMethod yX4_hasNewest, Cond.selects RX4 yX4_hasNewest yX4_hasNewest, Cond.code yX4_hasNewest cX4_hasNewest 3 (some .boolean), Cond.methodLink RX4 140 yX4_latest, Cond.instanceMethod yX4_latest, Cond.selects RX4 yX4_latest yX4_latest, Cond.code yX4_latest cX4_latest 5 (some .int)]
def wsX4_wayOf_r2 : List Cond := [Cond.fieldLink RX4 120 "ParityRowModel" "records" "I", Cond.fieldLink RX4 42 "ParityRowModel" "hasParity" "[Z", Cond.fieldLink RX4 39 "ParityRowModel" "bits" "[I", Cond.fieldLink RX4 33 "ParityRowModel" "stripes" "[I", Cond.methodLink RX4 143 yX4_memberOfRow, Cond.instanceMethod yX4_memberOfRow, Cond.selects RX4 yX4_memberOfRow yX4_memberOfRow, Cond.code yX4_memberOfRow cX4_memberOfRow 3 (some .int), Cond.methodLink RX4 100 yX4_memberOf, Cond.instanceMethod yX4_memberOf, Cond.selects RX4 yX4_memberOf yX4_memberOf, Cond.code yX4_memberOf cX4_memberOf 3 (some .int), Cond.methodLink RX4 93 yX4_isThere, Cond.instanceMethod yX4_isThere, Cond.selects RX4 yX4_isThere yX4_isThere, Cond.code yX4_isThere cX4_isThere 4 (some .boolean), Cond.fieldLink RX4 20 "ParityRowModel" "torn" "[Z", Cond.fieldLink RX4 17 "ParityRowModel" "sums" "[I", Cond.methodLink RX4 82 yX4_at, Cond.instanceMethod yX4_at, Cond.selects RX4 yX4_at yX4_at, Cond.code yX4_at cX4_at 3 (some .int), Cond.methodLink RX4 90 yX4_sumOf, Cond.instanceMethod yX4_sumOf]
def wsX4_wayOf_r3 : List Cond := [Cond.selects RX4 yX4_sumOf yX4_sumOf, Cond.code yX4_sumOf cX4_sumOf 4 (some .int), Cond.fieldLink RX4 13 "ParityRowModel" "words" "[I"]
def wsX4_wayOf : List Cond := .code yX4_wayOf cX4_wayOf 5 (some .int) :: ((wsX4_wayOf_r1 ++ (wsX4_wayOf_r2 ++ wsX4_wayOf_r3)) ++ wsX40)
def wsX4_reads : List Cond := .code yX4_reads cX4_reads 7 (some .int) :: ([.fieldLink RX4 69 "ParityRowModel" "many" "I", .methodLink RX4 140 yX4_latest, .instanceMethod yX4_latest, .selects RX4 yX4_latest yX4_latest, .initialized RX4, .code yX4_latest cX4_latest 5 (some .int), .fieldLink RX4 120 "ParityRowModel" "records" "I", .fieldLink RX4 42 "ParityRowModel" "hasParity" "[Z", .fieldLink RX4 39 "ParityRowModel" "bits" "[I", .fieldLink RX4 33 "ParityRowModel" "stripes" "[I"] ++ wsX40)
def wsX4_stripeIs_r1 : List Cond := [Cond.fieldLink RX4 60 "ParityRowModel" "counts" "[I", Cond.fieldLink RX4 69 "ParityRowModel" "many" "I", Cond.fieldLink RX4 66 "ParityRowModel" "given" "[I", Cond.fieldLink RX4 33 "ParityRowModel" "stripes" "[I", Cond.fieldLink RX4 120 "ParityRowModel" "records" "I", Cond.fieldLink RX4 36 "ParityRowModel" "serials" "[I", Cond.fieldLink RX4 54 "ParityRowModel" "nextSerial" "I", Cond.fieldLink RX4 39 "ParityRowModel" "bits" "[I", Cond.fieldLink RX4 42 "ParityRowModel" "hasParity" "[Z", Cond.fieldLink RX4 45 "ParityRowModel" "ways" "[I", Cond.fieldLink RX4 48 "ParityRowModel" "kept" "[I", Cond.methodLink RX4 153 yX4_wayOf, Cond.instanceMethod yX4_wayOf, Cond.selects RX4 yX4_wayOf yX4_wayOf, Cond.initialized RX4, Cond.code yX4_wayOf cX4_wayOf 5 (some .int), Cond.methodLink RX4 78 yX4_parityOf, Cond.instanceMethod yX4_parityOf, Cond.selects RX4 yX4_parityOf yX4_parityOf, Cond.code yX4_parityOf cX4_parityOf 2 (some .int), Cond.methodLink RX4 86 yX4_isOn, Cond.instanceMethod yX4_isOn, Cond.selects RX4 yX4_isOn yX4_isOn, Cond.code yX4_isOn cX4_isOn 3 (some .boolean)]
def wsX4_stripeIs_r2 : List Cond := [Cond.fieldLink RX4 24 "ParityRowModel" "state" "[I", Cond.fieldLink RX4 27 "ParityRowModel" "built" "[I", Cond.methodLink RX4 149 yX4_can, Cond.instanceMethod yX4_can, Cond.selects RX4 yX4_can yX4_can, Cond.code yX4_can cX4_can 7 (some .boolean), Cond.methodLink RX4 146 yX4_hasNewest, Cond.instanceMethod yX4_hasNewest, Cond.selects RX4 yX4_hasNewest yX4_hasNewest, Cond.code yX4_hasNewest cX4_hasNewest 3 (some .boolean), Cond.methodLink RX4 140 yX4_latest, Cond.instanceMethod yX4_latest, Cond.selects RX4 yX4_latest yX4_latest, Cond.code yX4_latest cX4_latest 5 (some .int), Cond.methodLink RX4 143 yX4_memberOfRow, Cond.instanceMethod yX4_memberOfRow, Cond.selects RX4 yX4_memberOfRow yX4_memberOfRow, Cond.code yX4_memberOfRow cX4_memberOfRow 3 (some .int), Cond.methodLink RX4 100 yX4_memberOf, Cond.instanceMethod yX4_memberOf, Cond.selects RX4 yX4_memberOf yX4_memberOf, Cond.code yX4_memberOf cX4_memberOf 3 (some .int), Cond.methodLink RX4 93 yX4_isThere, Cond.instanceMethod yX4_isThere]
def wsX4_stripeIs_r3 : List Cond := [Cond.selects RX4 yX4_isThere yX4_isThere, Cond.code yX4_isThere cX4_isThere 4 (some .boolean), Cond.fieldLink RX4 20 "ParityRowModel" "torn" "[Z", Cond.fieldLink RX4 17 "ParityRowModel" "sums" "[I", Cond.methodLink RX4 82 yX4_at, Cond.instanceMethod yX4_at, Cond.selects RX4 yX4_at yX4_at, Cond.code yX4_at cX4_at 3 (some .int), Cond.methodLink RX4 90 yX4_sumOf, Cond.instanceMethod yX4_sumOf, Cond.selects RX4 yX4_sumOf yX4_sumOf, Cond.code yX4_sumOf cX4_sumOf 4 (some .int), Cond.fieldLink RX4 13 "ParityRowModel" "words" "[I", Cond.methodLink RX4 156 yX4_reads, Cond.instanceMethod yX4_reads, Cond.selects RX4 yX4_reads yX4_reads, Cond.code yX4_reads cX4_reads 7 (some .int), Cond.methodLink RX4 160 yX4_newest, Cond.instanceMethod yX4_newest, Cond.selects RX4 yX4_newest yX4_newest, Cond.code yX4_newest cX4_newest 5 (some .int), Cond.methodLink RX4 163 yX4_free, Cond.instanceMethod yX4_free, Cond.selects RX4 yX4_free yX4_free]
def wsX4_stripeIs_r4 : List Cond := [Cond.code yX4_free cX4_free 3 (some .int), Cond.methodLink RX4 123 yX4_cellsOf, Cond.instanceMethod yX4_cellsOf, Cond.selects RX4 yX4_cellsOf yX4_cellsOf, Cond.code yX4_cellsOf cX4_cellsOf 4 (some .int), Cond.methodLink RX4 167 yX4_drained, Cond.instanceMethod yX4_drained, Cond.selects RX4 yX4_drained yX4_drained, Cond.code yX4_drained cX4_drained 4 (some .boolean), Cond.fieldLink RX4 117 "ParityRowModel" "markCell" "I", Cond.methodLink RX4 133 yX4_done, Cond.instanceMethod yX4_done, Cond.selects RX4 yX4_done yX4_done, Cond.code yX4_done cX4_done 5 (some .boolean), Cond.methodLink RX4 126 yX4_freshFrom, Cond.instanceMethod yX4_freshFrom, Cond.selects RX4 yX4_freshFrom yX4_freshFrom, Cond.code yX4_freshFrom cX4_freshFrom 4 none, Cond.fieldLink RX4 63 "ParityRowModel" "fresh" "[I", Cond.methodLink RX4 130 yX4_chunkIs, Cond.instanceMethod yX4_chunkIs, Cond.selects RX4 yX4_chunkIs yX4_chunkIs, Cond.code yX4_chunkIs cX4_chunkIs 7 (some .boolean), Cond.fieldLink RX4 30 "ParityRowModel" "writes" "[I"]
def wsX4_stripeIs_r5 : List Cond := [Cond.fieldLink RX4 114 "ParityRowModel" "tear" "I", Cond.methodLink RX4 110 yX4_goes, Cond.instanceMethod yX4_goes, Cond.selects RX4 yX4_goes yX4_goes, Cond.code yX4_goes cX4_goes 3 (some .boolean), Cond.fieldLink RX4 57 "ParityRowModel" "cut" "I", Cond.fieldLink RX4 103 "ParityRowModel" "down" "Z", Cond.fieldLink RX4 107 "ParityRowModel" "scrubAt" "I", Cond.methodLink RX4 137 yX4_markIs, Cond.instanceMethod yX4_markIs, Cond.selects RX4 yX4_markIs yX4_markIs, Cond.code yX4_markIs cX4_markIs 3 (some .boolean), Cond.fieldLink RX4 51 "ParityRowModel" "markSerial" "I"]
def wsX4_stripeIs : List Cond := .code yX4_stripeIs cX4_stripeIs 9 (some .int) :: ((wsX4_stripeIs_r1 ++ (wsX4_stripeIs_r2 ++ (wsX4_stripeIs_r3 ++ (wsX4_stripeIs_r4 ++ wsX4_stripeIs_r5)))) ++ wsX40)
def wsX4_write_r1 : List Cond := [Cond.fieldLink RX4 103 "ParityRowModel" "down" "Z", Cond.fieldLink RX4 69 "ParityRowModel" "many" "I", Cond.fieldLink RX4 66 "ParityRowModel" "given" "[I", Cond.methodLink RX4 96 yX4_isBlock, Cond.instanceMethod yX4_isBlock, Cond.selects RX4 yX4_isBlock yX4_isBlock, Cond.initialized RX4, Cond.code yX4_isBlock cX4_isBlock 3 (some .boolean), Cond.constantLong RX4 72 (24), Cond.methodLink RX4 74 yX4_in, Cond.static yX4_in, Cond.code yX4_in cX4_in 6 (some .boolean), Cond.methodLink RX4 170 yX4_stripeIs, Cond.instanceMethod yX4_stripeIs, Cond.selects RX4 yX4_stripeIs yX4_stripeIs, Cond.code yX4_stripeIs cX4_stripeIs 9 (some .int), Cond.fieldLink RX4 60 "ParityRowModel" "counts" "[I", Cond.fieldLink RX4 33 "ParityRowModel" "stripes" "[I", Cond.fieldLink RX4 120 "ParityRowModel" "records" "I", Cond.fieldLink RX4 36 "ParityRowModel" "serials" "[I", Cond.fieldLink RX4 54 "ParityRowModel" "nextSerial" "I", Cond.fieldLink RX4 39 "ParityRowModel" "bits" "[I", Cond.fieldLink RX4 42 "ParityRowModel" "hasParity" "[Z", Cond.fieldLink RX4 45 "ParityRowModel" "ways" "[I"]
def wsX4_write_r2 : List Cond := [Cond.fieldLink RX4 48 "ParityRowModel" "kept" "[I", Cond.methodLink RX4 153 yX4_wayOf, Cond.instanceMethod yX4_wayOf, Cond.selects RX4 yX4_wayOf yX4_wayOf, Cond.code yX4_wayOf cX4_wayOf 5 (some .int), Cond.methodLink RX4 78 yX4_parityOf, Cond.instanceMethod yX4_parityOf, Cond.selects RX4 yX4_parityOf yX4_parityOf, Cond.code yX4_parityOf cX4_parityOf 2 (some .int), Cond.methodLink RX4 86 yX4_isOn, Cond.instanceMethod yX4_isOn, Cond.selects RX4 yX4_isOn yX4_isOn, Cond.code yX4_isOn cX4_isOn 3 (some .boolean), Cond.fieldLink RX4 24 "ParityRowModel" "state" "[I", Cond.fieldLink RX4 27 "ParityRowModel" "built" "[I", Cond.methodLink RX4 149 yX4_can, Cond.instanceMethod yX4_can, Cond.selects RX4 yX4_can yX4_can, Cond.code yX4_can cX4_can 7 (some .boolean), Cond.methodLink RX4 146 yX4_hasNewest, Cond.instanceMethod yX4_hasNewest, Cond.selects RX4 yX4_hasNewest yX4_hasNewest, Cond.code yX4_hasNewest cX4_hasNewest 3 (some .boolean), Cond.methodLink RX4 140 yX4_latest]
def wsX4_write_r3 : List Cond := [Cond.instanceMethod yX4_latest, Cond.selects RX4 yX4_latest yX4_latest, Cond.code yX4_latest cX4_latest 5 (some .int), Cond.methodLink RX4 143 yX4_memberOfRow, Cond.instanceMethod yX4_memberOfRow, Cond.selects RX4 yX4_memberOfRow yX4_memberOfRow, Cond.code yX4_memberOfRow cX4_memberOfRow 3 (some .int), Cond.methodLink RX4 100 yX4_memberOf, Cond.instanceMethod yX4_memberOf, Cond.selects RX4 yX4_memberOf yX4_memberOf, Cond.code yX4_memberOf cX4_memberOf 3 (some .int), Cond.methodLink RX4 93 yX4_isThere, Cond.instanceMethod yX4_isThere, Cond.selects RX4 yX4_isThere yX4_isThere, Cond.code yX4_isThere cX4_isThere 4 (some .boolean), Cond.fieldLink RX4 20 "ParityRowModel" "torn" "[Z", Cond.fieldLink RX4 17 "ParityRowModel" "sums" "[I", Cond.methodLink RX4 82 yX4_at, Cond.instanceMethod yX4_at, Cond.selects RX4 yX4_at yX4_at, Cond.code yX4_at cX4_at 3 (some .int), Cond.methodLink RX4 90 yX4_sumOf, Cond.instanceMethod yX4_sumOf, Cond.selects RX4 yX4_sumOf yX4_sumOf]
def wsX4_write_r4 : List Cond := [Cond.code yX4_sumOf cX4_sumOf 4 (some .int), Cond.fieldLink RX4 13 "ParityRowModel" "words" "[I", Cond.methodLink RX4 156 yX4_reads, Cond.instanceMethod yX4_reads, Cond.selects RX4 yX4_reads yX4_reads, Cond.code yX4_reads cX4_reads 7 (some .int), Cond.methodLink RX4 160 yX4_newest, Cond.instanceMethod yX4_newest, Cond.selects RX4 yX4_newest yX4_newest, Cond.code yX4_newest cX4_newest 5 (some .int), Cond.methodLink RX4 163 yX4_free, Cond.instanceMethod yX4_free, Cond.selects RX4 yX4_free yX4_free, Cond.code yX4_free cX4_free 3 (some .int), Cond.methodLink RX4 123 yX4_cellsOf, Cond.instanceMethod yX4_cellsOf, Cond.selects RX4 yX4_cellsOf yX4_cellsOf, Cond.code yX4_cellsOf cX4_cellsOf 4 (some .int), Cond.methodLink RX4 167 yX4_drained, Cond.instanceMethod yX4_drained, Cond.selects RX4 yX4_drained yX4_drained, Cond.code yX4_drained cX4_drained 4 (some .boolean), Cond.fieldLink RX4 117 "ParityRowModel" "markCell" "I", Cond.methodLink RX4 133 yX4_done]
def wsX4_write_r5 : List Cond := [Cond.instanceMethod yX4_done, Cond.selects RX4 yX4_done yX4_done, Cond.code yX4_done cX4_done 5 (some .boolean), Cond.methodLink RX4 126 yX4_freshFrom, Cond.instanceMethod yX4_freshFrom, Cond.selects RX4 yX4_freshFrom yX4_freshFrom, Cond.code yX4_freshFrom cX4_freshFrom 4 none, Cond.fieldLink RX4 63 "ParityRowModel" "fresh" "[I", Cond.methodLink RX4 130 yX4_chunkIs, Cond.instanceMethod yX4_chunkIs, Cond.selects RX4 yX4_chunkIs yX4_chunkIs, Cond.code yX4_chunkIs cX4_chunkIs 7 (some .boolean), Cond.fieldLink RX4 30 "ParityRowModel" "writes" "[I", Cond.fieldLink RX4 114 "ParityRowModel" "tear" "I", Cond.methodLink RX4 110 yX4_goes, Cond.instanceMethod yX4_goes, Cond.selects RX4 yX4_goes yX4_goes, Cond.code yX4_goes cX4_goes 3 (some .boolean), Cond.fieldLink RX4 57 "ParityRowModel" "cut" "I", Cond.fieldLink RX4 107 "ParityRowModel" "scrubAt" "I", Cond.methodLink RX4 137 yX4_markIs, Cond.instanceMethod yX4_markIs, Cond.selects RX4 yX4_markIs yX4_markIs, Cond.code yX4_markIs cX4_markIs 3 (some .boolean)]
def wsX4_write_r6 : List Cond := [Cond.fieldLink RX4 51 "ParityRowModel" "markSerial" "I"]
def wsX4_write : List Cond := .code yX4_write cX4_write 9 (some .int) :: ((wsX4_write_r1 ++ (wsX4_write_r2 ++ (wsX4_write_r3 ++ (wsX4_write_r4 ++ (wsX4_write_r5 ++ wsX4_write_r6))))) ++ wsX40)
def wsX4_from_r1 : List Cond := [Cond.fieldLink RX4 69 "ParityRowModel" "many" "I", Cond.methodLink RX4 140 yX4_latest, Cond.instanceMethod yX4_latest, Cond.selects RX4 yX4_latest yX4_latest, Cond.initialized RX4, Cond.code yX4_latest cX4_latest 5 (some .int), Cond.fieldLink RX4 120 "ParityRowModel" "records" "I", Cond.fieldLink RX4 42 "ParityRowModel" "hasParity" "[Z", Cond.fieldLink RX4 39 "ParityRowModel" "bits" "[I", Cond.fieldLink RX4 33 "ParityRowModel" "stripes" "[I", Cond.methodLink RX4 100 yX4_memberOf, Cond.instanceMethod yX4_memberOf, Cond.selects RX4 yX4_memberOf yX4_memberOf, Cond.code yX4_memberOf cX4_memberOf 3 (some .int), Cond.methodLink RX4 78 yX4_parityOf, Cond.instanceMethod yX4_parityOf, Cond.selects RX4 yX4_parityOf yX4_parityOf, Cond.code yX4_parityOf cX4_parityOf 2 (some .int), Cond.methodLink RX4 93 yX4_isThere, Cond.instanceMethod yX4_isThere, Cond.selects RX4 yX4_isThere yX4_isThere, Cond.code yX4_isThere cX4_isThere 4 (some .boolean), Cond.fieldLink RX4 20 "ParityRowModel" "torn" "[Z", Cond.fieldLink RX4 17 "ParityRowModel" "sums" "[I"]
def wsX4_from_r2 : List Cond := [Cond.methodLink RX4 82 yX4_at, Cond.instanceMethod yX4_at, Cond.selects RX4 yX4_at yX4_at, Cond.code yX4_at cX4_at 3 (some .int), Cond.methodLink RX4 86 yX4_isOn, Cond.instanceMethod yX4_isOn, Cond.selects RX4 yX4_isOn yX4_isOn, Cond.code yX4_isOn cX4_isOn 3 (some .boolean), Cond.fieldLink RX4 24 "ParityRowModel" "state" "[I", Cond.fieldLink RX4 27 "ParityRowModel" "built" "[I", Cond.methodLink RX4 90 yX4_sumOf, Cond.instanceMethod yX4_sumOf, Cond.selects RX4 yX4_sumOf yX4_sumOf, Cond.code yX4_sumOf cX4_sumOf 4 (some .int), Cond.fieldLink RX4 13 "ParityRowModel" "words" "[I", Cond.methodLink RX4 173 yX4_othersThere, Cond.instanceMethod yX4_othersThere, Cond.selects RX4 yX4_othersThere yX4_othersThere, Cond.code yX4_othersThere cX4_othersThere 5 (some .boolean)]
def wsX4_from : List Cond := .code yX4_from cX4_from 5 (some .int) :: ((wsX4_from_r1 ++ wsX4_from_r2) ++ wsX40)
def wsX4_look_r1 : List Cond := [Cond.fieldLink RX4 103 "ParityRowModel" "down" "Z", Cond.methodLink RX4 96 yX4_isBlock, Cond.instanceMethod yX4_isBlock, Cond.selects RX4 yX4_isBlock yX4_isBlock, Cond.initialized RX4, Cond.code yX4_isBlock cX4_isBlock 3 (some .boolean), Cond.constantLong RX4 72 (24), Cond.fieldLink RX4 69 "ParityRowModel" "many" "I", Cond.methodLink RX4 74 yX4_in, Cond.static yX4_in, Cond.code yX4_in cX4_in 6 (some .boolean), Cond.methodLink RX4 176 yX4_from, Cond.instanceMethod yX4_from, Cond.selects RX4 yX4_from yX4_from, Cond.code yX4_from cX4_from 5 (some .int), Cond.methodLink RX4 140 yX4_latest, Cond.instanceMethod yX4_latest, Cond.selects RX4 yX4_latest yX4_latest, Cond.code yX4_latest cX4_latest 5 (some .int), Cond.fieldLink RX4 120 "ParityRowModel" "records" "I", Cond.fieldLink RX4 42 "ParityRowModel" "hasParity" "[Z", Cond.fieldLink RX4 39 "ParityRowModel" "bits" "[I", Cond.fieldLink RX4 33 "ParityRowModel" "stripes" "[I", Cond.methodLink RX4 100 yX4_memberOf]
def wsX4_look_r2 : List Cond := [Cond.instanceMethod yX4_memberOf, Cond.selects RX4 yX4_memberOf yX4_memberOf, Cond.code yX4_memberOf cX4_memberOf 3 (some .int), Cond.methodLink RX4 78 yX4_parityOf, Cond.instanceMethod yX4_parityOf, Cond.selects RX4 yX4_parityOf yX4_parityOf, Cond.code yX4_parityOf cX4_parityOf 2 (some .int), Cond.methodLink RX4 93 yX4_isThere, Cond.instanceMethod yX4_isThere, Cond.selects RX4 yX4_isThere yX4_isThere, Cond.code yX4_isThere cX4_isThere 4 (some .boolean), Cond.fieldLink RX4 20 "ParityRowModel" "torn" "[Z", Cond.fieldLink RX4 17 "ParityRowModel" "sums" "[I", Cond.methodLink RX4 82 yX4_at, Cond.instanceMethod yX4_at, Cond.selects RX4 yX4_at yX4_at, Cond.code yX4_at cX4_at 3 (some .int), Cond.methodLink RX4 86 yX4_isOn, Cond.instanceMethod yX4_isOn, Cond.selects RX4 yX4_isOn yX4_isOn, Cond.code yX4_isOn cX4_isOn 3 (some .boolean), Cond.fieldLink RX4 24 "ParityRowModel" "state" "[I", Cond.fieldLink RX4 27 "ParityRowModel" "built" "[I", Cond.methodLink RX4 90 yX4_sumOf]
def wsX4_look_r3 : List Cond := [Cond.instanceMethod yX4_sumOf, Cond.selects RX4 yX4_sumOf yX4_sumOf, Cond.code yX4_sumOf cX4_sumOf 4 (some .int), Cond.fieldLink RX4 13 "ParityRowModel" "words" "[I", Cond.methodLink RX4 173 yX4_othersThere, Cond.instanceMethod yX4_othersThere, Cond.selects RX4 yX4_othersThere yX4_othersThere, Cond.code yX4_othersThere cX4_othersThere 5 (some .boolean)]
def wsX4_look : List Cond := .code yX4_look cX4_look 2 (some .int) :: ((wsX4_look_r1 ++ (wsX4_look_r2 ++ wsX4_look_r3)) ++ wsX40)
def wsX4_others : List Cond := .code yX4_others cX4_others 6 (some .int) :: ([.fieldLink RX4 69 "ParityRowModel" "many" "I", .fieldLink RX4 13 "ParityRowModel" "words" "[I", .methodLink RX4 82 yX4_at, .instanceMethod yX4_at, .selects RX4 yX4_at yX4_at, .initialized RX4, .code yX4_at cX4_at 3 (some .int)] ++ wsX40)
def wsX4_word_r1 : List Cond := [Cond.constantLong RX4 179 (7), Cond.fieldLink RX4 103 "ParityRowModel" "down" "Z", Cond.fieldLink RX4 1 "ParityRowModel" "thrown" "I", Cond.fieldLink RX4 69 "ParityRowModel" "many" "I", Cond.methodLink RX4 96 yX4_isBlock, Cond.instanceMethod yX4_isBlock, Cond.selects RX4 yX4_isBlock yX4_isBlock, Cond.initialized RX4, Cond.code yX4_isBlock cX4_isBlock 3 (some .boolean), Cond.constantLong RX4 72 (24), Cond.methodLink RX4 74 yX4_in, Cond.static yX4_in, Cond.code yX4_in cX4_in 6 (some .boolean), Cond.methodLink RX4 176 yX4_from, Cond.instanceMethod yX4_from, Cond.selects RX4 yX4_from yX4_from, Cond.code yX4_from cX4_from 5 (some .int), Cond.methodLink RX4 140 yX4_latest, Cond.instanceMethod yX4_latest, Cond.selects RX4 yX4_latest yX4_latest, Cond.code yX4_latest cX4_latest 5 (some .int), Cond.fieldLink RX4 120 "ParityRowModel" "records" "I", Cond.fieldLink RX4 42 "ParityRowModel" "hasParity" "[Z", Cond.fieldLink RX4 39 "ParityRowModel" "bits" "[I"]
def wsX4_word_r2 : List Cond := [Cond.fieldLink RX4 33 "ParityRowModel" "stripes" "[I", Cond.methodLink RX4 100 yX4_memberOf, Cond.instanceMethod yX4_memberOf, Cond.selects RX4 yX4_memberOf yX4_memberOf, Cond.code yX4_memberOf cX4_memberOf 3 (some .int), Cond.methodLink RX4 78 yX4_parityOf, Cond.instanceMethod yX4_parityOf, Cond.selects RX4 yX4_parityOf yX4_parityOf, Cond.code yX4_parityOf cX4_parityOf 2 (some .int), Cond.methodLink RX4 93 yX4_isThere, Cond.instanceMethod yX4_isThere, Cond.selects RX4 yX4_isThere yX4_isThere, Cond.code yX4_isThere cX4_isThere 4 (some .boolean), Cond.fieldLink RX4 20 "ParityRowModel" "torn" "[Z", Cond.fieldLink RX4 17 "ParityRowModel" "sums" "[I", Cond.methodLink RX4 82 yX4_at, Cond.instanceMethod yX4_at, Cond.selects RX4 yX4_at yX4_at, Cond.code yX4_at cX4_at 3 (some .int), Cond.methodLink RX4 86 yX4_isOn, Cond.instanceMethod yX4_isOn, Cond.selects RX4 yX4_isOn yX4_isOn, Cond.code yX4_isOn cX4_isOn 3 (some .boolean), Cond.fieldLink RX4 24 "ParityRowModel" "state" "[I"]
def wsX4_word_r3 : List Cond := [Cond.fieldLink RX4 27 "ParityRowModel" "built" "[I", Cond.methodLink RX4 90 yX4_sumOf, Cond.instanceMethod yX4_sumOf, Cond.selects RX4 yX4_sumOf yX4_sumOf, Cond.code yX4_sumOf cX4_sumOf 4 (some .int), Cond.fieldLink RX4 13 "ParityRowModel" "words" "[I", Cond.methodLink RX4 173 yX4_othersThere, Cond.instanceMethod yX4_othersThere, Cond.selects RX4 yX4_othersThere yX4_othersThere, Cond.code yX4_othersThere cX4_othersThere 5 (some .boolean), Cond.methodLink RX4 181 yX4_others, Cond.instanceMethod yX4_others, Cond.selects RX4 yX4_others yX4_others, Cond.code yX4_others cX4_others 6 (some .int), Cond.methodLink RX4 160 yX4_newest, Cond.instanceMethod yX4_newest, Cond.selects RX4 yX4_newest yX4_newest, Cond.code yX4_newest cX4_newest 5 (some .int), Cond.fieldLink RX4 48 "ParityRowModel" "kept" "[I", Cond.methodLink RX4 143 yX4_memberOfRow, Cond.instanceMethod yX4_memberOfRow, Cond.selects RX4 yX4_memberOfRow yX4_memberOfRow, Cond.code yX4_memberOfRow cX4_memberOfRow 3 (some .int)]
def wsX4_word : List Cond := .code yX4_word cX4_word 5 (some .int) :: ((wsX4_word_r1 ++ (wsX4_word_r2 ++ wsX4_word_r3)) ++ wsX40)
def wsX4_drain_r1 : List Cond := [Cond.fieldLink RX4 103 "ParityRowModel" "down" "Z", Cond.constantLong RX4 184 (32), Cond.fieldLink RX4 120 "ParityRowModel" "records" "I", Cond.methodLink RX4 74 yX4_in, Cond.static yX4_in, Cond.initialized RX4, Cond.code yX4_in cX4_in 6 (some .boolean), Cond.methodLink RX4 167 yX4_drained, Cond.instanceMethod yX4_drained, Cond.selects RX4 yX4_drained yX4_drained, Cond.code yX4_drained cX4_drained 4 (some .boolean), Cond.fieldLink RX4 117 "ParityRowModel" "markCell" "I", Cond.fieldLink RX4 36 "ParityRowModel" "serials" "[I", Cond.fieldLink RX4 60 "ParityRowModel" "counts" "[I", Cond.fieldLink RX4 33 "ParityRowModel" "stripes" "[I", Cond.fieldLink RX4 39 "ParityRowModel" "bits" "[I", Cond.fieldLink RX4 42 "ParityRowModel" "hasParity" "[Z", Cond.fieldLink RX4 45 "ParityRowModel" "ways" "[I", Cond.fieldLink RX4 48 "ParityRowModel" "kept" "[I", Cond.methodLink RX4 123 yX4_cellsOf, Cond.instanceMethod yX4_cellsOf, Cond.selects RX4 yX4_cellsOf yX4_cellsOf, Cond.code yX4_cellsOf cX4_cellsOf 4 (some .int), Cond.fieldLink RX4 69 "ParityRowModel" "many" "I"]
def wsX4_drain_r2 : List Cond := [Cond.methodLink RX4 133 yX4_done, Cond.instanceMethod yX4_done, Cond.selects RX4 yX4_done yX4_done, Cond.code yX4_done cX4_done 5 (some .boolean), Cond.methodLink RX4 100 yX4_memberOf, Cond.instanceMethod yX4_memberOf, Cond.selects RX4 yX4_memberOf yX4_memberOf, Cond.code yX4_memberOf cX4_memberOf 3 (some .int), Cond.methodLink RX4 78 yX4_parityOf, Cond.instanceMethod yX4_parityOf, Cond.selects RX4 yX4_parityOf yX4_parityOf, Cond.code yX4_parityOf cX4_parityOf 2 (some .int), Cond.methodLink RX4 86 yX4_isOn, Cond.instanceMethod yX4_isOn, Cond.selects RX4 yX4_isOn yX4_isOn, Cond.code yX4_isOn cX4_isOn 3 (some .boolean), Cond.fieldLink RX4 24 "ParityRowModel" "state" "[I", Cond.fieldLink RX4 27 "ParityRowModel" "built" "[I", Cond.methodLink RX4 126 yX4_freshFrom, Cond.instanceMethod yX4_freshFrom, Cond.selects RX4 yX4_freshFrom yX4_freshFrom, Cond.code yX4_freshFrom cX4_freshFrom 4 none, Cond.fieldLink RX4 63 "ParityRowModel" "fresh" "[I", Cond.methodLink RX4 130 yX4_chunkIs]
def wsX4_drain_r3 : List Cond := [Cond.instanceMethod yX4_chunkIs, Cond.selects RX4 yX4_chunkIs yX4_chunkIs, Cond.code yX4_chunkIs cX4_chunkIs 7 (some .boolean), Cond.fieldLink RX4 30 "ParityRowModel" "writes" "[I", Cond.fieldLink RX4 114 "ParityRowModel" "tear" "I", Cond.fieldLink RX4 13 "ParityRowModel" "words" "[I", Cond.fieldLink RX4 20 "ParityRowModel" "torn" "[Z", Cond.fieldLink RX4 17 "ParityRowModel" "sums" "[I", Cond.methodLink RX4 82 yX4_at, Cond.instanceMethod yX4_at, Cond.selects RX4 yX4_at yX4_at, Cond.code yX4_at cX4_at 3 (some .int), Cond.methodLink RX4 110 yX4_goes, Cond.instanceMethod yX4_goes, Cond.selects RX4 yX4_goes yX4_goes, Cond.code yX4_goes cX4_goes 3 (some .boolean), Cond.fieldLink RX4 57 "ParityRowModel" "cut" "I", Cond.fieldLink RX4 107 "ParityRowModel" "scrubAt" "I", Cond.methodLink RX4 90 yX4_sumOf, Cond.instanceMethod yX4_sumOf, Cond.selects RX4 yX4_sumOf yX4_sumOf, Cond.code yX4_sumOf cX4_sumOf 4 (some .int), Cond.methodLink RX4 137 yX4_markIs, Cond.instanceMethod yX4_markIs]
def wsX4_drain_r4 : List Cond := [Cond.selects RX4 yX4_markIs yX4_markIs, Cond.code yX4_markIs cX4_markIs 3 (some .boolean), Cond.fieldLink RX4 51 "ParityRowModel" "markSerial" "I"]
def wsX4_drain : List Cond := .code yX4_drain cX4_drain 3 (some .int) :: ((wsX4_drain_r1 ++ (wsX4_drain_r2 ++ (wsX4_drain_r3 ++ wsX4_drain_r4))) ++ wsX40)
def wsX4_notOn : List Cond := .code yX4_notOn cX4_notOn 2 (some .int) :: ([.fieldLink RX4 69 "ParityRowModel" "many" "I", .fieldLink RX4 24 "ParityRowModel" "state" "[I"] ++ wsX40)
def wsX4_lose : List Cond := .code yX4_lose cX4_lose 2 (some .int) :: ([.fieldLink RX4 103 "ParityRowModel" "down" "Z", .fieldLink RX4 69 "ParityRowModel" "many" "I", .fieldLink RX4 24 "ParityRowModel" "state" "[I", .methodLink RX4 74 yX4_in, .static yX4_in, .initialized RX4, .code yX4_in cX4_in 6 (some .boolean), .methodLink RX4 186 yX4_notOn, .instanceMethod yX4_notOn, .selects RX4 yX4_notOn yX4_notOn, .code yX4_notOn cX4_notOn 2 (some .int)] ++ wsX40)
def wsX4_spare : List Cond := .code yX4_spare cX4_spare 5 (some .int) :: ([.fieldLink RX4 103 "ParityRowModel" "down" "Z", .fieldLink RX4 24 "ParityRowModel" "state" "[I", .fieldLink RX4 27 "ParityRowModel" "built" "[I", .fieldLink RX4 20 "ParityRowModel" "torn" "[Z", .fieldLink RX4 17 "ParityRowModel" "sums" "[I", .fieldLink RX4 13 "ParityRowModel" "words" "[I", .methodLink RX4 186 yX4_notOn, .instanceMethod yX4_notOn, .selects RX4 yX4_notOn yX4_notOn, .initialized RX4, .code yX4_notOn cX4_notOn 2 (some .int), .fieldLink RX4 69 "ParityRowModel" "many" "I", .methodLink RX4 82 yX4_at, .instanceMethod yX4_at, .selects RX4 yX4_at yX4_at, .code yX4_at cX4_at 3 (some .int)] ++ wsX40)
def wsX4_freshIsOthers : List Cond := .code yX4_freshIsOthers cX4_freshIsOthers 4 none :: ([.fieldLink RX4 63 "ParityRowModel" "fresh" "[I", .methodLink RX4 181 yX4_others, .instanceMethod yX4_others, .selects RX4 yX4_others yX4_others, .initialized RX4, .code yX4_others cX4_others 6 (some .int), .fieldLink RX4 69 "ParityRowModel" "many" "I", .fieldLink RX4 13 "ParityRowModel" "words" "[I", .methodLink RX4 82 yX4_at, .instanceMethod yX4_at, .selects RX4 yX4_at yX4_at, .code yX4_at cX4_at 3 (some .int)] ++ wsX40)
def wsX4_buildsUp_r1 : List Cond := [Cond.fieldLink RX4 27 "ParityRowModel" "built" "[I", Cond.fieldLink RX4 120 "ParityRowModel" "records" "I", Cond.fieldLink RX4 33 "ParityRowModel" "stripes" "[I", Cond.fieldLink RX4 60 "ParityRowModel" "counts" "[I", Cond.fieldLink RX4 69 "ParityRowModel" "many" "I", Cond.fieldLink RX4 20 "ParityRowModel" "torn" "[Z", Cond.fieldLink RX4 117 "ParityRowModel" "markCell" "I", Cond.fieldLink RX4 51 "ParityRowModel" "markSerial" "I", Cond.fieldLink RX4 24 "ParityRowModel" "state" "[I", Cond.methodLink RX4 167 yX4_drained, Cond.instanceMethod yX4_drained, Cond.selects RX4 yX4_drained yX4_drained, Cond.initialized RX4, Cond.code yX4_drained cX4_drained 4 (some .boolean), Cond.fieldLink RX4 36 "ParityRowModel" "serials" "[I", Cond.fieldLink RX4 39 "ParityRowModel" "bits" "[I", Cond.fieldLink RX4 42 "ParityRowModel" "hasParity" "[Z", Cond.fieldLink RX4 45 "ParityRowModel" "ways" "[I", Cond.fieldLink RX4 48 "ParityRowModel" "kept" "[I", Cond.methodLink RX4 123 yX4_cellsOf, Cond.instanceMethod yX4_cellsOf, Cond.selects RX4 yX4_cellsOf yX4_cellsOf, Cond.code yX4_cellsOf cX4_cellsOf 4 (some .int), Cond.methodLink RX4 133 yX4_done]
def wsX4_buildsUp_r2 : List Cond := [Cond.instanceMethod yX4_done, Cond.selects RX4 yX4_done yX4_done, Cond.code yX4_done cX4_done 5 (some .boolean), Cond.methodLink RX4 100 yX4_memberOf, Cond.instanceMethod yX4_memberOf, Cond.selects RX4 yX4_memberOf yX4_memberOf, Cond.code yX4_memberOf cX4_memberOf 3 (some .int), Cond.methodLink RX4 78 yX4_parityOf, Cond.instanceMethod yX4_parityOf, Cond.selects RX4 yX4_parityOf yX4_parityOf, Cond.code yX4_parityOf cX4_parityOf 2 (some .int), Cond.methodLink RX4 86 yX4_isOn, Cond.instanceMethod yX4_isOn, Cond.selects RX4 yX4_isOn yX4_isOn, Cond.code yX4_isOn cX4_isOn 3 (some .boolean), Cond.methodLink RX4 126 yX4_freshFrom, Cond.instanceMethod yX4_freshFrom, Cond.selects RX4 yX4_freshFrom yX4_freshFrom, Cond.code yX4_freshFrom cX4_freshFrom 4 none, Cond.fieldLink RX4 63 "ParityRowModel" "fresh" "[I", Cond.methodLink RX4 130 yX4_chunkIs, Cond.instanceMethod yX4_chunkIs, Cond.selects RX4 yX4_chunkIs yX4_chunkIs, Cond.code yX4_chunkIs cX4_chunkIs 7 (some .boolean)]
def wsX4_buildsUp_r3 : List Cond := [Cond.fieldLink RX4 30 "ParityRowModel" "writes" "[I", Cond.fieldLink RX4 114 "ParityRowModel" "tear" "I", Cond.fieldLink RX4 13 "ParityRowModel" "words" "[I", Cond.fieldLink RX4 17 "ParityRowModel" "sums" "[I", Cond.methodLink RX4 82 yX4_at, Cond.instanceMethod yX4_at, Cond.selects RX4 yX4_at yX4_at, Cond.code yX4_at cX4_at 3 (some .int), Cond.methodLink RX4 110 yX4_goes, Cond.instanceMethod yX4_goes, Cond.selects RX4 yX4_goes yX4_goes, Cond.code yX4_goes cX4_goes 3 (some .boolean), Cond.fieldLink RX4 57 "ParityRowModel" "cut" "I", Cond.fieldLink RX4 103 "ParityRowModel" "down" "Z", Cond.fieldLink RX4 107 "ParityRowModel" "scrubAt" "I", Cond.methodLink RX4 90 yX4_sumOf, Cond.instanceMethod yX4_sumOf, Cond.selects RX4 yX4_sumOf yX4_sumOf, Cond.code yX4_sumOf cX4_sumOf 4 (some .int), Cond.methodLink RX4 137 yX4_markIs, Cond.instanceMethod yX4_markIs, Cond.selects RX4 yX4_markIs yX4_markIs, Cond.code yX4_markIs cX4_markIs 3 (some .boolean), Cond.methodLink RX4 173 yX4_othersThere]
def wsX4_buildsUp_r4 : List Cond := [Cond.instanceMethod yX4_othersThere, Cond.selects RX4 yX4_othersThere yX4_othersThere, Cond.code yX4_othersThere cX4_othersThere 5 (some .boolean), Cond.methodLink RX4 93 yX4_isThere, Cond.instanceMethod yX4_isThere, Cond.selects RX4 yX4_isThere yX4_isThere, Cond.code yX4_isThere cX4_isThere 4 (some .boolean), Cond.methodLink RX4 189 yX4_freshIsOthers, Cond.instanceMethod yX4_freshIsOthers, Cond.selects RX4 yX4_freshIsOthers yX4_freshIsOthers, Cond.code yX4_freshIsOthers cX4_freshIsOthers 4 none, Cond.methodLink RX4 181 yX4_others, Cond.instanceMethod yX4_others, Cond.selects RX4 yX4_others yX4_others, Cond.code yX4_others cX4_others 6 (some .int)]
def wsX4_buildsUp : List Cond := .code yX4_buildsUp cX4_buildsUp 5 (some .boolean) :: ((wsX4_buildsUp_r1 ++ (wsX4_buildsUp_r2 ++ (wsX4_buildsUp_r3 ++ wsX4_buildsUp_r4))) ++ wsX40)
def wsX4_build_r1 : List Cond := [Cond.fieldLink RX4 103 "ParityRowModel" "down" "Z", Cond.constantLong RX4 72 (24), Cond.fieldLink RX4 24 "ParityRowModel" "state" "[I", Cond.fieldLink RX4 27 "ParityRowModel" "built" "[I", Cond.methodLink RX4 74 yX4_in, Cond.static yX4_in, Cond.initialized RX4, Cond.code yX4_in cX4_in 6 (some .boolean), Cond.methodLink RX4 186 yX4_notOn, Cond.instanceMethod yX4_notOn, Cond.selects RX4 yX4_notOn yX4_notOn, Cond.code yX4_notOn cX4_notOn 2 (some .int), Cond.fieldLink RX4 69 "ParityRowModel" "many" "I", Cond.methodLink RX4 192 yX4_buildsUp, Cond.instanceMethod yX4_buildsUp, Cond.selects RX4 yX4_buildsUp yX4_buildsUp, Cond.code yX4_buildsUp cX4_buildsUp 5 (some .boolean), Cond.fieldLink RX4 120 "ParityRowModel" "records" "I", Cond.fieldLink RX4 33 "ParityRowModel" "stripes" "[I", Cond.fieldLink RX4 60 "ParityRowModel" "counts" "[I", Cond.fieldLink RX4 20 "ParityRowModel" "torn" "[Z", Cond.fieldLink RX4 117 "ParityRowModel" "markCell" "I", Cond.fieldLink RX4 51 "ParityRowModel" "markSerial" "I", Cond.methodLink RX4 167 yX4_drained]
def wsX4_build_r2 : List Cond := [Cond.instanceMethod yX4_drained, Cond.selects RX4 yX4_drained yX4_drained, Cond.code yX4_drained cX4_drained 4 (some .boolean), Cond.fieldLink RX4 36 "ParityRowModel" "serials" "[I", Cond.fieldLink RX4 39 "ParityRowModel" "bits" "[I", Cond.fieldLink RX4 42 "ParityRowModel" "hasParity" "[Z", Cond.fieldLink RX4 45 "ParityRowModel" "ways" "[I", Cond.fieldLink RX4 48 "ParityRowModel" "kept" "[I", Cond.methodLink RX4 123 yX4_cellsOf, Cond.instanceMethod yX4_cellsOf, Cond.selects RX4 yX4_cellsOf yX4_cellsOf, Cond.code yX4_cellsOf cX4_cellsOf 4 (some .int), Cond.methodLink RX4 133 yX4_done, Cond.instanceMethod yX4_done, Cond.selects RX4 yX4_done yX4_done, Cond.code yX4_done cX4_done 5 (some .boolean), Cond.methodLink RX4 100 yX4_memberOf, Cond.instanceMethod yX4_memberOf, Cond.selects RX4 yX4_memberOf yX4_memberOf, Cond.code yX4_memberOf cX4_memberOf 3 (some .int), Cond.methodLink RX4 78 yX4_parityOf, Cond.instanceMethod yX4_parityOf, Cond.selects RX4 yX4_parityOf yX4_parityOf, Cond.code yX4_parityOf cX4_parityOf 2 (some .int)]
def wsX4_build_r3 : List Cond := [Cond.methodLink RX4 86 yX4_isOn, Cond.instanceMethod yX4_isOn, Cond.selects RX4 yX4_isOn yX4_isOn, Cond.code yX4_isOn cX4_isOn 3 (some .boolean), Cond.methodLink RX4 126 yX4_freshFrom, Cond.instanceMethod yX4_freshFrom, Cond.selects RX4 yX4_freshFrom yX4_freshFrom, Cond.code yX4_freshFrom cX4_freshFrom 4 none, Cond.fieldLink RX4 63 "ParityRowModel" "fresh" "[I", Cond.methodLink RX4 130 yX4_chunkIs, Cond.instanceMethod yX4_chunkIs, Cond.selects RX4 yX4_chunkIs yX4_chunkIs, Cond.code yX4_chunkIs cX4_chunkIs 7 (some .boolean), Cond.fieldLink RX4 30 "ParityRowModel" "writes" "[I", Cond.fieldLink RX4 114 "ParityRowModel" "tear" "I", Cond.fieldLink RX4 13 "ParityRowModel" "words" "[I", Cond.fieldLink RX4 17 "ParityRowModel" "sums" "[I", Cond.methodLink RX4 82 yX4_at, Cond.instanceMethod yX4_at, Cond.selects RX4 yX4_at yX4_at, Cond.code yX4_at cX4_at 3 (some .int), Cond.methodLink RX4 110 yX4_goes, Cond.instanceMethod yX4_goes, Cond.selects RX4 yX4_goes yX4_goes]
def wsX4_build_r4 : List Cond := [Cond.code yX4_goes cX4_goes 3 (some .boolean), Cond.fieldLink RX4 57 "ParityRowModel" "cut" "I", Cond.fieldLink RX4 107 "ParityRowModel" "scrubAt" "I", Cond.methodLink RX4 90 yX4_sumOf, Cond.instanceMethod yX4_sumOf, Cond.selects RX4 yX4_sumOf yX4_sumOf, Cond.code yX4_sumOf cX4_sumOf 4 (some .int), Cond.methodLink RX4 137 yX4_markIs, Cond.instanceMethod yX4_markIs, Cond.selects RX4 yX4_markIs yX4_markIs, Cond.code yX4_markIs cX4_markIs 3 (some .boolean), Cond.methodLink RX4 173 yX4_othersThere, Cond.instanceMethod yX4_othersThere, Cond.selects RX4 yX4_othersThere yX4_othersThere, Cond.code yX4_othersThere cX4_othersThere 5 (some .boolean), Cond.methodLink RX4 93 yX4_isThere, Cond.instanceMethod yX4_isThere, Cond.selects RX4 yX4_isThere yX4_isThere, Cond.code yX4_isThere cX4_isThere 4 (some .boolean), Cond.methodLink RX4 189 yX4_freshIsOthers, Cond.instanceMethod yX4_freshIsOthers, Cond.selects RX4 yX4_freshIsOthers yX4_freshIsOthers, Cond.code yX4_freshIsOthers cX4_freshIsOthers 4 none, Cond.methodLink RX4 181 yX4_others]
def wsX4_build_r5 : List Cond := [Cond.instanceMethod yX4_others, Cond.selects RX4 yX4_others yX4_others, Cond.code yX4_others cX4_others 6 (some .int)]
def wsX4_build : List Cond := .code yX4_build cX4_build 4 (some .int) :: ((wsX4_build_r1 ++ (wsX4_build_r2 ++ (wsX4_build_r3 ++ (wsX4_build_r4 ++ wsX4_build_r5)))) ++ wsX40)
def wsX4_isEven : List Cond := .code yX4_isEven cX4_isEven 4 (some .boolean) :: ([.methodLink RX4 181 yX4_others, .instanceMethod yX4_others, .selects RX4 yX4_others yX4_others, .initialized RX4, .code yX4_others cX4_others 6 (some .int), .fieldLink RX4 69 "ParityRowModel" "many" "I", .fieldLink RX4 13 "ParityRowModel" "words" "[I", .methodLink RX4 82 yX4_at, .instanceMethod yX4_at, .selects RX4 yX4_at yX4_at, .code yX4_at cX4_at 3 (some .int)] ++ wsX40)
def wsX4_scrub_r1 : List Cond := [Cond.fieldLink RX4 103 "ParityRowModel" "down" "Z", Cond.constantLong RX4 72 (24), Cond.fieldLink RX4 107 "ParityRowModel" "scrubAt" "I", Cond.fieldLink RX4 60 "ParityRowModel" "counts" "[I", Cond.fieldLink RX4 69 "ParityRowModel" "many" "I", Cond.methodLink RX4 74 yX4_in, Cond.static yX4_in, Cond.initialized RX4, Cond.code yX4_in cX4_in 6 (some .boolean), Cond.methodLink RX4 186 yX4_notOn, Cond.instanceMethod yX4_notOn, Cond.selects RX4 yX4_notOn yX4_notOn, Cond.code yX4_notOn cX4_notOn 2 (some .int), Cond.fieldLink RX4 24 "ParityRowModel" "state" "[I", Cond.methodLink RX4 93 yX4_isThere, Cond.instanceMethod yX4_isThere, Cond.selects RX4 yX4_isThere yX4_isThere, Cond.code yX4_isThere cX4_isThere 4 (some .boolean), Cond.fieldLink RX4 20 "ParityRowModel" "torn" "[Z", Cond.fieldLink RX4 17 "ParityRowModel" "sums" "[I", Cond.methodLink RX4 82 yX4_at, Cond.instanceMethod yX4_at, Cond.selects RX4 yX4_at yX4_at, Cond.code yX4_at cX4_at 3 (some .int)]
def wsX4_scrub_r2 : List Cond := [Cond.methodLink RX4 86 yX4_isOn, Cond.instanceMethod yX4_isOn, Cond.selects RX4 yX4_isOn yX4_isOn, Cond.code yX4_isOn cX4_isOn 3 (some .boolean), Cond.fieldLink RX4 27 "ParityRowModel" "built" "[I", Cond.methodLink RX4 90 yX4_sumOf, Cond.instanceMethod yX4_sumOf, Cond.selects RX4 yX4_sumOf yX4_sumOf, Cond.code yX4_sumOf cX4_sumOf 4 (some .int), Cond.fieldLink RX4 13 "ParityRowModel" "words" "[I", Cond.methodLink RX4 195 yX4_isEven, Cond.instanceMethod yX4_isEven, Cond.selects RX4 yX4_isEven yX4_isEven, Cond.code yX4_isEven cX4_isEven 4 (some .boolean), Cond.methodLink RX4 181 yX4_others, Cond.instanceMethod yX4_others, Cond.selects RX4 yX4_others yX4_others, Cond.code yX4_others cX4_others 6 (some .int), Cond.methodLink RX4 78 yX4_parityOf, Cond.instanceMethod yX4_parityOf, Cond.selects RX4 yX4_parityOf yX4_parityOf, Cond.code yX4_parityOf cX4_parityOf 2 (some .int), Cond.methodLink RX4 189 yX4_freshIsOthers, Cond.instanceMethod yX4_freshIsOthers]
def wsX4_scrub_r3 : List Cond := [Cond.selects RX4 yX4_freshIsOthers yX4_freshIsOthers, Cond.code yX4_freshIsOthers cX4_freshIsOthers 4 none, Cond.fieldLink RX4 63 "ParityRowModel" "fresh" "[I", Cond.methodLink RX4 130 yX4_chunkIs, Cond.instanceMethod yX4_chunkIs, Cond.selects RX4 yX4_chunkIs yX4_chunkIs, Cond.code yX4_chunkIs cX4_chunkIs 7 (some .boolean), Cond.fieldLink RX4 30 "ParityRowModel" "writes" "[I", Cond.fieldLink RX4 114 "ParityRowModel" "tear" "I", Cond.methodLink RX4 110 yX4_goes, Cond.instanceMethod yX4_goes, Cond.selects RX4 yX4_goes yX4_goes, Cond.code yX4_goes cX4_goes 3 (some .boolean), Cond.fieldLink RX4 57 "ParityRowModel" "cut" "I"]
def wsX4_scrub : List Cond := .code yX4_scrub cX4_scrub 8 (some .int) :: ((wsX4_scrub_r1 ++ (wsX4_scrub_r2 ++ wsX4_scrub_r3)) ++ wsX40)
def wsX4_rot : List Cond := .code yX4_rot cX4_rot 6 (some .int) :: ([.fieldLink RX4 69 "ParityRowModel" "many" "I", .constantLong RX4 198 (23), .constantLong RX4 179 (7), .fieldLink RX4 13 "ParityRowModel" "words" "[I", .methodLink RX4 74 yX4_in, .static yX4_in, .initialized RX4, .code yX4_in cX4_in 6 (some .boolean), .methodLink RX4 82 yX4_at, .instanceMethod yX4_at, .selects RX4 yX4_at yX4_at, .code yX4_at cX4_at 3 (some .int)] ++ wsX40)
def wsX4_cut : List Cond := .code yX4_cut cX4_cut 3 (some .int) :: ([.fieldLink RX4 103 "ParityRowModel" "down" "Z", .constantLong RX4 200 (-1), .constantLong RX4 202 (1000), .constantLong RX4 204 (8), .fieldLink RX4 57 "ParityRowModel" "cut" "I", .fieldLink RX4 114 "ParityRowModel" "tear" "I", .methodLink RX4 74 yX4_in, .static yX4_in, .initialized RX4, .code yX4_in cX4_in 6 (some .boolean)] ++ wsX40)
def wsX4_start_r1 : List Cond := [Cond.fieldLink RX4 103 "ParityRowModel" "down" "Z", Cond.constantLong RX4 200 (-1), Cond.constantLong RX4 202 (1000), Cond.fieldLink RX4 57 "ParityRowModel" "cut" "I", Cond.fieldLink RX4 117 "ParityRowModel" "markCell" "I", Cond.fieldLink RX4 51 "ParityRowModel" "markSerial" "I", Cond.fieldLink RX4 120 "ParityRowModel" "records" "I", Cond.fieldLink RX4 36 "ParityRowModel" "serials" "[I", Cond.fieldLink RX4 60 "ParityRowModel" "counts" "[I", Cond.fieldLink RX4 54 "ParityRowModel" "nextSerial" "I", Cond.fieldLink RX4 107 "ParityRowModel" "scrubAt" "I", Cond.methodLink RX4 74 yX4_in, Cond.static yX4_in, Cond.initialized RX4, Cond.code yX4_in cX4_in 6 (some .boolean), Cond.methodLink RX4 123 yX4_cellsOf, Cond.instanceMethod yX4_cellsOf, Cond.selects RX4 yX4_cellsOf yX4_cellsOf, Cond.code yX4_cellsOf cX4_cellsOf 4 (some .int), Cond.fieldLink RX4 42 "ParityRowModel" "hasParity" "[Z", Cond.fieldLink RX4 69 "ParityRowModel" "many" "I", Cond.fieldLink RX4 39 "ParityRowModel" "bits" "[I", Cond.methodLink RX4 133 yX4_done, Cond.instanceMethod yX4_done]
def wsX4_start_r2 : List Cond := [Cond.selects RX4 yX4_done yX4_done, Cond.code yX4_done cX4_done 5 (some .boolean), Cond.fieldLink RX4 33 "ParityRowModel" "stripes" "[I", Cond.methodLink RX4 100 yX4_memberOf, Cond.instanceMethod yX4_memberOf, Cond.selects RX4 yX4_memberOf yX4_memberOf, Cond.code yX4_memberOf cX4_memberOf 3 (some .int), Cond.methodLink RX4 78 yX4_parityOf, Cond.instanceMethod yX4_parityOf, Cond.selects RX4 yX4_parityOf yX4_parityOf, Cond.code yX4_parityOf cX4_parityOf 2 (some .int), Cond.methodLink RX4 86 yX4_isOn, Cond.instanceMethod yX4_isOn, Cond.selects RX4 yX4_isOn yX4_isOn, Cond.code yX4_isOn cX4_isOn 3 (some .boolean), Cond.fieldLink RX4 24 "ParityRowModel" "state" "[I", Cond.fieldLink RX4 27 "ParityRowModel" "built" "[I", Cond.methodLink RX4 126 yX4_freshFrom, Cond.instanceMethod yX4_freshFrom, Cond.selects RX4 yX4_freshFrom yX4_freshFrom, Cond.code yX4_freshFrom cX4_freshFrom 4 none, Cond.fieldLink RX4 63 "ParityRowModel" "fresh" "[I", Cond.fieldLink RX4 48 "ParityRowModel" "kept" "[I", Cond.methodLink RX4 130 yX4_chunkIs]
def wsX4_start_r3 : List Cond := [Cond.instanceMethod yX4_chunkIs, Cond.selects RX4 yX4_chunkIs yX4_chunkIs, Cond.code yX4_chunkIs cX4_chunkIs 7 (some .boolean), Cond.fieldLink RX4 30 "ParityRowModel" "writes" "[I", Cond.fieldLink RX4 114 "ParityRowModel" "tear" "I", Cond.fieldLink RX4 13 "ParityRowModel" "words" "[I", Cond.fieldLink RX4 20 "ParityRowModel" "torn" "[Z", Cond.fieldLink RX4 17 "ParityRowModel" "sums" "[I", Cond.methodLink RX4 82 yX4_at, Cond.instanceMethod yX4_at, Cond.selects RX4 yX4_at yX4_at, Cond.code yX4_at cX4_at 3 (some .int), Cond.methodLink RX4 110 yX4_goes, Cond.instanceMethod yX4_goes, Cond.selects RX4 yX4_goes yX4_goes, Cond.code yX4_goes cX4_goes 3 (some .boolean), Cond.methodLink RX4 90 yX4_sumOf, Cond.instanceMethod yX4_sumOf, Cond.selects RX4 yX4_sumOf yX4_sumOf, Cond.code yX4_sumOf cX4_sumOf 4 (some .int), Cond.methodLink RX4 137 yX4_markIs, Cond.instanceMethod yX4_markIs, Cond.selects RX4 yX4_markIs yX4_markIs, Cond.code yX4_markIs cX4_markIs 3 (some .boolean)]
def wsX4_start : List Cond := .code yX4_start cX4_start 5 (some .int) :: ((wsX4_start_r1 ++ (wsX4_start_r2 ++ wsX4_start_r3)) ++ wsX40)
def wsX4_chunk_r1 : List Cond := [Cond.fieldLink RX4 69 "ParityRowModel" "many" "I", Cond.constantLong RX4 198 (23), Cond.constantLong RX4 179 (7), Cond.fieldLink RX4 13 "ParityRowModel" "words" "[I", Cond.fieldLink RX4 17 "ParityRowModel" "sums" "[I", Cond.fieldLink RX4 20 "ParityRowModel" "torn" "[Z", Cond.methodLink RX4 74 yX4_in, Cond.static yX4_in, Cond.initialized RX4, Cond.code yX4_in cX4_in 6 (some .boolean), Cond.methodLink RX4 82 yX4_at, Cond.instanceMethod yX4_at, Cond.selects RX4 yX4_at yX4_at, Cond.code yX4_at cX4_at 3 (some .int), Cond.methodLink RX4 93 yX4_isThere, Cond.instanceMethod yX4_isThere, Cond.selects RX4 yX4_isThere yX4_isThere, Cond.code yX4_isThere cX4_isThere 4 (some .boolean), Cond.methodLink RX4 86 yX4_isOn, Cond.instanceMethod yX4_isOn, Cond.selects RX4 yX4_isOn yX4_isOn, Cond.code yX4_isOn cX4_isOn 3 (some .boolean), Cond.fieldLink RX4 24 "ParityRowModel" "state" "[I", Cond.fieldLink RX4 27 "ParityRowModel" "built" "[I"]
def wsX4_chunk_r2 : List Cond := [Cond.methodLink RX4 90 yX4_sumOf, Cond.instanceMethod yX4_sumOf, Cond.selects RX4 yX4_sumOf yX4_sumOf, Cond.code yX4_sumOf cX4_sumOf 4 (some .int)]
def wsX4_chunk : List Cond := .code yX4_chunk cX4_chunk 5 (some .int) :: ((wsX4_chunk_r1 ++ wsX4_chunk_r2) ++ wsX40)
def wsX4_member : List Cond := .code yX4_member cX4_member 3 (some .int) :: ([.fieldLink RX4 69 "ParityRowModel" "many" "I", .fieldLink RX4 24 "ParityRowModel" "state" "[I", .fieldLink RX4 27 "ParityRowModel" "built" "[I", .fieldLink RX4 30 "ParityRowModel" "writes" "[I", .methodLink RX4 74 yX4_in, .static yX4_in, .initialized RX4, .code yX4_in cX4_in 6 (some .boolean)] ++ wsX40)
def wsX4_journal : List Cond := .code yX4_journal cX4_journal 2 (some .int) :: ([.fieldLink RX4 103 "ParityRowModel" "down" "Z", .fieldLink RX4 120 "ParityRowModel" "records" "I", .fieldLink RX4 54 "ParityRowModel" "nextSerial" "I", .fieldLink RX4 117 "ParityRowModel" "markCell" "I", .fieldLink RX4 51 "ParityRowModel" "markSerial" "I", .methodLink RX4 163 yX4_free, .instanceMethod yX4_free, .selects RX4 yX4_free yX4_free, .initialized RX4, .code yX4_free cX4_free 3 (some .int), .methodLink RX4 123 yX4_cellsOf, .instanceMethod yX4_cellsOf, .selects RX4 yX4_cellsOf yX4_cellsOf, .code yX4_cellsOf cX4_cellsOf 4 (some .int), .fieldLink RX4 42 "ParityRowModel" "hasParity" "[Z", .fieldLink RX4 69 "ParityRowModel" "many" "I", .fieldLink RX4 39 "ParityRowModel" "bits" "[I"] ++ wsX40)
def wsX4_record : List Cond := .code yX4_record cX4_record 3 (some .int) :: ([.fieldLink RX4 103 "ParityRowModel" "down" "Z", .fieldLink RX4 120 "ParityRowModel" "records" "I", .fieldLink RX4 33 "ParityRowModel" "stripes" "[I", .fieldLink RX4 39 "ParityRowModel" "bits" "[I", .fieldLink RX4 42 "ParityRowModel" "hasParity" "[Z", .fieldLink RX4 36 "ParityRowModel" "serials" "[I", .fieldLink RX4 45 "ParityRowModel" "ways" "[I", .methodLink RX4 74 yX4_in, .static yX4_in, .initialized RX4, .code yX4_in cX4_in 6 (some .boolean)] ++ wsX40)
def wsX4_count : List Cond := .code yX4_count cX4_count 2 (some .int) :: ([.constantLong RX4 206 (12), .fieldLink RX4 60 "ParityRowModel" "counts" "[I", .methodLink RX4 74 yX4_in, .static yX4_in, .initialized RX4, .code yX4_in cX4_in 6 (some .boolean)] ++ wsX40)
def wsX4_audit_r1 : List Cond := [Cond.methodLink RX4 173 yX4_othersThere, Cond.instanceMethod yX4_othersThere, Cond.selects RX4 yX4_othersThere yX4_othersThere, Cond.initialized RX4, Cond.code yX4_othersThere cX4_othersThere 5 (some .boolean), Cond.fieldLink RX4 69 "ParityRowModel" "many" "I", Cond.methodLink RX4 93 yX4_isThere, Cond.instanceMethod yX4_isThere, Cond.selects RX4 yX4_isThere yX4_isThere, Cond.code yX4_isThere cX4_isThere 4 (some .boolean), Cond.fieldLink RX4 20 "ParityRowModel" "torn" "[Z", Cond.fieldLink RX4 17 "ParityRowModel" "sums" "[I", Cond.methodLink RX4 82 yX4_at, Cond.instanceMethod yX4_at, Cond.selects RX4 yX4_at yX4_at, Cond.code yX4_at cX4_at 3 (some .int), Cond.methodLink RX4 86 yX4_isOn, Cond.instanceMethod yX4_isOn, Cond.selects RX4 yX4_isOn yX4_isOn, Cond.code yX4_isOn cX4_isOn 3 (some .boolean), Cond.fieldLink RX4 24 "ParityRowModel" "state" "[I", Cond.fieldLink RX4 27 "ParityRowModel" "built" "[I", Cond.methodLink RX4 90 yX4_sumOf, Cond.instanceMethod yX4_sumOf]
def wsX4_audit_r2 : List Cond := [Cond.selects RX4 yX4_sumOf yX4_sumOf, Cond.code yX4_sumOf cX4_sumOf 4 (some .int), Cond.fieldLink RX4 13 "ParityRowModel" "words" "[I", Cond.methodLink RX4 195 yX4_isEven, Cond.instanceMethod yX4_isEven, Cond.selects RX4 yX4_isEven yX4_isEven, Cond.code yX4_isEven cX4_isEven 4 (some .boolean), Cond.methodLink RX4 181 yX4_others, Cond.instanceMethod yX4_others, Cond.selects RX4 yX4_others yX4_others, Cond.code yX4_others cX4_others 6 (some .int)]
def wsX4_audit : List Cond := .code yX4_audit cX4_audit 3 (some .int) :: ((wsX4_audit_r1 ++ wsX4_audit_r2) ++ wsX40)
def wsJ9_max_7cf53 : List Cond := .code yJ9_max_7cf53 cJ9_max_7cf53 2 (some .int) :: ([])
def wsJ9_min_7cf53 : List Cond := .code yJ9_min_7cf53 cJ9_min_7cf53 2 (some .int) :: ([])
abbrev vwCl : List vw_C := [(RX0, TX0, 6), (RX1, TX1, 4), (RX2, TX2, 6), (RX3, TX3, 10), (RX4, TX4, 25)]
end
section
theorem dJ6_bitCount_0f7a4_0 : decode cJ6_bitCount_0f7a4 0 = .ok (.iload_n 0, 1) := by decide +kernel
theorem dJ6_bitCount_0f7a4_1 : decode cJ6_bitCount_0f7a4 1 = .ok (.iload_n 0, 1) := by decide +kernel
theorem dJ6_bitCount_0f7a4_2 : decode cJ6_bitCount_0f7a4 2 = .ok (.iconst 1, 1) := by decide +kernel
theorem dJ6_bitCount_0f7a4_3 : decode cJ6_bitCount_0f7a4 3 = .ok (.iushr, 1) := by decide +kernel
theorem dJ6_bitCount_0f7a4_4 : decode cJ6_bitCount_0f7a4 4 = .ok (.ldc_w 265, 3) := by decide +kernel
theorem dJ6_bitCount_0f7a4_7 : decode cJ6_bitCount_0f7a4 7 = .ok (.iand, 1) := by decide +kernel
theorem dJ6_bitCount_0f7a4_8 : decode cJ6_bitCount_0f7a4 8 = .ok (.isub, 1) := by decide +kernel
theorem dJ6_bitCount_0f7a4_9 : decode cJ6_bitCount_0f7a4 9 = .ok (.istore_n 0, 1) := by decide +kernel
theorem dJ6_bitCount_0f7a4_10 : decode cJ6_bitCount_0f7a4 10 = .ok (.iload_n 0, 1) := by decide +kernel
theorem dJ6_bitCount_0f7a4_11 : decode cJ6_bitCount_0f7a4 11 = .ok (.ldc_w 266, 3) := by decide +kernel
theorem dJ6_bitCount_0f7a4_14 : decode cJ6_bitCount_0f7a4 14 = .ok (.iand, 1) := by decide +kernel
theorem dJ6_bitCount_0f7a4_15 : decode cJ6_bitCount_0f7a4 15 = .ok (.iload_n 0, 1) := by decide +kernel
theorem dJ6_bitCount_0f7a4_16 : decode cJ6_bitCount_0f7a4 16 = .ok (.iconst 2, 1) := by decide +kernel
theorem dJ6_bitCount_0f7a4_17 : decode cJ6_bitCount_0f7a4 17 = .ok (.iushr, 1) := by decide +kernel
theorem dJ6_bitCount_0f7a4_18 : decode cJ6_bitCount_0f7a4 18 = .ok (.ldc_w 266, 3) := by decide +kernel
theorem dJ6_bitCount_0f7a4_21 : decode cJ6_bitCount_0f7a4 21 = .ok (.iand, 1) := by decide +kernel
theorem dJ6_bitCount_0f7a4_22 : decode cJ6_bitCount_0f7a4 22 = .ok (.iadd, 1) := by decide +kernel
theorem dJ6_bitCount_0f7a4_23 : decode cJ6_bitCount_0f7a4 23 = .ok (.istore_n 0, 1) := by decide +kernel
theorem dJ6_bitCount_0f7a4_24 : decode cJ6_bitCount_0f7a4 24 = .ok (.iload_n 0, 1) := by decide +kernel
theorem dJ6_bitCount_0f7a4_25 : decode cJ6_bitCount_0f7a4 25 = .ok (.iload_n 0, 1) := by decide +kernel
theorem dJ6_bitCount_0f7a4_26 : decode cJ6_bitCount_0f7a4 26 = .ok (.iconst 4, 1) := by decide +kernel
theorem dJ6_bitCount_0f7a4_27 : decode cJ6_bitCount_0f7a4 27 = .ok (.iushr, 1) := by decide +kernel
theorem dJ6_bitCount_0f7a4_28 : decode cJ6_bitCount_0f7a4 28 = .ok (.iadd, 1) := by decide +kernel
theorem dJ6_bitCount_0f7a4_29 : decode cJ6_bitCount_0f7a4 29 = .ok (.ldc_w 267, 3) := by decide +kernel
theorem dJ6_bitCount_0f7a4_32 : decode cJ6_bitCount_0f7a4 32 = .ok (.iand, 1) := by decide +kernel
theorem dJ6_bitCount_0f7a4_33 : decode cJ6_bitCount_0f7a4 33 = .ok (.istore_n 0, 1) := by decide +kernel
theorem dJ6_bitCount_0f7a4_34 : decode cJ6_bitCount_0f7a4 34 = .ok (.iload_n 0, 1) := by decide +kernel
theorem dJ6_bitCount_0f7a4_35 : decode cJ6_bitCount_0f7a4 35 = .ok (.iload_n 0, 1) := by decide +kernel
theorem dJ6_bitCount_0f7a4_36 : decode cJ6_bitCount_0f7a4 36 = .ok (.bipush 8, 2) := by decide +kernel
theorem dJ6_bitCount_0f7a4_38 : decode cJ6_bitCount_0f7a4 38 = .ok (.iushr, 1) := by decide +kernel
theorem dJ6_bitCount_0f7a4_39 : decode cJ6_bitCount_0f7a4 39 = .ok (.iadd, 1) := by decide +kernel
theorem dJ6_bitCount_0f7a4_40 : decode cJ6_bitCount_0f7a4 40 = .ok (.istore_n 0, 1) := by decide +kernel
theorem dJ6_bitCount_0f7a4_41 : decode cJ6_bitCount_0f7a4 41 = .ok (.iload_n 0, 1) := by decide +kernel
theorem dJ6_bitCount_0f7a4_42 : decode cJ6_bitCount_0f7a4 42 = .ok (.iload_n 0, 1) := by decide +kernel
theorem dJ6_bitCount_0f7a4_43 : decode cJ6_bitCount_0f7a4 43 = .ok (.bipush 16, 2) := by decide +kernel
theorem dJ6_bitCount_0f7a4_45 : decode cJ6_bitCount_0f7a4 45 = .ok (.iushr, 1) := by decide +kernel
theorem dJ6_bitCount_0f7a4_46 : decode cJ6_bitCount_0f7a4 46 = .ok (.iadd, 1) := by decide +kernel
theorem dJ6_bitCount_0f7a4_47 : decode cJ6_bitCount_0f7a4 47 = .ok (.istore_n 0, 1) := by decide +kernel
theorem dJ6_bitCount_0f7a4_48 : decode cJ6_bitCount_0f7a4 48 = .ok (.iload_n 0, 1) := by decide +kernel
theorem dJ6_bitCount_0f7a4_49 : decode cJ6_bitCount_0f7a4 49 = .ok (.bipush 63, 2) := by decide +kernel
theorem dJ6_bitCount_0f7a4_51 : decode cJ6_bitCount_0f7a4 51 = .ok (.iand, 1) := by decide +kernel
theorem dJ6_bitCount_0f7a4_52 : decode cJ6_bitCount_0f7a4 52 = .ok (.ireturn, 1) := by decide +kernel
end
section
theorem dJ9_floorMod_7cf53_0 : decode cJ9_floorMod_7cf53 0 = .ok (.iload_n 0, 1) := by decide +kernel
theorem dJ9_floorMod_7cf53_1 : decode cJ9_floorMod_7cf53 1 = .ok (.iload_n 1, 1) := by decide +kernel
theorem dJ9_floorMod_7cf53_2 : decode cJ9_floorMod_7cf53 2 = .ok (.irem, 1) := by decide +kernel
theorem dJ9_floorMod_7cf53_3 : decode cJ9_floorMod_7cf53 3 = .ok (.istore_n 2, 1) := by decide +kernel
theorem dJ9_floorMod_7cf53_4 : decode cJ9_floorMod_7cf53 4 = .ok (.iload_n 0, 1) := by decide +kernel
theorem dJ9_floorMod_7cf53_5 : decode cJ9_floorMod_7cf53 5 = .ok (.iload_n 1, 1) := by decide +kernel
theorem dJ9_floorMod_7cf53_6 : decode cJ9_floorMod_7cf53 6 = .ok (.ixor, 1) := by decide +kernel
theorem dJ9_floorMod_7cf53_7 : decode cJ9_floorMod_7cf53 7 = .ok (.ifCond .ge 11, 3) := by decide +kernel
theorem dJ9_floorMod_7cf53_10 : decode cJ9_floorMod_7cf53 10 = .ok (.iload_n 2, 1) := by decide +kernel
theorem dJ9_floorMod_7cf53_11 : decode cJ9_floorMod_7cf53 11 = .ok (.ifCond .eq 7, 3) := by decide +kernel
theorem dJ9_floorMod_7cf53_14 : decode cJ9_floorMod_7cf53 14 = .ok (.iload_n 2, 1) := by decide +kernel
theorem dJ9_floorMod_7cf53_15 : decode cJ9_floorMod_7cf53 15 = .ok (.iload_n 1, 1) := by decide +kernel
theorem dJ9_floorMod_7cf53_16 : decode cJ9_floorMod_7cf53 16 = .ok (.iadd, 1) := by decide +kernel
theorem dJ9_floorMod_7cf53_17 : decode cJ9_floorMod_7cf53 17 = .ok (.ireturn, 1) := by decide +kernel
theorem dJ9_floorMod_7cf53_18 : decode cJ9_floorMod_7cf53 18 = .ok (.iload_n 2, 1) := by decide +kernel
theorem dJ9_floorMod_7cf53_19 : decode cJ9_floorMod_7cf53 19 = .ok (.ireturn, 1) := by decide +kernel
theorem dJ9_max_7cf53_0 : decode cJ9_max_7cf53 0 = .ok (.iload_n 0, 1) := by decide +kernel
theorem dJ9_max_7cf53_1 : decode cJ9_max_7cf53 1 = .ok (.iload_n 1, 1) := by decide +kernel
theorem dJ9_max_7cf53_2 : decode cJ9_max_7cf53 2 = .ok (.if_icmp .lt 7, 3) := by decide +kernel
theorem dJ9_max_7cf53_5 : decode cJ9_max_7cf53 5 = .ok (.iload_n 0, 1) := by decide +kernel
theorem dJ9_max_7cf53_6 : decode cJ9_max_7cf53 6 = .ok (.goto 4, 3) := by decide +kernel
theorem dJ9_max_7cf53_9 : decode cJ9_max_7cf53 9 = .ok (.iload_n 1, 1) := by decide +kernel
theorem dJ9_max_7cf53_10 : decode cJ9_max_7cf53 10 = .ok (.ireturn, 1) := by decide +kernel
theorem dJ9_min_7cf53_0 : decode cJ9_min_7cf53 0 = .ok (.iload_n 0, 1) := by decide +kernel
theorem dJ9_min_7cf53_1 : decode cJ9_min_7cf53 1 = .ok (.iload_n 1, 1) := by decide +kernel
theorem dJ9_min_7cf53_2 : decode cJ9_min_7cf53 2 = .ok (.if_icmp .gt 7, 3) := by decide +kernel
theorem dJ9_min_7cf53_5 : decode cJ9_min_7cf53 5 = .ok (.iload_n 0, 1) := by decide +kernel
theorem dJ9_min_7cf53_6 : decode cJ9_min_7cf53 6 = .ok (.goto 4, 3) := by decide +kernel
theorem dJ9_min_7cf53_9 : decode cJ9_min_7cf53 9 = .ok (.iload_n 1, 1) := by decide +kernel
theorem dJ9_min_7cf53_10 : decode cJ9_min_7cf53 10 = .ok (.ireturn, 1) := by decide +kernel
end
section
theorem dX0_init_0 : decode cX0_init 0 = .ok (.aload_n 0, 1) := by decide +kernel
theorem dX0_init_1 : decode cX0_init 1 = .ok (.invokespecial 3, 3) := by decide +kernel
theorem dX0_init_4 : decode cX0_init 4 = .ok (.aload_n 0, 1) := by decide +kernel
theorem dX0_init_5 : decode cX0_init 5 = .ok (.sipush 192, 3) := by decide +kernel
theorem dX0_init_8 : decode cX0_init 8 = .ok (.newarray .int, 2) := by decide +kernel
theorem dX0_init_10 : decode cX0_init 10 = .ok (.putfield 9, 3) := by decide +kernel
theorem dX0_init_13 : decode cX0_init 13 = .ok (.aload_n 0, 1) := by decide +kernel
theorem dX0_init_14 : decode cX0_init 14 = .ok (.bipush 24, 2) := by decide +kernel
theorem dX0_init_16 : decode cX0_init 16 = .ok (.newarray .int, 2) := by decide +kernel
theorem dX0_init_18 : decode cX0_init 18 = .ok (.putfield 15, 3) := by decide +kernel
theorem dX0_init_21 : decode cX0_init 21 = .ok (.aload_n 0, 1) := by decide +kernel
theorem dX0_init_22 : decode cX0_init 22 = .ok (.bipush 24, 2) := by decide +kernel
theorem dX0_init_24 : decode cX0_init 24 = .ok (.newarray .boolean, 2) := by decide +kernel
theorem dX0_init_26 : decode cX0_init 26 = .ok (.putfield 18, 3) := by decide +kernel
theorem dX0_init_29 : decode cX0_init 29 = .ok (.aload_n 0, 1) := by decide +kernel
theorem dX0_init_30 : decode cX0_init 30 = .ok (.iconst 0, 1) := by decide +kernel
theorem dX0_init_31 : decode cX0_init 31 = .ok (.putfield 22, 3) := by decide +kernel
theorem dX0_init_34 : decode cX0_init 34 = .ok (.aload_n 0, 1) := by decide +kernel
theorem dX0_init_35 : decode cX0_init 35 = .ok (.bipush 24, 2) := by decide +kernel
theorem dX0_init_37 : decode cX0_init 37 = .ok (.putfield 26, 3) := by decide +kernel
theorem dX0_init_40 : decode cX0_init 40 = .ok (.aload_n 0, 1) := by decide +kernel
theorem dX0_init_41 : decode cX0_init 41 = .ok (.iconst 0, 1) := by decide +kernel
theorem dX0_init_42 : decode cX0_init 42 = .ok (.putfield 29, 3) := by decide +kernel
theorem dX0_init_45 : decode cX0_init 45 = .ok (.return_, 1) := by decide +kernel
theorem dX0_isOn_0 : decode cX0_isOn 0 = .ok (.iload_n 1, 1) := by decide +kernel
theorem dX0_isOn_1 : decode cX0_isOn 1 = .ok (.aload_n 0, 1) := by decide +kernel
theorem dX0_isOn_2 : decode cX0_isOn 2 = .ok (.getfield 26, 3) := by decide +kernel
theorem dX0_isOn_5 : decode cX0_isOn 5 = .ok (.if_icmp .ge 7, 3) := by decide +kernel
theorem dX0_isOn_8 : decode cX0_isOn 8 = .ok (.iconst 1, 1) := by decide +kernel
theorem dX0_isOn_9 : decode cX0_isOn 9 = .ok (.goto 4, 3) := by decide +kernel
theorem dX0_isOn_12 : decode cX0_isOn 12 = .ok (.iconst 0, 1) := by decide +kernel
theorem dX0_isOn_13 : decode cX0_isOn 13 = .ok (.ireturn, 1) := by decide +kernel
set_option maxRecDepth 20000 in
theorem ggX0_isThere_X0_isOn : GoodIn wsX0_isThere wsX0_isOn := goodIn_r _ [8, 9, 13, 14, 15, 16, 17, 18] (by decide +kernel) (by decide +kernel)
set_option maxRecDepth 20000 in
theorem gX0_isThere_X0_isOn : GoodIn wsX0_isThere (wsV RX0 32 RX0 yX0_isOn wsX0_isOn) := goodIn_app (goodIn_of _ (by decide +kernel)) ggX0_isThere_X0_isOn
set_option maxRecDepth 20000 in
theorem ggX0_isThere_X0_sumOf : GoodIn wsX0_isThere wsX0_sumOf := goodIn_r _ [12] (by decide +kernel) (by decide +kernel)
set_option maxRecDepth 20000 in
theorem gX0_isThere_X0_sumOf : GoodIn wsX0_isThere (va_wsS RX0 36 yX0_sumOf wsX0_sumOf) := goodIn_app (goodIn_of _ (by decide +kernel)) ggX0_isThere_X0_sumOf
theorem dX0_isThere_0 : decode cX0_isThere 0 = .ok (.aload_n 0, 1) := by decide +kernel
theorem dX0_isThere_1 : decode cX0_isThere 1 = .ok (.iload_n 1, 1) := by decide +kernel
theorem dX0_isThere_2 : decode cX0_isThere 2 = .ok (.invokevirtual 32, 3) := by decide +kernel
theorem dX0_isThere_5 : decode cX0_isThere 5 = .ok (.ifCond .eq 36, 3) := by decide +kernel
theorem dX0_isThere_8 : decode cX0_isThere 8 = .ok (.aload_n 0, 1) := by decide +kernel
theorem dX0_isThere_9 : decode cX0_isThere 9 = .ok (.getfield 18, 3) := by decide +kernel
theorem dX0_isThere_12 : decode cX0_isThere 12 = .ok (.iload_n 1, 1) := by decide +kernel
theorem dX0_isThere_13 : decode cX0_isThere 13 = .ok (.baload, 1) := by decide +kernel
theorem dX0_isThere_14 : decode cX0_isThere 14 = .ok (.ifCond .ne 27, 3) := by decide +kernel
theorem dX0_isThere_17 : decode cX0_isThere 17 = .ok (.aload_n 0, 1) := by decide +kernel
theorem dX0_isThere_18 : decode cX0_isThere 18 = .ok (.getfield 15, 3) := by decide +kernel
theorem dX0_isThere_21 : decode cX0_isThere 21 = .ok (.iload_n 1, 1) := by decide +kernel
theorem dX0_isThere_22 : decode cX0_isThere 22 = .ok (.iaload, 1) := by decide +kernel
theorem dX0_isThere_23 : decode cX0_isThere 23 = .ok (.aload_n 0, 1) := by decide +kernel
theorem dX0_isThere_24 : decode cX0_isThere 24 = .ok (.getfield 9, 3) := by decide +kernel
theorem dX0_isThere_27 : decode cX0_isThere 27 = .ok (.iload_n 1, 1) := by decide +kernel
theorem dX0_isThere_28 : decode cX0_isThere 28 = .ok (.bipush 8, 2) := by decide +kernel
theorem dX0_isThere_30 : decode cX0_isThere 30 = .ok (.imul, 1) := by decide +kernel
theorem dX0_isThere_31 : decode cX0_isThere 31 = .ok (.invokestatic 36, 3) := by decide +kernel
theorem dX0_isThere_34 : decode cX0_isThere 34 = .ok (.if_icmp .ne 7, 3) := by decide +kernel
theorem dX0_isThere_37 : decode cX0_isThere 37 = .ok (.iconst 1, 1) := by decide +kernel
theorem dX0_isThere_38 : decode cX0_isThere 38 = .ok (.goto 4, 3) := by decide +kernel
theorem dX0_isThere_41 : decode cX0_isThere 41 = .ok (.iconst 0, 1) := by decide +kernel
theorem dX0_isThere_42 : decode cX0_isThere 42 = .ok (.ireturn, 1) := by decide +kernel
theorem dX0_sumOf_0 : decode cX0_sumOf 0 = .ok (.iconst 0, 1) := by decide +kernel
theorem dX0_sumOf_1 : decode cX0_sumOf 1 = .ok (.istore_n 2, 1) := by decide +kernel
theorem dX0_sumOf_2 : decode cX0_sumOf 2 = .ok (.iconst 0, 1) := by decide +kernel
theorem dX0_sumOf_3 : decode cX0_sumOf 3 = .ok (.istore_n 3, 1) := by decide +kernel
theorem dX0_sumOf_4 : decode cX0_sumOf 4 = .ok (.iload_n 3, 1) := by decide +kernel
theorem dX0_sumOf_5 : decode cX0_sumOf 5 = .ok (.bipush 8, 2) := by decide +kernel
theorem dX0_sumOf_7 : decode cX0_sumOf 7 = .ok (.if_icmp .ge 23, 3) := by decide +kernel
theorem dX0_sumOf_10 : decode cX0_sumOf 10 = .ok (.iload_n 2, 1) := by decide +kernel
theorem dX0_sumOf_11 : decode cX0_sumOf 11 = .ok (.aload_n 0, 1) := by decide +kernel
theorem dX0_sumOf_12 : decode cX0_sumOf 12 = .ok (.iload_n 1, 1) := by decide +kernel
theorem dX0_sumOf_13 : decode cX0_sumOf 13 = .ok (.iload_n 3, 1) := by decide +kernel
theorem dX0_sumOf_14 : decode cX0_sumOf 14 = .ok (.iadd, 1) := by decide +kernel
theorem dX0_sumOf_15 : decode cX0_sumOf 15 = .ok (.iaload, 1) := by decide +kernel
theorem dX0_sumOf_16 : decode cX0_sumOf 16 = .ok (.iconst 2, 1) := by decide +kernel
theorem dX0_sumOf_17 : decode cX0_sumOf 17 = .ok (.iload_n 3, 1) := by decide +kernel
theorem dX0_sumOf_18 : decode cX0_sumOf 18 = .ok (.imul, 1) := by decide +kernel
theorem dX0_sumOf_19 : decode cX0_sumOf 19 = .ok (.iconst 1, 1) := by decide +kernel
theorem dX0_sumOf_20 : decode cX0_sumOf 20 = .ok (.iadd, 1) := by decide +kernel
theorem dX0_sumOf_21 : decode cX0_sumOf 21 = .ok (.imul, 1) := by decide +kernel
theorem dX0_sumOf_22 : decode cX0_sumOf 22 = .ok (.iadd, 1) := by decide +kernel
theorem dX0_sumOf_23 : decode cX0_sumOf 23 = .ok (.istore_n 2, 1) := by decide +kernel
theorem dX0_sumOf_24 : decode cX0_sumOf 24 = .ok (.iinc 3 1, 3) := by decide +kernel
theorem dX0_sumOf_27 : decode cX0_sumOf 27 = .ok (.goto (-23), 3) := by decide +kernel
theorem dX0_sumOf_30 : decode cX0_sumOf 30 = .ok (.iload_n 2, 1) := by decide +kernel
theorem dX0_sumOf_31 : decode cX0_sumOf 31 = .ok (.ireturn, 1) := by decide +kernel
set_option maxRecDepth 20000 in
theorem ggX0_take_X0_sumOf : GoodIn wsX0_take wsX0_sumOf := goodIn_r _ [8] (by decide +kernel) (by decide +kernel)
set_option maxRecDepth 20000 in
theorem gX0_take_X0_sumOf : GoodIn wsX0_take (va_wsS RX0 36 yX0_sumOf wsX0_sumOf) := goodIn_app (goodIn_of _ (by decide +kernel)) ggX0_take_X0_sumOf
theorem dX0_take_0 : decode cX0_take 0 = .ok (.iconst 0, 1) := by decide +kernel
theorem dX0_take_1 : decode cX0_take 1 = .ok (.istore 5, 2) := by decide +kernel
theorem dX0_take_3 : decode cX0_take 3 = .ok (.iload 5, 2) := by decide +kernel
theorem dX0_take_5 : decode cX0_take 5 = .ok (.bipush 8, 2) := by decide +kernel
theorem dX0_take_7 : decode cX0_take 7 = .ok (.if_icmp .ge 34, 3) := by decide +kernel
theorem dX0_take_10 : decode cX0_take 10 = .ok (.iload 5, 2) := by decide +kernel
theorem dX0_take_12 : decode cX0_take 12 = .ok (.iload 4, 2) := by decide +kernel
theorem dX0_take_14 : decode cX0_take 14 = .ok (.if_icmp .ge 27, 3) := by decide +kernel
theorem dX0_take_17 : decode cX0_take 17 = .ok (.aload_n 0, 1) := by decide +kernel
theorem dX0_take_18 : decode cX0_take 18 = .ok (.getfield 9, 3) := by decide +kernel
theorem dX0_take_21 : decode cX0_take 21 = .ok (.iload_n 1, 1) := by decide +kernel
theorem dX0_take_22 : decode cX0_take 22 = .ok (.bipush 8, 2) := by decide +kernel
theorem dX0_take_24 : decode cX0_take 24 = .ok (.imul, 1) := by decide +kernel
theorem dX0_take_25 : decode cX0_take 25 = .ok (.iload 5, 2) := by decide +kernel
theorem dX0_take_27 : decode cX0_take 27 = .ok (.iadd, 1) := by decide +kernel
theorem dX0_take_28 : decode cX0_take 28 = .ok (.aload_n 2, 1) := by decide +kernel
theorem dX0_take_29 : decode cX0_take 29 = .ok (.iload_n 3, 1) := by decide +kernel
theorem dX0_take_30 : decode cX0_take 30 = .ok (.iload 5, 2) := by decide +kernel
theorem dX0_take_32 : decode cX0_take 32 = .ok (.iadd, 1) := by decide +kernel
theorem dX0_take_33 : decode cX0_take 33 = .ok (.iaload, 1) := by decide +kernel
theorem dX0_take_34 : decode cX0_take 34 = .ok (.iastore, 1) := by decide +kernel
theorem dX0_take_35 : decode cX0_take 35 = .ok (.iinc 5 1, 3) := by decide +kernel
theorem dX0_take_38 : decode cX0_take 38 = .ok (.goto (-35), 3) := by decide +kernel
theorem dX0_take_41 : decode cX0_take 41 = .ok (.iload 4, 2) := by decide +kernel
theorem dX0_take_43 : decode cX0_take 43 = .ok (.bipush 8, 2) := by decide +kernel
theorem dX0_take_45 : decode cX0_take 45 = .ok (.if_icmp .le 14, 3) := by decide +kernel
theorem dX0_take_48 : decode cX0_take 48 = .ok (.aload_n 0, 1) := by decide +kernel
theorem dX0_take_49 : decode cX0_take 49 = .ok (.getfield 15, 3) := by decide +kernel
theorem dX0_take_52 : decode cX0_take 52 = .ok (.iload_n 1, 1) := by decide +kernel
theorem dX0_take_53 : decode cX0_take 53 = .ok (.aload_n 2, 1) := by decide +kernel
theorem dX0_take_54 : decode cX0_take 54 = .ok (.iload_n 3, 1) := by decide +kernel
theorem dX0_take_55 : decode cX0_take 55 = .ok (.invokestatic 36, 3) := by decide +kernel
theorem dX0_take_58 : decode cX0_take 58 = .ok (.iastore, 1) := by decide +kernel
theorem dX0_take_59 : decode cX0_take 59 = .ok (.aload_n 0, 1) := by decide +kernel
theorem dX0_take_60 : decode cX0_take 60 = .ok (.getfield 18, 3) := by decide +kernel
theorem dX0_take_63 : decode cX0_take 63 = .ok (.iload_n 1, 1) := by decide +kernel
theorem dX0_take_64 : decode cX0_take 64 = .ok (.iload 4, 2) := by decide +kernel
theorem dX0_take_66 : decode cX0_take 66 = .ok (.bipush 8, 2) := by decide +kernel
theorem dX0_take_68 : decode cX0_take 68 = .ok (.if_icmp .gt 7, 3) := by decide +kernel
theorem dX0_take_71 : decode cX0_take 71 = .ok (.iconst 1, 1) := by decide +kernel
theorem dX0_take_72 : decode cX0_take 72 = .ok (.goto 4, 3) := by decide +kernel
theorem dX0_take_75 : decode cX0_take 75 = .ok (.iconst 0, 1) := by decide +kernel
theorem dX0_take_76 : decode cX0_take 76 = .ok (.bastore, 1) := by decide +kernel
theorem dX0_take_77 : decode cX0_take 77 = .ok (.aload_n 0, 1) := by decide +kernel
theorem dX0_take_78 : decode cX0_take 78 = .ok (.dup, 1) := by decide +kernel
theorem dX0_take_79 : decode cX0_take 79 = .ok (.getfield 29, 3) := by decide +kernel
theorem dX0_take_82 : decode cX0_take 82 = .ok (.iconst 1, 1) := by decide +kernel
theorem dX0_take_83 : decode cX0_take 83 = .ok (.iadd, 1) := by decide +kernel
theorem dX0_take_84 : decode cX0_take 84 = .ok (.putfield 29, 3) := by decide +kernel
theorem dX0_take_87 : decode cX0_take 87 = .ok (.return_, 1) := by decide +kernel
theorem dX0_replace_0 : decode cX0_replace 0 = .ok (.iconst 0, 1) := by decide +kernel
theorem dX0_replace_1 : decode cX0_replace 1 = .ok (.istore_n 1, 1) := by decide +kernel
theorem dX0_replace_2 : decode cX0_replace 2 = .ok (.iload_n 1, 1) := by decide +kernel
theorem dX0_replace_3 : decode cX0_replace 3 = .ok (.sipush 192, 3) := by decide +kernel
theorem dX0_replace_6 : decode cX0_replace 6 = .ok (.if_icmp .ge 16, 3) := by decide +kernel
theorem dX0_replace_9 : decode cX0_replace 9 = .ok (.aload_n 0, 1) := by decide +kernel
theorem dX0_replace_10 : decode cX0_replace 10 = .ok (.getfield 9, 3) := by decide +kernel
theorem dX0_replace_13 : decode cX0_replace 13 = .ok (.iload_n 1, 1) := by decide +kernel
theorem dX0_replace_14 : decode cX0_replace 14 = .ok (.iconst 0, 1) := by decide +kernel
theorem dX0_replace_15 : decode cX0_replace 15 = .ok (.iastore, 1) := by decide +kernel
theorem dX0_replace_16 : decode cX0_replace 16 = .ok (.iinc 1 1, 3) := by decide +kernel
theorem dX0_replace_19 : decode cX0_replace 19 = .ok (.goto (-17), 3) := by decide +kernel
theorem dX0_replace_22 : decode cX0_replace 22 = .ok (.iconst 0, 1) := by decide +kernel
theorem dX0_replace_23 : decode cX0_replace 23 = .ok (.istore_n 1, 1) := by decide +kernel
theorem dX0_replace_24 : decode cX0_replace 24 = .ok (.iload_n 1, 1) := by decide +kernel
theorem dX0_replace_25 : decode cX0_replace 25 = .ok (.bipush 24, 2) := by decide +kernel
theorem dX0_replace_27 : decode cX0_replace 27 = .ok (.if_icmp .ge 23, 3) := by decide +kernel
theorem dX0_replace_30 : decode cX0_replace 30 = .ok (.aload_n 0, 1) := by decide +kernel
theorem dX0_replace_31 : decode cX0_replace 31 = .ok (.getfield 15, 3) := by decide +kernel
theorem dX0_replace_34 : decode cX0_replace 34 = .ok (.iload_n 1, 1) := by decide +kernel
theorem dX0_replace_35 : decode cX0_replace 35 = .ok (.iconst 0, 1) := by decide +kernel
theorem dX0_replace_36 : decode cX0_replace 36 = .ok (.iastore, 1) := by decide +kernel
theorem dX0_replace_37 : decode cX0_replace 37 = .ok (.aload_n 0, 1) := by decide +kernel
theorem dX0_replace_38 : decode cX0_replace 38 = .ok (.getfield 18, 3) := by decide +kernel
theorem dX0_replace_41 : decode cX0_replace 41 = .ok (.iload_n 1, 1) := by decide +kernel
theorem dX0_replace_42 : decode cX0_replace 42 = .ok (.iconst 0, 1) := by decide +kernel
theorem dX0_replace_43 : decode cX0_replace 43 = .ok (.bastore, 1) := by decide +kernel
theorem dX0_replace_44 : decode cX0_replace 44 = .ok (.iinc 1 1, 3) := by decide +kernel
theorem dX0_replace_47 : decode cX0_replace 47 = .ok (.goto (-23), 3) := by decide +kernel
theorem dX0_replace_50 : decode cX0_replace 50 = .ok (.aload_n 0, 1) := by decide +kernel
theorem dX0_replace_51 : decode cX0_replace 51 = .ok (.iconst 2, 1) := by decide +kernel
theorem dX0_replace_52 : decode cX0_replace 52 = .ok (.putfield 22, 3) := by decide +kernel
theorem dX0_replace_55 : decode cX0_replace 55 = .ok (.aload_n 0, 1) := by decide +kernel
theorem dX0_replace_56 : decode cX0_replace 56 = .ok (.iconst 0, 1) := by decide +kernel
theorem dX0_replace_57 : decode cX0_replace 57 = .ok (.putfield 26, 3) := by decide +kernel
theorem dX0_replace_60 : decode cX0_replace 60 = .ok (.return_, 1) := by decide +kernel
theorem dX0_forgetBuilding_0 : decode cX0_forgetBuilding 0 = .ok (.aload_n 0, 1) := by decide +kernel
theorem dX0_forgetBuilding_1 : decode cX0_forgetBuilding 1 = .ok (.getfield 22, 3) := by decide +kernel
theorem dX0_forgetBuilding_4 : decode cX0_forgetBuilding 4 = .ok (.iconst 2, 1) := by decide +kernel
theorem dX0_forgetBuilding_5 : decode cX0_forgetBuilding 5 = .ok (.if_icmp .ne 8, 3) := by decide +kernel
theorem dX0_forgetBuilding_8 : decode cX0_forgetBuilding 8 = .ok (.aload_n 0, 1) := by decide +kernel
theorem dX0_forgetBuilding_9 : decode cX0_forgetBuilding 9 = .ok (.iconst 0, 1) := by decide +kernel
theorem dX0_forgetBuilding_10 : decode cX0_forgetBuilding 10 = .ok (.putfield 26, 3) := by decide +kernel
theorem dX0_forgetBuilding_13 : decode cX0_forgetBuilding 13 = .ok (.return_, 1) := by decide +kernel
end
section
theorem dX1_init_0 : decode cX1_init 0 = .ok (.aload_n 0, 1) := by decide +kernel
theorem dX1_init_1 : decode cX1_init 1 = .ok (.invokespecial 3, 3) := by decide +kernel
theorem dX1_init_4 : decode cX1_init 4 = .ok (.aload_n 0, 1) := by decide +kernel
theorem dX1_init_5 : decode cX1_init 5 = .ok (.iconst 0, 1) := by decide +kernel
theorem dX1_init_6 : decode cX1_init 6 = .ok (.putfield 9, 3) := by decide +kernel
theorem dX1_init_9 : decode cX1_init 9 = .ok (.aload_n 0, 1) := by decide +kernel
theorem dX1_init_10 : decode cX1_init 10 = .ok (.iconst 0, 1) := by decide +kernel
theorem dX1_init_11 : decode cX1_init 11 = .ok (.putfield 15, 3) := by decide +kernel
theorem dX1_init_14 : decode cX1_init 14 = .ok (.aload_n 0, 1) := by decide +kernel
theorem dX1_init_15 : decode cX1_init 15 = .ok (.iconst 0, 1) := by decide +kernel
theorem dX1_init_16 : decode cX1_init 16 = .ok (.putfield 18, 3) := by decide +kernel
theorem dX1_init_19 : decode cX1_init 19 = .ok (.aload_n 0, 1) := by decide +kernel
theorem dX1_init_20 : decode cX1_init 20 = .ok (.iload_n 1, 1) := by decide +kernel
theorem dX1_init_21 : decode cX1_init 21 = .ok (.bipush 8, 2) := by decide +kernel
theorem dX1_init_23 : decode cX1_init 23 = .ok (.imul, 1) := by decide +kernel
theorem dX1_init_24 : decode cX1_init 24 = .ok (.newarray .int, 2) := by decide +kernel
theorem dX1_init_26 : decode cX1_init 26 = .ok (.putfield 21, 3) := by decide +kernel
theorem dX1_init_29 : decode cX1_init 29 = .ok (.return_, 1) := by decide +kernel
theorem dX1_begin_0 : decode cX1_begin 0 = .ok (.aload_n 0, 1) := by decide +kernel
theorem dX1_begin_1 : decode cX1_begin 1 = .ok (.iload_n 1, 1) := by decide +kernel
theorem dX1_begin_2 : decode cX1_begin 2 = .ok (.putfield 9, 3) := by decide +kernel
theorem dX1_begin_5 : decode cX1_begin 5 = .ok (.aload_n 0, 1) := by decide +kernel
theorem dX1_begin_6 : decode cX1_begin 6 = .ok (.iconst 0, 1) := by decide +kernel
theorem dX1_begin_7 : decode cX1_begin 7 = .ok (.putfield 15, 3) := by decide +kernel
theorem dX1_begin_10 : decode cX1_begin 10 = .ok (.return_, 1) := by decide +kernel
theorem dX1_has_0 : decode cX1_has 0 = .ok (.aload_n 0, 1) := by decide +kernel
theorem dX1_has_1 : decode cX1_has 1 = .ok (.getfield 15, 3) := by decide +kernel
theorem dX1_has_4 : decode cX1_has 4 = .ok (.iload_n 1, 1) := by decide +kernel
theorem dX1_has_5 : decode cX1_has 5 = .ok (.ishr, 1) := by decide +kernel
theorem dX1_has_6 : decode cX1_has 6 = .ok (.iconst 1, 1) := by decide +kernel
theorem dX1_has_7 : decode cX1_has 7 = .ok (.iand, 1) := by decide +kernel
theorem dX1_has_8 : decode cX1_has 8 = .ok (.iconst 1, 1) := by decide +kernel
theorem dX1_has_9 : decode cX1_has 9 = .ok (.if_icmp .ne 7, 3) := by decide +kernel
theorem dX1_has_12 : decode cX1_has 12 = .ok (.iconst 1, 1) := by decide +kernel
theorem dX1_has_13 : decode cX1_has 13 = .ok (.goto 4, 3) := by decide +kernel
theorem dX1_has_16 : decode cX1_has 16 = .ok (.iconst 0, 1) := by decide +kernel
theorem dX1_has_17 : decode cX1_has 17 = .ok (.ireturn, 1) := by decide +kernel
set_option maxRecDepth 20000 in
theorem ggX1_cells_J6_bitCount_0f7a4 : GoodIn wsX1_cells wsJ6_bitCount_0f7a4 := goodIn_r _ [5, 6, 7, 8] (by decide +kernel) (by decide +kernel)
set_option maxRecDepth 20000 in
theorem gX1_cells_J6_bitCount_0f7a4 : GoodIn wsX1_cells (va_wsS RX1 25 yJ6_bitCount_0f7a4 wsJ6_bitCount_0f7a4) := goodIn_app (goodIn_of _ (by decide +kernel)) ggX1_cells_J6_bitCount_0f7a4
theorem dX1_cells_0 : decode cX1_cells 0 = .ok (.aload_n 0, 1) := by decide +kernel
theorem dX1_cells_1 : decode cX1_cells 1 = .ok (.getfield 15, 3) := by decide +kernel
theorem dX1_cells_4 : decode cX1_cells 4 = .ok (.invokestatic 25, 3) := by decide +kernel
theorem dX1_cells_7 : decode cX1_cells 7 = .ok (.iconst 2, 1) := by decide +kernel
theorem dX1_cells_8 : decode cX1_cells 8 = .ok (.iadd, 1) := by decide +kernel
theorem dX1_cells_9 : decode cX1_cells 9 = .ok (.ireturn, 1) := by decide +kernel
theorem dX1_addDatum_0 : decode cX1_addDatum 0 = .ok (.aload_n 0, 1) := by decide +kernel
theorem dX1_addDatum_1 : decode cX1_addDatum 1 = .ok (.dup, 1) := by decide +kernel
theorem dX1_addDatum_2 : decode cX1_addDatum 2 = .ok (.getfield 15, 3) := by decide +kernel
theorem dX1_addDatum_5 : decode cX1_addDatum 5 = .ok (.iconst 1, 1) := by decide +kernel
theorem dX1_addDatum_6 : decode cX1_addDatum 6 = .ok (.iload_n 1, 1) := by decide +kernel
theorem dX1_addDatum_7 : decode cX1_addDatum 7 = .ok (.ishl, 1) := by decide +kernel
theorem dX1_addDatum_8 : decode cX1_addDatum 8 = .ok (.ior, 1) := by decide +kernel
theorem dX1_addDatum_9 : decode cX1_addDatum 9 = .ok (.putfield 15, 3) := by decide +kernel
theorem dX1_addDatum_12 : decode cX1_addDatum 12 = .ok (.iconst 0, 1) := by decide +kernel
theorem dX1_addDatum_13 : decode cX1_addDatum 13 = .ok (.istore_n 3, 1) := by decide +kernel
theorem dX1_addDatum_14 : decode cX1_addDatum 14 = .ok (.iload_n 3, 1) := by decide +kernel
theorem dX1_addDatum_15 : decode cX1_addDatum 15 = .ok (.bipush 8, 2) := by decide +kernel
theorem dX1_addDatum_17 : decode cX1_addDatum 17 = .ok (.if_icmp .ge 23, 3) := by decide +kernel
theorem dX1_addDatum_20 : decode cX1_addDatum 20 = .ok (.aload_n 0, 1) := by decide +kernel
theorem dX1_addDatum_21 : decode cX1_addDatum 21 = .ok (.getfield 21, 3) := by decide +kernel
theorem dX1_addDatum_24 : decode cX1_addDatum 24 = .ok (.iload_n 1, 1) := by decide +kernel
theorem dX1_addDatum_25 : decode cX1_addDatum 25 = .ok (.bipush 8, 2) := by decide +kernel
theorem dX1_addDatum_27 : decode cX1_addDatum 27 = .ok (.imul, 1) := by decide +kernel
theorem dX1_addDatum_28 : decode cX1_addDatum 28 = .ok (.iload_n 3, 1) := by decide +kernel
theorem dX1_addDatum_29 : decode cX1_addDatum 29 = .ok (.iadd, 1) := by decide +kernel
theorem dX1_addDatum_30 : decode cX1_addDatum 30 = .ok (.iload_n 2, 1) := by decide +kernel
theorem dX1_addDatum_31 : decode cX1_addDatum 31 = .ok (.iload_n 3, 1) := by decide +kernel
theorem dX1_addDatum_32 : decode cX1_addDatum 32 = .ok (.iadd, 1) := by decide +kernel
theorem dX1_addDatum_33 : decode cX1_addDatum 33 = .ok (.iastore, 1) := by decide +kernel
theorem dX1_addDatum_34 : decode cX1_addDatum 34 = .ok (.iinc 3 1, 3) := by decide +kernel
theorem dX1_addDatum_37 : decode cX1_addDatum 37 = .ok (.goto (-23), 3) := by decide +kernel
theorem dX1_addDatum_40 : decode cX1_addDatum 40 = .ok (.return_, 1) := by decide +kernel
theorem dX1_addWords_0 : decode cX1_addWords 0 = .ok (.aload_n 0, 1) := by decide +kernel
theorem dX1_addWords_1 : decode cX1_addWords 1 = .ok (.dup, 1) := by decide +kernel
theorem dX1_addWords_2 : decode cX1_addWords 2 = .ok (.getfield 15, 3) := by decide +kernel
theorem dX1_addWords_5 : decode cX1_addWords 5 = .ok (.iconst 1, 1) := by decide +kernel
theorem dX1_addWords_6 : decode cX1_addWords 6 = .ok (.iload_n 1, 1) := by decide +kernel
theorem dX1_addWords_7 : decode cX1_addWords 7 = .ok (.ishl, 1) := by decide +kernel
theorem dX1_addWords_8 : decode cX1_addWords 8 = .ok (.ior, 1) := by decide +kernel
theorem dX1_addWords_9 : decode cX1_addWords 9 = .ok (.putfield 15, 3) := by decide +kernel
theorem dX1_addWords_12 : decode cX1_addWords 12 = .ok (.iconst 0, 1) := by decide +kernel
theorem dX1_addWords_13 : decode cX1_addWords 13 = .ok (.istore_n 3, 1) := by decide +kernel
theorem dX1_addWords_14 : decode cX1_addWords 14 = .ok (.iload_n 3, 1) := by decide +kernel
theorem dX1_addWords_15 : decode cX1_addWords 15 = .ok (.bipush 8, 2) := by decide +kernel
theorem dX1_addWords_17 : decode cX1_addWords 17 = .ok (.if_icmp .ge 23, 3) := by decide +kernel
theorem dX1_addWords_20 : decode cX1_addWords 20 = .ok (.aload_n 0, 1) := by decide +kernel
theorem dX1_addWords_21 : decode cX1_addWords 21 = .ok (.getfield 21, 3) := by decide +kernel
theorem dX1_addWords_24 : decode cX1_addWords 24 = .ok (.iload_n 1, 1) := by decide +kernel
theorem dX1_addWords_25 : decode cX1_addWords 25 = .ok (.bipush 8, 2) := by decide +kernel
theorem dX1_addWords_27 : decode cX1_addWords 27 = .ok (.imul, 1) := by decide +kernel
theorem dX1_addWords_28 : decode cX1_addWords 28 = .ok (.iload_n 3, 1) := by decide +kernel
theorem dX1_addWords_29 : decode cX1_addWords 29 = .ok (.iadd, 1) := by decide +kernel
theorem dX1_addWords_30 : decode cX1_addWords 30 = .ok (.aload_n 2, 1) := by decide +kernel
theorem dX1_addWords_31 : decode cX1_addWords 31 = .ok (.iload_n 3, 1) := by decide +kernel
theorem dX1_addWords_32 : decode cX1_addWords 32 = .ok (.iaload, 1) := by decide +kernel
theorem dX1_addWords_33 : decode cX1_addWords 33 = .ok (.iastore, 1) := by decide +kernel
theorem dX1_addWords_34 : decode cX1_addWords 34 = .ok (.iinc 3 1, 3) := by decide +kernel
theorem dX1_addWords_37 : decode cX1_addWords 37 = .ok (.goto (-23), 3) := by decide +kernel
theorem dX1_addWords_40 : decode cX1_addWords 40 = .ok (.return_, 1) := by decide +kernel
end
section
set_option maxRecDepth 20000 in
theorem ggX2_init_X1_init : GoodIn wsX2_init wsX1_init := goodIn_r _ [14, 15, 2, 3, 16, 17, 18, 19, 20, 27, 28, 29, 30] (by decide +kernel) (by decide +kernel)
set_option maxRecDepth 20000 in
theorem gX2_init_X1_init_n33 : GoodIn wsX2_init (wsX1_init) := ggX2_init_X1_init
theorem dX2_init_0 : decode cX2_init 0 = .ok (.aload_n 0, 1) := by decide +kernel
theorem dX2_init_1 : decode cX2_init 1 = .ok (.invokespecial 3, 3) := by decide +kernel
theorem dX2_init_4 : decode cX2_init 4 = .ok (.aload_n 0, 1) := by decide +kernel
theorem dX2_init_5 : decode cX2_init 5 = .ok (.bipush 11, 2) := by decide +kernel
theorem dX2_init_7 : decode cX2_init 7 = .ok (.anewarray 9, 3) := by decide +kernel
theorem dX2_init_10 : decode cX2_init 10 = .ok (.putfield 11, 3) := by decide +kernel
theorem dX2_init_13 : decode cX2_init 13 = .ok (.aload_n 0, 1) := by decide +kernel
theorem dX2_init_14 : decode cX2_init 14 = .ok (.iconst 0, 1) := by decide +kernel
theorem dX2_init_15 : decode cX2_init 15 = .ok (.putfield 17, 3) := by decide +kernel
theorem dX2_init_18 : decode cX2_init 18 = .ok (.aload_n 0, 1) := by decide +kernel
theorem dX2_init_19 : decode cX2_init 19 = .ok (.iconst 0, 1) := by decide +kernel
theorem dX2_init_20 : decode cX2_init 20 = .ok (.putfield 21, 3) := by decide +kernel
theorem dX2_init_23 : decode cX2_init 23 = .ok (.aload_n 0, 1) := by decide +kernel
theorem dX2_init_24 : decode cX2_init 24 = .ok (.iconst 0, 1) := by decide +kernel
theorem dX2_init_25 : decode cX2_init 25 = .ok (.putfield 24, 3) := by decide +kernel
theorem dX2_init_28 : decode cX2_init 28 = .ok (.aload_n 0, 1) := by decide +kernel
theorem dX2_init_29 : decode cX2_init 29 = .ok (.iconst 0, 1) := by decide +kernel
theorem dX2_init_30 : decode cX2_init 30 = .ok (.putfield 27, 3) := by decide +kernel
theorem dX2_init_33 : decode cX2_init 33 = .ok (.aload_n 0, 1) := by decide +kernel
theorem dX2_init_34 : decode cX2_init 34 = .ok (.iconst 1, 1) := by decide +kernel
theorem dX2_init_35 : decode cX2_init 35 = .ok (.putfield 30, 3) := by decide +kernel
theorem dX2_init_38 : decode cX2_init 38 = .ok (.iconst 0, 1) := by decide +kernel
theorem dX2_init_39 : decode cX2_init 39 = .ok (.istore_n 2, 1) := by decide +kernel
theorem dX2_init_40 : decode cX2_init 40 = .ok (.iload_n 2, 1) := by decide +kernel
theorem dX2_init_41 : decode cX2_init 41 = .ok (.bipush 11, 2) := by decide +kernel
theorem dX2_init_43 : decode cX2_init 43 = .ok (.if_icmp .ge 23, 3) := by decide +kernel
theorem dX2_init_46 : decode cX2_init 46 = .ok (.aload_n 0, 1) := by decide +kernel
theorem dX2_init_47 : decode cX2_init 47 = .ok (.getfield 11, 3) := by decide +kernel
theorem dX2_init_50 : decode cX2_init 50 = .ok (.iload_n 2, 1) := by decide +kernel
theorem dX2_init_51 : decode cX2_init 51 = .ok (.new 9, 3) := by decide +kernel
theorem dX2_init_54 : decode cX2_init 54 = .ok (.dup, 1) := by decide +kernel
theorem dX2_init_55 : decode cX2_init 55 = .ok (.iload_n 1, 1) := by decide +kernel
theorem dX2_init_56 : decode cX2_init 56 = .ok (.invokespecial 33, 3) := by decide +kernel
theorem dX2_init_59 : decode cX2_init 59 = .ok (.aastore, 1) := by decide +kernel
theorem dX2_init_60 : decode cX2_init 60 = .ok (.iinc 2 1, 3) := by decide +kernel
theorem dX2_init_63 : decode cX2_init 63 = .ok (.goto (-23), 3) := by decide +kernel
theorem dX2_init_66 : decode cX2_init 66 = .ok (.return_, 1) := by decide +kernel
theorem dX2_entry_0 : decode cX2_entry 0 = .ok (.aload_n 0, 1) := by decide +kernel
theorem dX2_entry_1 : decode cX2_entry 1 = .ok (.getfield 11, 3) := by decide +kernel
theorem dX2_entry_4 : decode cX2_entry 4 = .ok (.aload_n 0, 1) := by decide +kernel
theorem dX2_entry_5 : decode cX2_entry 5 = .ok (.getfield 17, 3) := by decide +kernel
theorem dX2_entry_8 : decode cX2_entry 8 = .ok (.iload_n 1, 1) := by decide +kernel
theorem dX2_entry_9 : decode cX2_entry 9 = .ok (.iadd, 1) := by decide +kernel
theorem dX2_entry_10 : decode cX2_entry 10 = .ok (.bipush 11, 2) := by decide +kernel
theorem dX2_entry_12 : decode cX2_entry 12 = .ok (.irem, 1) := by decide +kernel
theorem dX2_entry_13 : decode cX2_entry 13 = .ok (.aaload, 1) := by decide +kernel
theorem dX2_entry_14 : decode cX2_entry 14 = .ok (.areturn, 1) := by decide +kernel
set_option maxRecDepth 20000 in
theorem ggX2_made_X2_entry : GoodIn wsX2_made wsX2_entry := goodIn_r _ [6, 7, 8, 9, 10, 11, 12, 13, 14] (by decide +kernel) (by decide +kernel)
set_option maxRecDepth 20000 in
theorem gX2_made_X2_entry : GoodIn wsX2_made (wsV RX2 36 RX2 yX2_entry wsX2_entry) := goodIn_app (goodIn_of _ (by decide +kernel)) ggX2_made_X2_entry
theorem dX2_made_0 : decode cX2_made 0 = .ok (.aload_n 0, 1) := by decide +kernel
theorem dX2_made_1 : decode cX2_made 1 = .ok (.aload_n 0, 1) := by decide +kernel
theorem dX2_made_2 : decode cX2_made 2 = .ok (.getfield 21, 3) := by decide +kernel
theorem dX2_made_5 : decode cX2_made 5 = .ok (.invokevirtual 36, 3) := by decide +kernel
theorem dX2_made_8 : decode cX2_made 8 = .ok (.areturn, 1) := by decide +kernel
set_option maxRecDepth 20000 in
theorem ggX2_addMade_X2_made : GoodIn wsX2_addMade wsX2_made := goodIn_r _ [7, 2, 8, 9, 10, 6, 11, 12, 13, 26, 27, 28, 29, 30, 31] (by decide +kernel) (by decide +kernel)
set_option maxRecDepth 20000 in
theorem gX2_addMade_X2_made : GoodIn wsX2_addMade (wsV RX2 40 RX2 yX2_made wsX2_made) := goodIn_app (goodIn_of _ (by decide +kernel)) ggX2_addMade_X2_made
set_option maxRecDepth 20000 in
theorem ggX2_addMade_X1_cells : GoodIn wsX2_addMade wsX1_cells := goodIn_r _ [17, 18, 19, 20, 21, 22, 23, 24, 25, 32, 33, 34, 35] (by decide +kernel) (by decide +kernel)
set_option maxRecDepth 20000 in
theorem gX2_addMade_X1_cells_n44 : GoodIn wsX2_addMade (wsX1_cells) := ggX2_addMade_X1_cells
theorem dX2_addMade_0 : decode cX2_addMade 0 = .ok (.aload_n 0, 1) := by decide +kernel
theorem dX2_addMade_1 : decode cX2_addMade 1 = .ok (.dup, 1) := by decide +kernel
theorem dX2_addMade_2 : decode cX2_addMade 2 = .ok (.getfield 24, 3) := by decide +kernel
theorem dX2_addMade_5 : decode cX2_addMade 5 = .ok (.aload_n 0, 1) := by decide +kernel
theorem dX2_addMade_6 : decode cX2_addMade 6 = .ok (.invokevirtual 40, 3) := by decide +kernel
theorem dX2_addMade_9 : decode cX2_addMade 9 = .ok (.invokevirtual 44, 3) := by decide +kernel
theorem dX2_addMade_12 : decode cX2_addMade 12 = .ok (.iadd, 1) := by decide +kernel
theorem dX2_addMade_13 : decode cX2_addMade 13 = .ok (.putfield 24, 3) := by decide +kernel
theorem dX2_addMade_16 : decode cX2_addMade 16 = .ok (.aload_n 0, 1) := by decide +kernel
theorem dX2_addMade_17 : decode cX2_addMade 17 = .ok (.dup, 1) := by decide +kernel
theorem dX2_addMade_18 : decode cX2_addMade 18 = .ok (.getfield 21, 3) := by decide +kernel
theorem dX2_addMade_21 : decode cX2_addMade 21 = .ok (.iconst 1, 1) := by decide +kernel
theorem dX2_addMade_22 : decode cX2_addMade 22 = .ok (.iadd, 1) := by decide +kernel
theorem dX2_addMade_23 : decode cX2_addMade 23 = .ok (.putfield 21, 3) := by decide +kernel
theorem dX2_addMade_26 : decode cX2_addMade 26 = .ok (.return_, 1) := by decide +kernel
theorem dX2_freeCells_0 : decode cX2_freeCells 0 = .ok (.bipush 32, 2) := by decide +kernel
theorem dX2_freeCells_2 : decode cX2_freeCells 2 = .ok (.aload_n 0, 1) := by decide +kernel
theorem dX2_freeCells_3 : decode cX2_freeCells 3 = .ok (.getfield 24, 3) := by decide +kernel
theorem dX2_freeCells_6 : decode cX2_freeCells 6 = .ok (.isub, 1) := by decide +kernel
theorem dX2_freeCells_7 : decode cX2_freeCells 7 = .ok (.ireturn, 1) := by decide +kernel
theorem dX2_nextSerial_0 : decode cX2_nextSerial 0 = .ok (.aload_n 0, 1) := by decide +kernel
theorem dX2_nextSerial_1 : decode cX2_nextSerial 1 = .ok (.getfield 30, 3) := by decide +kernel
theorem dX2_nextSerial_4 : decode cX2_nextSerial 4 = .ok (.aload_n 0, 1) := by decide +kernel
theorem dX2_nextSerial_5 : decode cX2_nextSerial 5 = .ok (.getfield 21, 3) := by decide +kernel
theorem dX2_nextSerial_8 : decode cX2_nextSerial 8 = .ok (.iadd, 1) := by decide +kernel
theorem dX2_nextSerial_9 : decode cX2_nextSerial 9 = .ok (.ireturn, 1) := by decide +kernel
set_option maxRecDepth 20000 in
theorem ggX2_latestWith_X2_entry : GoodIn wsX2_latestWith wsX2_entry := goodIn_r _ [6, 7, 8, 14, 15, 16, 17, 18, 19] (by decide +kernel) (by decide +kernel)
set_option maxRecDepth 20000 in
theorem gX2_latestWith_X2_entry : GoodIn wsX2_latestWith (wsV RX2 36 RX2 yX2_entry wsX2_entry) := goodIn_app (goodIn_of _ (by decide +kernel)) ggX2_latestWith_X2_entry
set_option maxRecDepth 20000 in
theorem ggX2_latestWith_X1_has : GoodIn wsX2_latestWith wsX1_has := goodIn_r _ [12, 13, 20, 21, 22, 23] (by decide +kernel) (by decide +kernel)
set_option maxRecDepth 20000 in
theorem gX2_latestWith_X1_has_n51 : GoodIn wsX2_latestWith (wsX1_has) := ggX2_latestWith_X1_has
theorem dX2_latestWith_0 : decode cX2_latestWith 0 = .ok (.aload_n 0, 1) := by decide +kernel
theorem dX2_latestWith_1 : decode cX2_latestWith 1 = .ok (.getfield 21, 3) := by decide +kernel
theorem dX2_latestWith_4 : decode cX2_latestWith 4 = .ok (.iconst 1, 1) := by decide +kernel
theorem dX2_latestWith_5 : decode cX2_latestWith 5 = .ok (.isub, 1) := by decide +kernel
theorem dX2_latestWith_6 : decode cX2_latestWith 6 = .ok (.istore_n 3, 1) := by decide +kernel
theorem dX2_latestWith_7 : decode cX2_latestWith 7 = .ok (.iload_n 3, 1) := by decide +kernel
theorem dX2_latestWith_8 : decode cX2_latestWith 8 = .ok (.ifCond .lt 37, 3) := by decide +kernel
theorem dX2_latestWith_11 : decode cX2_latestWith 11 = .ok (.aload_n 0, 1) := by decide +kernel
theorem dX2_latestWith_12 : decode cX2_latestWith 12 = .ok (.iload_n 3, 1) := by decide +kernel
theorem dX2_latestWith_13 : decode cX2_latestWith 13 = .ok (.invokevirtual 36, 3) := by decide +kernel
theorem dX2_latestWith_16 : decode cX2_latestWith 16 = .ok (.astore 4, 2) := by decide +kernel
theorem dX2_latestWith_18 : decode cX2_latestWith 18 = .ok (.aload 4, 2) := by decide +kernel
theorem dX2_latestWith_20 : decode cX2_latestWith 20 = .ok (.getfield 48, 3) := by decide +kernel
theorem dX2_latestWith_23 : decode cX2_latestWith 23 = .ok (.iload_n 1, 1) := by decide +kernel
theorem dX2_latestWith_24 : decode cX2_latestWith 24 = .ok (.if_icmp .ne 15, 3) := by decide +kernel
theorem dX2_latestWith_27 : decode cX2_latestWith 27 = .ok (.aload 4, 2) := by decide +kernel
theorem dX2_latestWith_29 : decode cX2_latestWith 29 = .ok (.iload_n 2, 1) := by decide +kernel
theorem dX2_latestWith_30 : decode cX2_latestWith 30 = .ok (.invokevirtual 51, 3) := by decide +kernel
theorem dX2_latestWith_33 : decode cX2_latestWith 33 = .ok (.ifCond .eq 6, 3) := by decide +kernel
theorem dX2_latestWith_36 : decode cX2_latestWith 36 = .ok (.aload 4, 2) := by decide +kernel
theorem dX2_latestWith_38 : decode cX2_latestWith 38 = .ok (.areturn, 1) := by decide +kernel
theorem dX2_latestWith_39 : decode cX2_latestWith 39 = .ok (.iinc 3 (-1), 3) := by decide +kernel
theorem dX2_latestWith_42 : decode cX2_latestWith 42 = .ok (.goto (-35), 3) := by decide +kernel
theorem dX2_latestWith_45 : decode cX2_latestWith 45 = .ok (.aconst_null, 1) := by decide +kernel
theorem dX2_latestWith_46 : decode cX2_latestWith 46 = .ok (.areturn, 1) := by decide +kernel
set_option maxRecDepth 20000 in
theorem ggX2_recordsUpTo_X2_entry : GoodIn wsX2_recordsUpTo wsX2_entry := goodIn_r _ [6, 7, 8, 9, 10, 11, 12, 13, 14] (by decide +kernel) (by decide +kernel)
set_option maxRecDepth 20000 in
theorem gX2_recordsUpTo_X2_entry : GoodIn wsX2_recordsUpTo (wsV RX2 36 RX2 yX2_entry wsX2_entry) := goodIn_app (goodIn_of _ (by decide +kernel)) ggX2_recordsUpTo_X2_entry
theorem dX2_recordsUpTo_0 : decode cX2_recordsUpTo 0 = .ok (.iconst 0, 1) := by decide +kernel
theorem dX2_recordsUpTo_1 : decode cX2_recordsUpTo 1 = .ok (.istore_n 2, 1) := by decide +kernel
theorem dX2_recordsUpTo_2 : decode cX2_recordsUpTo 2 = .ok (.iconst 0, 1) := by decide +kernel
theorem dX2_recordsUpTo_3 : decode cX2_recordsUpTo 3 = .ok (.istore_n 3, 1) := by decide +kernel
theorem dX2_recordsUpTo_4 : decode cX2_recordsUpTo 4 = .ok (.iload_n 3, 1) := by decide +kernel
theorem dX2_recordsUpTo_5 : decode cX2_recordsUpTo 5 = .ok (.aload_n 0, 1) := by decide +kernel
theorem dX2_recordsUpTo_6 : decode cX2_recordsUpTo 6 = .ok (.getfield 21, 3) := by decide +kernel
theorem dX2_recordsUpTo_9 : decode cX2_recordsUpTo 9 = .ok (.if_icmp .ge 25, 3) := by decide +kernel
theorem dX2_recordsUpTo_12 : decode cX2_recordsUpTo 12 = .ok (.aload_n 0, 1) := by decide +kernel
theorem dX2_recordsUpTo_13 : decode cX2_recordsUpTo 13 = .ok (.iload_n 3, 1) := by decide +kernel
theorem dX2_recordsUpTo_14 : decode cX2_recordsUpTo 14 = .ok (.invokevirtual 36, 3) := by decide +kernel
theorem dX2_recordsUpTo_17 : decode cX2_recordsUpTo 17 = .ok (.getfield 48, 3) := by decide +kernel
theorem dX2_recordsUpTo_20 : decode cX2_recordsUpTo 20 = .ok (.iload_n 1, 1) := by decide +kernel
theorem dX2_recordsUpTo_21 : decode cX2_recordsUpTo 21 = .ok (.if_icmp .ne 7, 3) := by decide +kernel
theorem dX2_recordsUpTo_24 : decode cX2_recordsUpTo 24 = .ok (.iload_n 3, 1) := by decide +kernel
theorem dX2_recordsUpTo_25 : decode cX2_recordsUpTo 25 = .ok (.iconst 1, 1) := by decide +kernel
theorem dX2_recordsUpTo_26 : decode cX2_recordsUpTo 26 = .ok (.iadd, 1) := by decide +kernel
theorem dX2_recordsUpTo_27 : decode cX2_recordsUpTo 27 = .ok (.istore_n 2, 1) := by decide +kernel
theorem dX2_recordsUpTo_28 : decode cX2_recordsUpTo 28 = .ok (.iinc 3 1, 3) := by decide +kernel
theorem dX2_recordsUpTo_31 : decode cX2_recordsUpTo 31 = .ok (.goto (-27), 3) := by decide +kernel
theorem dX2_recordsUpTo_34 : decode cX2_recordsUpTo 34 = .ok (.iload_n 2, 1) := by decide +kernel
theorem dX2_recordsUpTo_35 : decode cX2_recordsUpTo 35 = .ok (.ireturn, 1) := by decide +kernel
set_option maxRecDepth 20000 in
theorem ggX2_recordsToFree_X2_freeCells : GoodIn wsX2_recordsToFree wsX2_freeCells := goodIn_r _ [6, 7, 26, 27, 28, 29, 30, 31] (by decide +kernel) (by decide +kernel)
set_option maxRecDepth 20000 in
theorem gX2_recordsToFree_X2_freeCells : GoodIn wsX2_recordsToFree (wsV RX2 55 RX2 yX2_freeCells wsX2_freeCells) := goodIn_app (goodIn_of _ (by decide +kernel)) ggX2_recordsToFree_X2_freeCells
set_option maxRecDepth 20000 in
theorem ggX2_recordsToFree_X2_entry : GoodIn wsX2_recordsToFree wsX2_entry := goodIn_r _ [11, 12, 13, 26, 27, 28, 29, 30, 31] (by decide +kernel) (by decide +kernel)
set_option maxRecDepth 20000 in
theorem gX2_recordsToFree_X2_entry : GoodIn wsX2_recordsToFree (wsV RX2 36 RX2 yX2_entry wsX2_entry) := goodIn_app (goodIn_of _ (by decide +kernel)) ggX2_recordsToFree_X2_entry
set_option maxRecDepth 20000 in
theorem ggX2_recordsToFree_X1_cells : GoodIn wsX2_recordsToFree wsX1_cells := goodIn_r _ [17, 18, 19, 20, 21, 22, 23, 24, 25, 32, 33, 34, 35] (by decide +kernel) (by decide +kernel)
set_option maxRecDepth 20000 in
theorem gX2_recordsToFree_X1_cells_n44 : GoodIn wsX2_recordsToFree (wsX1_cells) := ggX2_recordsToFree_X1_cells
theorem dX2_recordsToFree_0 : decode cX2_recordsToFree 0 = .ok (.aload_n 0, 1) := by decide +kernel
theorem dX2_recordsToFree_1 : decode cX2_recordsToFree 1 = .ok (.invokevirtual 55, 3) := by decide +kernel
theorem dX2_recordsToFree_4 : decode cX2_recordsToFree 4 = .ok (.istore_n 2, 1) := by decide +kernel
theorem dX2_recordsToFree_5 : decode cX2_recordsToFree 5 = .ok (.iconst 0, 1) := by decide +kernel
theorem dX2_recordsToFree_6 : decode cX2_recordsToFree 6 = .ok (.istore_n 3, 1) := by decide +kernel
theorem dX2_recordsToFree_7 : decode cX2_recordsToFree 7 = .ok (.iload_n 3, 1) := by decide +kernel
theorem dX2_recordsToFree_8 : decode cX2_recordsToFree 8 = .ok (.aload_n 0, 1) := by decide +kernel
theorem dX2_recordsToFree_9 : decode cX2_recordsToFree 9 = .ok (.getfield 21, 3) := by decide +kernel
theorem dX2_recordsToFree_12 : decode cX2_recordsToFree 12 = .ok (.if_icmp .ge 25, 3) := by decide +kernel
theorem dX2_recordsToFree_15 : decode cX2_recordsToFree 15 = .ok (.iload_n 2, 1) := by decide +kernel
theorem dX2_recordsToFree_16 : decode cX2_recordsToFree 16 = .ok (.iload_n 1, 1) := by decide +kernel
theorem dX2_recordsToFree_17 : decode cX2_recordsToFree 17 = .ok (.if_icmp .ge 20, 3) := by decide +kernel
theorem dX2_recordsToFree_20 : decode cX2_recordsToFree 20 = .ok (.iload_n 2, 1) := by decide +kernel
theorem dX2_recordsToFree_21 : decode cX2_recordsToFree 21 = .ok (.aload_n 0, 1) := by decide +kernel
theorem dX2_recordsToFree_22 : decode cX2_recordsToFree 22 = .ok (.iload_n 3, 1) := by decide +kernel
theorem dX2_recordsToFree_23 : decode cX2_recordsToFree 23 = .ok (.invokevirtual 36, 3) := by decide +kernel
theorem dX2_recordsToFree_26 : decode cX2_recordsToFree 26 = .ok (.invokevirtual 44, 3) := by decide +kernel
theorem dX2_recordsToFree_29 : decode cX2_recordsToFree 29 = .ok (.iadd, 1) := by decide +kernel
theorem dX2_recordsToFree_30 : decode cX2_recordsToFree 30 = .ok (.istore_n 2, 1) := by decide +kernel
theorem dX2_recordsToFree_31 : decode cX2_recordsToFree 31 = .ok (.iinc 3 1, 3) := by decide +kernel
theorem dX2_recordsToFree_34 : decode cX2_recordsToFree 34 = .ok (.goto (-27), 3) := by decide +kernel
theorem dX2_recordsToFree_37 : decode cX2_recordsToFree 37 = .ok (.iload_n 3, 1) := by decide +kernel
theorem dX2_recordsToFree_38 : decode cX2_recordsToFree 38 = .ok (.ireturn, 1) := by decide +kernel
set_option maxRecDepth 20000 in
theorem ggX2_free_X2_entry : GoodIn wsX2_free wsX2_entry := goodIn_r _ [10, 11, 5, 24, 25, 26, 27, 28, 29] (by decide +kernel) (by decide +kernel)
set_option maxRecDepth 20000 in
theorem gX2_free_X2_entry : GoodIn wsX2_free (wsV RX2 36 RX2 yX2_entry wsX2_entry) := goodIn_app (goodIn_of _ (by decide +kernel)) ggX2_free_X2_entry
set_option maxRecDepth 20000 in
theorem ggX2_free_X1_cells : GoodIn wsX2_free wsX1_cells := goodIn_r _ [15, 16, 17, 18, 19, 20, 21, 22, 23, 30, 31, 32, 33] (by decide +kernel) (by decide +kernel)
set_option maxRecDepth 20000 in
theorem gX2_free_X1_cells_n44 : GoodIn wsX2_free (wsX1_cells) := ggX2_free_X1_cells
theorem dX2_free_0 : decode cX2_free 0 = .ok (.iconst 0, 1) := by decide +kernel
theorem dX2_free_1 : decode cX2_free 1 = .ok (.istore_n 2, 1) := by decide +kernel
theorem dX2_free_2 : decode cX2_free 2 = .ok (.iload_n 2, 1) := by decide +kernel
theorem dX2_free_3 : decode cX2_free 3 = .ok (.iload_n 1, 1) := by decide +kernel
theorem dX2_free_4 : decode cX2_free 4 = .ok (.if_icmp .ge 81, 3) := by decide +kernel
theorem dX2_free_7 : decode cX2_free 7 = .ok (.aload_n 0, 1) := by decide +kernel
theorem dX2_free_8 : decode cX2_free 8 = .ok (.getfield 21, 3) := by decide +kernel
theorem dX2_free_11 : decode cX2_free 11 = .ok (.ifCond .le 74, 3) := by decide +kernel
theorem dX2_free_14 : decode cX2_free 14 = .ok (.aload_n 0, 1) := by decide +kernel
theorem dX2_free_15 : decode cX2_free 15 = .ok (.iconst 0, 1) := by decide +kernel
theorem dX2_free_16 : decode cX2_free 16 = .ok (.invokevirtual 36, 3) := by decide +kernel
theorem dX2_free_19 : decode cX2_free 19 = .ok (.invokevirtual 44, 3) := by decide +kernel
theorem dX2_free_22 : decode cX2_free 22 = .ok (.istore_n 3, 1) := by decide +kernel
theorem dX2_free_23 : decode cX2_free 23 = .ok (.aload_n 0, 1) := by decide +kernel
theorem dX2_free_24 : decode cX2_free 24 = .ok (.aload_n 0, 1) := by decide +kernel
theorem dX2_free_25 : decode cX2_free 25 = .ok (.getfield 27, 3) := by decide +kernel
theorem dX2_free_28 : decode cX2_free 28 = .ok (.iload_n 3, 1) := by decide +kernel
theorem dX2_free_29 : decode cX2_free 29 = .ok (.iadd, 1) := by decide +kernel
theorem dX2_free_30 : decode cX2_free 30 = .ok (.bipush 32, 2) := by decide +kernel
theorem dX2_free_32 : decode cX2_free 32 = .ok (.irem, 1) := by decide +kernel
theorem dX2_free_33 : decode cX2_free 33 = .ok (.putfield 27, 3) := by decide +kernel
theorem dX2_free_36 : decode cX2_free 36 = .ok (.aload_n 0, 1) := by decide +kernel
theorem dX2_free_37 : decode cX2_free 37 = .ok (.dup, 1) := by decide +kernel
theorem dX2_free_38 : decode cX2_free 38 = .ok (.getfield 30, 3) := by decide +kernel
theorem dX2_free_41 : decode cX2_free 41 = .ok (.iconst 1, 1) := by decide +kernel
theorem dX2_free_42 : decode cX2_free 42 = .ok (.iadd, 1) := by decide +kernel
theorem dX2_free_43 : decode cX2_free 43 = .ok (.putfield 30, 3) := by decide +kernel
theorem dX2_free_46 : decode cX2_free 46 = .ok (.aload_n 0, 1) := by decide +kernel
theorem dX2_free_47 : decode cX2_free 47 = .ok (.dup, 1) := by decide +kernel
theorem dX2_free_48 : decode cX2_free 48 = .ok (.getfield 24, 3) := by decide +kernel
theorem dX2_free_51 : decode cX2_free 51 = .ok (.iload_n 3, 1) := by decide +kernel
theorem dX2_free_52 : decode cX2_free 52 = .ok (.isub, 1) := by decide +kernel
theorem dX2_free_53 : decode cX2_free 53 = .ok (.putfield 24, 3) := by decide +kernel
theorem dX2_free_56 : decode cX2_free 56 = .ok (.aload_n 0, 1) := by decide +kernel
theorem dX2_free_57 : decode cX2_free 57 = .ok (.aload_n 0, 1) := by decide +kernel
theorem dX2_free_58 : decode cX2_free 58 = .ok (.getfield 17, 3) := by decide +kernel
theorem dX2_free_61 : decode cX2_free 61 = .ok (.iconst 1, 1) := by decide +kernel
theorem dX2_free_62 : decode cX2_free 62 = .ok (.iadd, 1) := by decide +kernel
theorem dX2_free_63 : decode cX2_free 63 = .ok (.bipush 11, 2) := by decide +kernel
theorem dX2_free_65 : decode cX2_free 65 = .ok (.irem, 1) := by decide +kernel
theorem dX2_free_66 : decode cX2_free 66 = .ok (.putfield 17, 3) := by decide +kernel
theorem dX2_free_69 : decode cX2_free 69 = .ok (.aload_n 0, 1) := by decide +kernel
theorem dX2_free_70 : decode cX2_free 70 = .ok (.dup, 1) := by decide +kernel
theorem dX2_free_71 : decode cX2_free 71 = .ok (.getfield 21, 3) := by decide +kernel
theorem dX2_free_74 : decode cX2_free 74 = .ok (.iconst 1, 1) := by decide +kernel
theorem dX2_free_75 : decode cX2_free 75 = .ok (.isub, 1) := by decide +kernel
theorem dX2_free_76 : decode cX2_free 76 = .ok (.putfield 21, 3) := by decide +kernel
theorem dX2_free_79 : decode cX2_free 79 = .ok (.iinc 2 1, 3) := by decide +kernel
theorem dX2_free_82 : decode cX2_free 82 = .ok (.goto (-80), 3) := by decide +kernel
theorem dX2_free_85 : decode cX2_free 85 = .ok (.return_, 1) := by decide +kernel
end
section
set_option maxRecDepth 20000 in
theorem ggX3_init_J9_floorMod_7cf53 : GoodIn wsX3_init wsJ9_floorMod_7cf53 := goodIn_r _ [24] (by decide +kernel) (by decide +kernel)
set_option maxRecDepth 20000 in
theorem gX3_init_J9_floorMod_7cf53 : GoodIn wsX3_init (va_wsS RX3 30 yJ9_floorMod_7cf53 wsJ9_floorMod_7cf53) := goodIn_app (goodIn_of _ (by decide +kernel)) ggX3_init_J9_floorMod_7cf53
set_option maxRecDepth 20000 in
theorem ggX3_init_X0_init : GoodIn wsX3_init wsX0_init := goodIn_r _ [26, 27, 2, 3, 4, 28, 29, 30, 31, 32, 33, 34, 64, 65, 66, 67, 68, 69] (by decide +kernel) (by decide +kernel)
set_option maxRecDepth 20000 in
theorem gX3_init_X0_init_n48 : GoodIn wsX3_init (wsX0_init) := ggX3_init_X0_init
set_option maxRecDepth 20000 in
theorem ggX3_init_X2_init : GoodIn wsX3_init wsX2_init := goodIn_r _ [36, 37, 2, 3, 38, 39, 40, 41, 42, 43, 44, 45, 46, 47, 48, 49, 50, 51, 52, 4, 53, 70, 71, 72, 73, 74, 75, 76, 77, 78, 79] (by decide +kernel) (by decide +kernel)
set_option maxRecDepth 20000 in
theorem gX3_init_X2_init_n51 : GoodIn wsX3_init (wsX2_init) := ggX3_init_X2_init
theorem dX3_init_0 : decode cX3_init 0 = .ok (.aload_n 0, 1) := by decide +kernel
theorem dX3_init_1 : decode cX3_init 1 = .ok (.invokespecial 3, 3) := by decide +kernel
theorem dX3_init_4 : decode cX3_init 4 = .ok (.aload_n 0, 1) := by decide +kernel
theorem dX3_init_5 : decode cX3_init 5 = .ok (.bipush 13, 2) := by decide +kernel
theorem dX3_init_7 : decode cX3_init 7 = .ok (.newarray .int, 2) := by decide +kernel
theorem dX3_init_9 : decode cX3_init 9 = .ok (.putfield 9, 3) := by decide +kernel
theorem dX3_init_12 : decode cX3_init 12 = .ok (.aload_n 0, 1) := by decide +kernel
theorem dX3_init_13 : decode cX3_init 13 = .ok (.bipush 8, 2) := by decide +kernel
theorem dX3_init_15 : decode cX3_init 15 = .ok (.newarray .int, 2) := by decide +kernel
theorem dX3_init_17 : decode cX3_init 17 = .ok (.putfield 13, 3) := by decide +kernel
theorem dX3_init_20 : decode cX3_init 20 = .ok (.aload_n 0, 1) := by decide +kernel
theorem dX3_init_21 : decode cX3_init 21 = .ok (.iconst 0, 1) := by decide +kernel
theorem dX3_init_22 : decode cX3_init 22 = .ok (.putfield 16, 3) := by decide +kernel
theorem dX3_init_25 : decode cX3_init 25 = .ok (.aload_n 0, 1) := by decide +kernel
theorem dX3_init_26 : decode cX3_init 26 = .ok (.iconst (-1), 1) := by decide +kernel
theorem dX3_init_27 : decode cX3_init 27 = .ok (.putfield 20, 3) := by decide +kernel
theorem dX3_init_30 : decode cX3_init 30 = .ok (.aload_n 0, 1) := by decide +kernel
theorem dX3_init_31 : decode cX3_init 31 = .ok (.iconst 0, 1) := by decide +kernel
theorem dX3_init_32 : decode cX3_init 32 = .ok (.putfield 24, 3) := by decide +kernel
theorem dX3_init_35 : decode cX3_init 35 = .ok (.aload_n 0, 1) := by decide +kernel
theorem dX3_init_36 : decode cX3_init 36 = .ok (.iconst 0, 1) := by decide +kernel
theorem dX3_init_37 : decode cX3_init 37 = .ok (.putfield 27, 3) := by decide +kernel
theorem dX3_init_40 : decode cX3_init 40 = .ok (.aload_n 0, 1) := by decide +kernel
theorem dX3_init_41 : decode cX3_init 41 = .ok (.iconst 3, 1) := by decide +kernel
theorem dX3_init_42 : decode cX3_init 42 = .ok (.iload_n 1, 1) := by decide +kernel
theorem dX3_init_43 : decode cX3_init 43 = .ok (.iconst 4, 1) := by decide +kernel
theorem dX3_init_44 : decode cX3_init 44 = .ok (.invokestatic 30, 3) := by decide +kernel
theorem dX3_init_47 : decode cX3_init 47 = .ok (.iadd, 1) := by decide +kernel
theorem dX3_init_48 : decode cX3_init 48 = .ok (.putfield 36, 3) := by decide +kernel
theorem dX3_init_51 : decode cX3_init 51 = .ok (.aload_n 0, 1) := by decide +kernel
theorem dX3_init_52 : decode cX3_init 52 = .ok (.aload_n 0, 1) := by decide +kernel
theorem dX3_init_53 : decode cX3_init 53 = .ok (.getfield 36, 3) := by decide +kernel
theorem dX3_init_56 : decode cX3_init 56 = .ok (.iconst 1, 1) := by decide +kernel
theorem dX3_init_57 : decode cX3_init 57 = .ok (.isub, 1) := by decide +kernel
theorem dX3_init_58 : decode cX3_init 58 = .ok (.putfield 39, 3) := by decide +kernel
theorem dX3_init_61 : decode cX3_init 61 = .ok (.aload_n 0, 1) := by decide +kernel
theorem dX3_init_62 : decode cX3_init 62 = .ok (.aload_n 0, 1) := by decide +kernel
theorem dX3_init_63 : decode cX3_init 63 = .ok (.getfield 36, 3) := by decide +kernel
theorem dX3_init_66 : decode cX3_init 66 = .ok (.anewarray 42, 3) := by decide +kernel
theorem dX3_init_69 : decode cX3_init 69 = .ok (.putfield 44, 3) := by decide +kernel
theorem dX3_init_72 : decode cX3_init 72 = .ok (.iconst 0, 1) := by decide +kernel
theorem dX3_init_73 : decode cX3_init 73 = .ok (.istore_n 2, 1) := by decide +kernel
theorem dX3_init_74 : decode cX3_init 74 = .ok (.iload_n 2, 1) := by decide +kernel
theorem dX3_init_75 : decode cX3_init 75 = .ok (.aload_n 0, 1) := by decide +kernel
theorem dX3_init_76 : decode cX3_init 76 = .ok (.getfield 36, 3) := by decide +kernel
theorem dX3_init_79 : decode cX3_init 79 = .ok (.if_icmp .ge 22, 3) := by decide +kernel
theorem dX3_init_82 : decode cX3_init 82 = .ok (.aload_n 0, 1) := by decide +kernel
theorem dX3_init_83 : decode cX3_init 83 = .ok (.getfield 44, 3) := by decide +kernel
theorem dX3_init_86 : decode cX3_init 86 = .ok (.iload_n 2, 1) := by decide +kernel
theorem dX3_init_87 : decode cX3_init 87 = .ok (.new 42, 3) := by decide +kernel
theorem dX3_init_90 : decode cX3_init 90 = .ok (.dup, 1) := by decide +kernel
theorem dX3_init_91 : decode cX3_init 91 = .ok (.invokespecial 48, 3) := by decide +kernel
theorem dX3_init_94 : decode cX3_init 94 = .ok (.aastore, 1) := by decide +kernel
theorem dX3_init_95 : decode cX3_init 95 = .ok (.iinc 2 1, 3) := by decide +kernel
theorem dX3_init_98 : decode cX3_init 98 = .ok (.goto (-24), 3) := by decide +kernel
theorem dX3_init_101 : decode cX3_init 101 = .ok (.aload_n 0, 1) := by decide +kernel
theorem dX3_init_102 : decode cX3_init 102 = .ok (.new 49, 3) := by decide +kernel
theorem dX3_init_105 : decode cX3_init 105 = .ok (.dup, 1) := by decide +kernel
theorem dX3_init_106 : decode cX3_init 106 = .ok (.aload_n 0, 1) := by decide +kernel
theorem dX3_init_107 : decode cX3_init 107 = .ok (.getfield 36, 3) := by decide +kernel
theorem dX3_init_110 : decode cX3_init 110 = .ok (.invokespecial 51, 3) := by decide +kernel
theorem dX3_init_113 : decode cX3_init 113 = .ok (.putfield 54, 3) := by decide +kernel
theorem dX3_init_116 : decode cX3_init 116 = .ok (.return_, 1) := by decide +kernel
theorem dX3_members_0 : decode cX3_members 0 = .ok (.aload_n 0, 1) := by decide +kernel
theorem dX3_members_1 : decode cX3_members 1 = .ok (.getfield 36, 3) := by decide +kernel
theorem dX3_members_4 : decode cX3_members 4 = .ok (.ireturn, 1) := by decide +kernel
set_option maxRecDepth 20000 in
theorem ggX3_place_X3_isBlock : GoodIn wsX3_place wsX3_isBlock := goodIn_r _ [6, 1, 16, 17, 18, 19, 20, 21, 22, 23, 24, 25] (by decide +kernel) (by decide +kernel)
set_option maxRecDepth 20000 in
theorem gX3_place_X3_isBlock : GoodIn wsX3_place (wsV RX3 58 RX3 yX3_isBlock wsX3_isBlock) := goodIn_app (goodIn_of _ (by decide +kernel)) ggX3_place_X3_isBlock
set_option maxRecDepth 20000 in
theorem ggX3_place_X3_memberOf : GoodIn wsX3_place wsX3_memberOf := goodIn_r _ [10, 11, 12, 13, 14, 5, 15, 16, 17, 18, 19, 20, 21, 22, 23, 24, 25] (by decide +kernel) (by decide +kernel)
set_option maxRecDepth 20000 in
theorem gX3_place_X3_memberOf : GoodIn wsX3_place (wsV RX3 62 RX3 yX3_memberOf wsX3_memberOf) := goodIn_app (goodIn_of _ (by decide +kernel)) ggX3_place_X3_memberOf
set_option maxRecDepth 20000 in
theorem ggX3_place_X3_parityMember : GoodIn wsX3_place wsX3_parityMember := goodIn_r _ [15, 11, 16, 17, 18, 19, 20, 21, 22, 23, 24, 25] (by decide +kernel) (by decide +kernel)
set_option maxRecDepth 20000 in
theorem gX3_place_X3_parityMember : GoodIn wsX3_place (wsV RX3 65 RX3 yX3_parityMember wsX3_parityMember) := goodIn_app (goodIn_of _ (by decide +kernel)) ggX3_place_X3_parityMember
theorem dX3_place_0 : decode cX3_place 0 = .ok (.aload_n 0, 1) := by decide +kernel
theorem dX3_place_1 : decode cX3_place 1 = .ok (.iload_n 1, 1) := by decide +kernel
theorem dX3_place_2 : decode cX3_place 2 = .ok (.invokevirtual 58, 3) := by decide +kernel
theorem dX3_place_5 : decode cX3_place 5 = .ok (.ifCond .ne 6, 3) := by decide +kernel
theorem dX3_place_8 : decode cX3_place 8 = .ok (.bipush (-101), 2) := by decide +kernel
theorem dX3_place_10 : decode cX3_place 10 = .ok (.ireturn, 1) := by decide +kernel
theorem dX3_place_11 : decode cX3_place 11 = .ok (.iload_n 1, 1) := by decide +kernel
theorem dX3_place_12 : decode cX3_place 12 = .ok (.aload_n 0, 1) := by decide +kernel
theorem dX3_place_13 : decode cX3_place 13 = .ok (.getfield 39, 3) := by decide +kernel
theorem dX3_place_16 : decode cX3_place 16 = .ok (.idiv, 1) := by decide +kernel
theorem dX3_place_17 : decode cX3_place 17 = .ok (.istore_n 3, 1) := by decide +kernel
theorem dX3_place_18 : decode cX3_place 18 = .ok (.iload_n 2, 1) := by decide +kernel
theorem dX3_place_19 : decode cX3_place 19 = .ok (.tableswitch 45 0 2 #[25, 27, 39], 25) := by decide +kernel
theorem dX3_place_44 : decode cX3_place 44 = .ok (.iload_n 3, 1) := by decide +kernel
theorem dX3_place_45 : decode cX3_place 45 = .ok (.ireturn, 1) := by decide +kernel
theorem dX3_place_46 : decode cX3_place 46 = .ok (.aload_n 0, 1) := by decide +kernel
theorem dX3_place_47 : decode cX3_place 47 = .ok (.iload_n 3, 1) := by decide +kernel
theorem dX3_place_48 : decode cX3_place 48 = .ok (.iload_n 1, 1) := by decide +kernel
theorem dX3_place_49 : decode cX3_place 49 = .ok (.aload_n 0, 1) := by decide +kernel
theorem dX3_place_50 : decode cX3_place 50 = .ok (.getfield 39, 3) := by decide +kernel
theorem dX3_place_53 : decode cX3_place 53 = .ok (.irem, 1) := by decide +kernel
theorem dX3_place_54 : decode cX3_place 54 = .ok (.invokevirtual 62, 3) := by decide +kernel
theorem dX3_place_57 : decode cX3_place 57 = .ok (.ireturn, 1) := by decide +kernel
theorem dX3_place_58 : decode cX3_place 58 = .ok (.aload_n 0, 1) := by decide +kernel
theorem dX3_place_59 : decode cX3_place 59 = .ok (.iload_n 3, 1) := by decide +kernel
theorem dX3_place_60 : decode cX3_place 60 = .ok (.invokevirtual 65, 3) := by decide +kernel
theorem dX3_place_63 : decode cX3_place 63 = .ok (.ireturn, 1) := by decide +kernel
theorem dX3_place_64 : decode cX3_place 64 = .ok (.bipush (-102), 2) := by decide +kernel
theorem dX3_place_66 : decode cX3_place 66 = .ok (.ireturn, 1) := by decide +kernel
set_option maxRecDepth 20000 in
theorem ggX3_write_X3_isBlock : GoodIn wsX3_write wsX3_isBlock := goodIn_r _ [14, 2, 176, 177, 178, 179, 180, 181, 182, 183, 184, 185] (by decide +kernel) (by decide +kernel)
set_option maxRecDepth 20000 in
theorem gX3_write_X3_isBlock : GoodIn wsX3_write (wsV RX3 58 RX3 yX3_isBlock wsX3_isBlock) := goodIn_app (goodIn_of _ (by decide +kernel)) ggX3_write_X3_isBlock
set_option maxRecDepth 20000 in
theorem ggX3_write_X3_writeStripe : GoodIn wsX3_write wsX3_writeStripe := goodIn_r _ [18, 19, 2, 20, 21, 22, 23, 24, 25, 26, 27, 28, 29, 30, 31, 32, 33, 34, 35, 36, 37, 38, 39, 40, 41, 42, 43, 44, 13, 45, 46, 47, 48, 49, 50, 51, 52, 53, 54, 55, 56, 57, 58, 59, 60, 61, 62, 63, 64, 65, 66, 67, 68, 69, 70, 71, 72, 73, 74, 75, 76, 77, 78, 79, 80, 81, 82, 83, 84, 85, 86, 87, 88, 89, 90, 91, 92, 93, 94, 95, 96, 97, 98, 99, 100, 101, 102, 103, 104, 105, 106, 107, 108, 109, 110, 111, 112, 113, 114, 115, 116, 117, 118, 119, 120, 121, 122, 123, 124, 125, 126, 127, 128, 129, 130, 131, 132, 133, 134, 135, 136, 137, 138, 139, 140, 141, 142, 143, 144, 145, 146, 147, 148, 149, 1, 150, 151, 152, 153, 154, 155, 156, 157, 158, 159, 160, 161, 162, 163, 164, 165, 166, 167, 168, 169, 170, 171, 172, 173, 174, 175, 176, 177, 178, 179, 180, 181, 182, 183, 184, 185, 186, 187, 188, 189, 190, 191, 192, 193, 194, 195, 196, 197, 198, 199, 200, 201] (by decide +kernel) (by decide +kernel)
set_option maxRecDepth 20000 in
theorem gX3_write_X3_writeStripe : GoodIn wsX3_write (wsV RX3 75 RX3 yX3_writeStripe wsX3_writeStripe) := goodIn_app (goodIn_of _ (by decide +kernel)) ggX3_write_X3_writeStripe
theorem dX3_write_0 : decode cX3_write 0 = .ok (.aload_n 0, 1) := by decide +kernel
theorem dX3_write_1 : decode cX3_write 1 = .ok (.getfield 16, 3) := by decide +kernel
theorem dX3_write_4 : decode cX3_write 4 = .ok (.ifCond .eq 6, 3) := by decide +kernel
theorem dX3_write_7 : decode cX3_write 7 = .ok (.bipush (-100), 2) := by decide +kernel
theorem dX3_write_9 : decode cX3_write 9 = .ok (.ireturn, 1) := by decide +kernel
theorem dX3_write_10 : decode cX3_write 10 = .ok (.aload_n 0, 1) := by decide +kernel
theorem dX3_write_11 : decode cX3_write 11 = .ok (.iload_n 1, 1) := by decide +kernel
theorem dX3_write_12 : decode cX3_write 12 = .ok (.invokevirtual 58, 3) := by decide +kernel
theorem dX3_write_15 : decode cX3_write 15 = .ok (.ifCond .ne 6, 3) := by decide +kernel
theorem dX3_write_18 : decode cX3_write 18 = .ok (.bipush (-101), 2) := by decide +kernel
theorem dX3_write_20 : decode cX3_write 20 = .ok (.ireturn, 1) := by decide +kernel
theorem dX3_write_21 : decode cX3_write 21 = .ok (.iload_n 2, 1) := by decide +kernel
theorem dX3_write_22 : decode cX3_write 22 = .ok (.iconst 1, 1) := by decide +kernel
theorem dX3_write_23 : decode cX3_write 23 = .ok (.if_icmp .lt 13, 3) := by decide +kernel
theorem dX3_write_26 : decode cX3_write 26 = .ok (.iload_n 2, 1) := by decide +kernel
theorem dX3_write_27 : decode cX3_write 27 = .ok (.iconst 2, 1) := by decide +kernel
theorem dX3_write_28 : decode cX3_write 28 = .ok (.aload_n 0, 1) := by decide +kernel
theorem dX3_write_29 : decode cX3_write 29 = .ok (.getfield 39, 3) := by decide +kernel
theorem dX3_write_32 : decode cX3_write 32 = .ok (.imul, 1) := by decide +kernel
theorem dX3_write_33 : decode cX3_write 33 = .ok (.if_icmp .le 6, 3) := by decide +kernel
theorem dX3_write_36 : decode cX3_write 36 = .ok (.bipush (-102), 2) := by decide +kernel
theorem dX3_write_38 : decode cX3_write 38 = .ok (.ireturn, 1) := by decide +kernel
theorem dX3_write_39 : decode cX3_write 39 = .ok (.iload_n 1, 1) := by decide +kernel
theorem dX3_write_40 : decode cX3_write 40 = .ok (.iload_n 2, 1) := by decide +kernel
theorem dX3_write_41 : decode cX3_write 41 = .ok (.iadd, 1) := by decide +kernel
theorem dX3_write_42 : decode cX3_write 42 = .ok (.iconst 1, 1) := by decide +kernel
theorem dX3_write_43 : decode cX3_write 43 = .ok (.isub, 1) := by decide +kernel
theorem dX3_write_44 : decode cX3_write 44 = .ok (.istore 4, 2) := by decide +kernel
theorem dX3_write_46 : decode cX3_write 46 = .ok (.aload_n 0, 1) := by decide +kernel
theorem dX3_write_47 : decode cX3_write 47 = .ok (.iload 4, 2) := by decide +kernel
theorem dX3_write_49 : decode cX3_write 49 = .ok (.invokevirtual 58, 3) := by decide +kernel
theorem dX3_write_52 : decode cX3_write 52 = .ok (.ifCond .ne 6, 3) := by decide +kernel
theorem dX3_write_55 : decode cX3_write 55 = .ok (.bipush (-101), 2) := by decide +kernel
theorem dX3_write_57 : decode cX3_write 57 = .ok (.ireturn, 1) := by decide +kernel
theorem dX3_write_58 : decode cX3_write 58 = .ok (.iload_n 1, 1) := by decide +kernel
theorem dX3_write_59 : decode cX3_write 59 = .ok (.aload_n 0, 1) := by decide +kernel
theorem dX3_write_60 : decode cX3_write 60 = .ok (.getfield 39, 3) := by decide +kernel
theorem dX3_write_63 : decode cX3_write 63 = .ok (.idiv, 1) := by decide +kernel
theorem dX3_write_64 : decode cX3_write 64 = .ok (.istore 5, 2) := by decide +kernel
theorem dX3_write_66 : decode cX3_write 66 = .ok (.iload 5, 2) := by decide +kernel
theorem dX3_write_68 : decode cX3_write 68 = .ok (.iload 4, 2) := by decide +kernel
theorem dX3_write_70 : decode cX3_write 70 = .ok (.aload_n 0, 1) := by decide +kernel
theorem dX3_write_71 : decode cX3_write 71 = .ok (.getfield 39, 3) := by decide +kernel
theorem dX3_write_74 : decode cX3_write 74 = .ok (.idiv, 1) := by decide +kernel
theorem dX3_write_75 : decode cX3_write 75 = .ok (.if_icmp .gt 72, 3) := by decide +kernel
theorem dX3_write_78 : decode cX3_write 78 = .ok (.iload_n 1, 1) := by decide +kernel
theorem dX3_write_79 : decode cX3_write 79 = .ok (.iload 5, 2) := by decide +kernel
theorem dX3_write_81 : decode cX3_write 81 = .ok (.aload_n 0, 1) := by decide +kernel
theorem dX3_write_82 : decode cX3_write 82 = .ok (.getfield 39, 3) := by decide +kernel
theorem dX3_write_85 : decode cX3_write 85 = .ok (.imul, 1) := by decide +kernel
theorem dX3_write_86 : decode cX3_write 86 = .ok (.invokestatic 69, 3) := by decide +kernel
theorem dX3_write_89 : decode cX3_write 89 = .ok (.istore 6, 2) := by decide +kernel
theorem dX3_write_91 : decode cX3_write 91 = .ok (.iload 4, 2) := by decide +kernel
theorem dX3_write_93 : decode cX3_write 93 = .ok (.iload 5, 2) := by decide +kernel
theorem dX3_write_95 : decode cX3_write 95 = .ok (.aload_n 0, 1) := by decide +kernel
theorem dX3_write_96 : decode cX3_write 96 = .ok (.getfield 39, 3) := by decide +kernel
theorem dX3_write_99 : decode cX3_write 99 = .ok (.imul, 1) := by decide +kernel
theorem dX3_write_100 : decode cX3_write 100 = .ok (.aload_n 0, 1) := by decide +kernel
theorem dX3_write_101 : decode cX3_write 101 = .ok (.getfield 39, 3) := by decide +kernel
theorem dX3_write_104 : decode cX3_write 104 = .ok (.iadd, 1) := by decide +kernel
theorem dX3_write_105 : decode cX3_write 105 = .ok (.iconst 1, 1) := by decide +kernel
theorem dX3_write_106 : decode cX3_write 106 = .ok (.isub, 1) := by decide +kernel
theorem dX3_write_107 : decode cX3_write 107 = .ok (.invokestatic 72, 3) := by decide +kernel
theorem dX3_write_110 : decode cX3_write 110 = .ok (.istore 7, 2) := by decide +kernel
theorem dX3_write_112 : decode cX3_write 112 = .ok (.aload_n 0, 1) := by decide +kernel
theorem dX3_write_113 : decode cX3_write 113 = .ok (.iload 5, 2) := by decide +kernel
theorem dX3_write_115 : decode cX3_write 115 = .ok (.iload 6, 2) := by decide +kernel
theorem dX3_write_117 : decode cX3_write 117 = .ok (.iload 7, 2) := by decide +kernel
theorem dX3_write_119 : decode cX3_write 119 = .ok (.iload_n 3, 1) := by decide +kernel
theorem dX3_write_120 : decode cX3_write 120 = .ok (.bipush 8, 2) := by decide +kernel
theorem dX3_write_122 : decode cX3_write 122 = .ok (.iload 6, 2) := by decide +kernel
theorem dX3_write_124 : decode cX3_write 124 = .ok (.iload_n 1, 1) := by decide +kernel
theorem dX3_write_125 : decode cX3_write 125 = .ok (.isub, 1) := by decide +kernel
theorem dX3_write_126 : decode cX3_write 126 = .ok (.imul, 1) := by decide +kernel
theorem dX3_write_127 : decode cX3_write 127 = .ok (.iadd, 1) := by decide +kernel
theorem dX3_write_128 : decode cX3_write 128 = .ok (.invokevirtual 75, 3) := by decide +kernel
theorem dX3_write_131 : decode cX3_write 131 = .ok (.istore 8, 2) := by decide +kernel
theorem dX3_write_133 : decode cX3_write 133 = .ok (.iload 8, 2) := by decide +kernel
theorem dX3_write_135 : decode cX3_write 135 = .ok (.ifCond .eq 6, 3) := by decide +kernel
theorem dX3_write_138 : decode cX3_write 138 = .ok (.iload 8, 2) := by decide +kernel
theorem dX3_write_140 : decode cX3_write 140 = .ok (.ireturn, 1) := by decide +kernel
theorem dX3_write_141 : decode cX3_write 141 = .ok (.iinc 5 1, 3) := by decide +kernel
theorem dX3_write_144 : decode cX3_write 144 = .ok (.goto (-78), 3) := by decide +kernel
theorem dX3_write_147 : decode cX3_write 147 = .ok (.iload_n 2, 1) := by decide +kernel
theorem dX3_write_148 : decode cX3_write 148 = .ok (.ireturn, 1) := by decide +kernel
set_option maxRecDepth 20000 in
theorem ggX3_look_X3_isBlock : GoodIn wsX3_look wsX3_isBlock := goodIn_r _ [7, 2, 62, 63, 64, 65, 66, 67, 68, 69, 70, 71] (by decide +kernel) (by decide +kernel)
set_option maxRecDepth 20000 in
theorem gX3_look_X3_isBlock : GoodIn wsX3_look (wsV RX3 58 RX3 yX3_isBlock wsX3_isBlock) := goodIn_app (goodIn_of _ (by decide +kernel)) ggX3_look_X3_isBlock
set_option maxRecDepth 20000 in
theorem ggX3_look_X3_sourceOf : GoodIn wsX3_look wsX3_sourceOf := goodIn_r _ [11, 12, 13, 14, 15, 16, 17, 18, 19, 20, 21, 22, 23, 24, 25, 26, 27, 28, 29, 30, 31, 32, 6, 33, 34, 35, 36, 37, 38, 39, 40, 41, 42, 43, 44, 45, 46, 47, 48, 49, 50, 51, 52, 53, 54, 55, 56, 57, 58, 59, 60, 61, 62, 63, 64, 65, 66, 67, 68, 69, 70, 71, 72, 73, 74, 75, 76, 77, 78, 79, 80, 81, 82, 83, 84, 85, 86, 87] (by decide +kernel) (by decide +kernel)
set_option maxRecDepth 20000 in
theorem gX3_look_X3_sourceOf : GoodIn wsX3_look (wsV RX3 79 RX3 yX3_sourceOf wsX3_sourceOf) := goodIn_app (goodIn_of _ (by decide +kernel)) ggX3_look_X3_sourceOf
theorem dX3_look_0 : decode cX3_look 0 = .ok (.aload_n 0, 1) := by decide +kernel
theorem dX3_look_1 : decode cX3_look 1 = .ok (.getfield 16, 3) := by decide +kernel
theorem dX3_look_4 : decode cX3_look 4 = .ok (.ifCond .eq 6, 3) := by decide +kernel
theorem dX3_look_7 : decode cX3_look 7 = .ok (.bipush (-100), 2) := by decide +kernel
theorem dX3_look_9 : decode cX3_look 9 = .ok (.ireturn, 1) := by decide +kernel
theorem dX3_look_10 : decode cX3_look 10 = .ok (.aload_n 0, 1) := by decide +kernel
theorem dX3_look_11 : decode cX3_look 11 = .ok (.iload_n 1, 1) := by decide +kernel
theorem dX3_look_12 : decode cX3_look 12 = .ok (.invokevirtual 58, 3) := by decide +kernel
theorem dX3_look_15 : decode cX3_look 15 = .ok (.ifCond .ne 6, 3) := by decide +kernel
theorem dX3_look_18 : decode cX3_look 18 = .ok (.bipush (-101), 2) := by decide +kernel
theorem dX3_look_20 : decode cX3_look 20 = .ok (.ireturn, 1) := by decide +kernel
theorem dX3_look_21 : decode cX3_look 21 = .ok (.aload_n 0, 1) := by decide +kernel
theorem dX3_look_22 : decode cX3_look 22 = .ok (.iload_n 1, 1) := by decide +kernel
theorem dX3_look_23 : decode cX3_look 23 = .ok (.aload_n 0, 1) := by decide +kernel
theorem dX3_look_24 : decode cX3_look 24 = .ok (.getfield 39, 3) := by decide +kernel
theorem dX3_look_27 : decode cX3_look 27 = .ok (.idiv, 1) := by decide +kernel
theorem dX3_look_28 : decode cX3_look 28 = .ok (.iload_n 1, 1) := by decide +kernel
theorem dX3_look_29 : decode cX3_look 29 = .ok (.aload_n 0, 1) := by decide +kernel
theorem dX3_look_30 : decode cX3_look 30 = .ok (.getfield 39, 3) := by decide +kernel
theorem dX3_look_33 : decode cX3_look 33 = .ok (.irem, 1) := by decide +kernel
theorem dX3_look_34 : decode cX3_look 34 = .ok (.invokevirtual 79, 3) := by decide +kernel
theorem dX3_look_37 : decode cX3_look 37 = .ok (.ireturn, 1) := by decide +kernel
theorem dX3_word_0 : decode cX3_word 0 = .ok (.aload_n 0, 1) := by decide +kernel
theorem dX3_word_1 : decode cX3_word 1 = .ok (.iload_n 1, 1) := by decide +kernel
theorem dX3_word_2 : decode cX3_word 2 = .ok (.invokevirtual 58, 3) := by decide +kernel
theorem dX3_word_5 : decode cX3_word 5 = .ok (.ifCond .eq 13, 3) := by decide +kernel
theorem dX3_word_8 : decode cX3_word 8 = .ok (.iload_n 2, 1) := by decide +kernel
theorem dX3_word_9 : decode cX3_word 9 = .ok (.ifCond .lt 9, 3) := by decide +kernel
theorem dX3_word_12 : decode cX3_word 12 = .ok (.iload_n 2, 1) := by decide +kernel
theorem dX3_word_13 : decode cX3_word 13 = .ok (.bipush 8, 2) := by decide +kernel
theorem dX3_word_15 : decode cX3_word 15 = .ok (.if_icmp .lt 13, 3) := by decide +kernel
theorem dX3_word_18 : decode cX3_word 18 = .ok (.new 82, 3) := by decide +kernel
theorem dX3_word_21 : decode cX3_word 21 = .ok (.dup, 1) := by decide +kernel
theorem dX3_word_22 : decode cX3_word 22 = .ok (.ldc 84, 2) := by decide +kernel
theorem dX3_word_24 : decode cX3_word 24 = .ok (.invokespecial 86, 3) := by decide +kernel
theorem dX3_word_27 : decode cX3_word 27 = .ok (.athrow, 1) := by decide +kernel
theorem dX3_word_28 : decode cX3_word 28 = .ok (.aload_n 0, 1) := by decide +kernel
theorem dX3_word_29 : decode cX3_word 29 = .ok (.getfield 16, 3) := by decide +kernel
theorem dX3_word_32 : decode cX3_word 32 = .ok (.ifCond .eq 13, 3) := by decide +kernel
theorem dX3_word_35 : decode cX3_word 35 = .ok (.new 89, 3) := by decide +kernel
theorem dX3_word_38 : decode cX3_word 38 = .ok (.dup, 1) := by decide +kernel
theorem dX3_word_39 : decode cX3_word 39 = .ok (.ldc 91, 2) := by decide +kernel
theorem dX3_word_41 : decode cX3_word 41 = .ok (.invokespecial 93, 3) := by decide +kernel
theorem dX3_word_44 : decode cX3_word 44 = .ok (.athrow, 1) := by decide +kernel
theorem dX3_word_45 : decode cX3_word 45 = .ok (.iload_n 1, 1) := by decide +kernel
theorem dX3_word_46 : decode cX3_word 46 = .ok (.aload_n 0, 1) := by decide +kernel
theorem dX3_word_47 : decode cX3_word 47 = .ok (.getfield 39, 3) := by decide +kernel
theorem dX3_word_50 : decode cX3_word 50 = .ok (.idiv, 1) := by decide +kernel
theorem dX3_word_51 : decode cX3_word 51 = .ok (.istore_n 3, 1) := by decide +kernel
theorem dX3_word_52 : decode cX3_word 52 = .ok (.iload_n 1, 1) := by decide +kernel
theorem dX3_word_53 : decode cX3_word 53 = .ok (.aload_n 0, 1) := by decide +kernel
theorem dX3_word_54 : decode cX3_word 54 = .ok (.getfield 39, 3) := by decide +kernel
theorem dX3_word_57 : decode cX3_word 57 = .ok (.irem, 1) := by decide +kernel
theorem dX3_word_58 : decode cX3_word 58 = .ok (.istore 4, 2) := by decide +kernel
theorem dX3_word_60 : decode cX3_word 60 = .ok (.aload_n 0, 1) := by decide +kernel
theorem dX3_word_61 : decode cX3_word 61 = .ok (.iload_n 3, 1) := by decide +kernel
theorem dX3_word_62 : decode cX3_word 62 = .ok (.iload 4, 2) := by decide +kernel
theorem dX3_word_64 : decode cX3_word 64 = .ok (.invokevirtual 79, 3) := by decide +kernel
theorem dX3_word_67 : decode cX3_word 67 = .ok (.istore 5, 2) := by decide +kernel
theorem dX3_word_69 : decode cX3_word 69 = .ok (.iload 5, 2) := by decide +kernel
theorem dX3_word_71 : decode cX3_word 71 = .ok (.iconst 3, 1) := by decide +kernel
theorem dX3_word_72 : decode cX3_word 72 = .ok (.if_icmp .ne 13, 3) := by decide +kernel
theorem dX3_word_75 : decode cX3_word 75 = .ok (.new 89, 3) := by decide +kernel
theorem dX3_word_78 : decode cX3_word 78 = .ok (.dup, 1) := by decide +kernel
theorem dX3_word_79 : decode cX3_word 79 = .ok (.ldc 94, 2) := by decide +kernel
theorem dX3_word_81 : decode cX3_word 81 = .ok (.invokespecial 93, 3) := by decide +kernel
theorem dX3_word_84 : decode cX3_word 84 = .ok (.athrow, 1) := by decide +kernel
theorem dX3_word_85 : decode cX3_word 85 = .ok (.aload_n 0, 1) := by decide +kernel
theorem dX3_word_86 : decode cX3_word 86 = .ok (.invokevirtual 96, 3) := by decide +kernel
theorem dX3_word_89 : decode cX3_word 89 = .ok (.iload 5, 2) := by decide +kernel
theorem dX3_word_91 : decode cX3_word 91 = .ok (.iconst 2, 1) := by decide +kernel
theorem dX3_word_92 : decode cX3_word 92 = .ok (.if_icmp .ne 18, 3) := by decide +kernel
theorem dX3_word_95 : decode cX3_word 95 = .ok (.aload_n 0, 1) := by decide +kernel
theorem dX3_word_96 : decode cX3_word 96 = .ok (.aload_n 0, 1) := by decide +kernel
theorem dX3_word_97 : decode cX3_word 97 = .ok (.iload_n 3, 1) := by decide +kernel
theorem dX3_word_98 : decode cX3_word 98 = .ok (.iload 4, 2) := by decide +kernel
theorem dX3_word_100 : decode cX3_word 100 = .ok (.invokevirtual 62, 3) := by decide +kernel
theorem dX3_word_103 : decode cX3_word 103 = .ok (.iload_n 3, 1) := by decide +kernel
theorem dX3_word_104 : decode cX3_word 104 = .ok (.invokevirtual 99, 3) := by decide +kernel
theorem dX3_word_107 : decode cX3_word 107 = .ok (.goto 11, 3) := by decide +kernel
theorem dX3_word_110 : decode cX3_word 110 = .ok (.aload_n 0, 1) := by decide +kernel
theorem dX3_word_111 : decode cX3_word 111 = .ok (.iload_n 3, 1) := by decide +kernel
theorem dX3_word_112 : decode cX3_word 112 = .ok (.iload 4, 2) := by decide +kernel
theorem dX3_word_114 : decode cX3_word 114 = .ok (.invokevirtual 103, 3) := by decide +kernel
theorem dX3_word_117 : decode cX3_word 117 = .ok (.pop, 1) := by decide +kernel
theorem dX3_word_118 : decode cX3_word 118 = .ok (.aload_n 0, 1) := by decide +kernel
theorem dX3_word_119 : decode cX3_word 119 = .ok (.getfield 13, 3) := by decide +kernel
theorem dX3_word_122 : decode cX3_word 122 = .ok (.iload_n 2, 1) := by decide +kernel
theorem dX3_word_123 : decode cX3_word 123 = .ok (.iaload, 1) := by decide +kernel
theorem dX3_word_124 : decode cX3_word 124 = .ok (.ireturn, 1) := by decide +kernel
set_option maxRecDepth 20000 in
theorem ggX3_drain_X3_drainOldest : GoodIn wsX3_drain wsX3_drainOldest := goodIn_r _ [11, 2, 12, 13, 14, 15, 16, 17, 18, 19, 20, 21, 10, 22, 23, 24, 25, 26, 27, 28, 29, 30, 31, 32, 33, 34, 35, 36, 37, 38, 39, 40, 41, 42, 43, 44, 45, 46, 47, 48, 49, 50, 51, 52, 1, 53, 54, 55, 56, 57, 58, 59, 60, 61, 62, 63, 64, 65, 66, 67, 68, 69, 70, 71, 72, 73, 74, 75, 76, 77, 78, 79, 80, 81, 82, 83, 84, 85, 86, 87, 88, 89, 90, 91, 92, 93, 94, 95, 96, 97, 98, 99, 100, 101, 102, 103, 104, 105, 106, 107, 108, 109, 110, 111, 112, 113, 114, 115] (by decide +kernel) (by decide +kernel)
set_option maxRecDepth 20000 in
theorem gX3_drain_X3_drainOldest : GoodIn wsX3_drain (wsV RX3 110 RX3 yX3_drainOldest wsX3_drainOldest) := goodIn_app (goodIn_of _ (by decide +kernel)) ggX3_drain_X3_drainOldest
theorem dX3_drain_0 : decode cX3_drain 0 = .ok (.aload_n 0, 1) := by decide +kernel
theorem dX3_drain_1 : decode cX3_drain 1 = .ok (.getfield 16, 3) := by decide +kernel
theorem dX3_drain_4 : decode cX3_drain 4 = .ok (.ifCond .eq 6, 3) := by decide +kernel
theorem dX3_drain_7 : decode cX3_drain 7 = .ok (.bipush (-100), 2) := by decide +kernel
theorem dX3_drain_9 : decode cX3_drain 9 = .ok (.ireturn, 1) := by decide +kernel
theorem dX3_drain_10 : decode cX3_drain 10 = .ok (.iload_n 1, 1) := by decide +kernel
theorem dX3_drain_11 : decode cX3_drain 11 = .ok (.iconst 1, 1) := by decide +kernel
theorem dX3_drain_12 : decode cX3_drain 12 = .ok (.if_icmp .lt 9, 3) := by decide +kernel
theorem dX3_drain_15 : decode cX3_drain 15 = .ok (.iload_n 1, 1) := by decide +kernel
theorem dX3_drain_16 : decode cX3_drain 16 = .ok (.bipush 32, 2) := by decide +kernel
theorem dX3_drain_18 : decode cX3_drain 18 = .ok (.if_icmp .le 6, 3) := by decide +kernel
theorem dX3_drain_21 : decode cX3_drain 21 = .ok (.bipush (-102), 2) := by decide +kernel
theorem dX3_drain_23 : decode cX3_drain 23 = .ok (.ireturn, 1) := by decide +kernel
theorem dX3_drain_24 : decode cX3_drain 24 = .ok (.aload_n 0, 1) := by decide +kernel
theorem dX3_drain_25 : decode cX3_drain 25 = .ok (.iload_n 1, 1) := by decide +kernel
theorem dX3_drain_26 : decode cX3_drain 26 = .ok (.aload_n 0, 1) := by decide +kernel
theorem dX3_drain_27 : decode cX3_drain 27 = .ok (.getfield 54, 3) := by decide +kernel
theorem dX3_drain_30 : decode cX3_drain 30 = .ok (.getfield 107, 3) := by decide +kernel
theorem dX3_drain_33 : decode cX3_drain 33 = .ok (.invokestatic 72, 3) := by decide +kernel
theorem dX3_drain_36 : decode cX3_drain 36 = .ok (.invokevirtual 110, 3) := by decide +kernel
theorem dX3_drain_39 : decode cX3_drain 39 = .ok (.ifCond .eq 13, 3) := by decide +kernel
theorem dX3_drain_42 : decode cX3_drain 42 = .ok (.aload_n 0, 1) := by decide +kernel
theorem dX3_drain_43 : decode cX3_drain 43 = .ok (.getfield 54, 3) := by decide +kernel
theorem dX3_drain_46 : decode cX3_drain 46 = .ok (.getfield 107, 3) := by decide +kernel
theorem dX3_drain_49 : decode cX3_drain 49 = .ok (.goto 5, 3) := by decide +kernel
theorem dX3_drain_52 : decode cX3_drain 52 = .ok (.bipush (-106), 2) := by decide +kernel
theorem dX3_drain_54 : decode cX3_drain 54 = .ok (.ireturn, 1) := by decide +kernel
set_option maxRecDepth 20000 in
theorem ggX3_lose_X3_isMember : GoodIn wsX3_lose wsX3_isMember := goodIn_r _ [7, 8, 17, 18, 19, 20, 21, 22, 23, 24, 25, 26] (by decide +kernel) (by decide +kernel)
set_option maxRecDepth 20000 in
theorem gX3_lose_X3_isMember : GoodIn wsX3_lose (wsV RX3 113 RX3 yX3_isMember wsX3_isMember) := goodIn_app (goodIn_of _ (by decide +kernel)) ggX3_lose_X3_isMember
set_option maxRecDepth 20000 in
theorem ggX3_lose_X3_allOn : GoodIn wsX3_lose wsX3_allOn := goodIn_r _ [12, 13, 14, 15, 6, 16, 8, 2, 17, 18, 19, 20, 21, 22, 23, 24, 25, 26, 27, 28, 29, 30, 31, 32] (by decide +kernel) (by decide +kernel)
set_option maxRecDepth 20000 in
theorem gX3_lose_X3_allOn : GoodIn wsX3_lose (wsV RX3 116 RX3 yX3_allOn wsX3_allOn) := goodIn_app (goodIn_of _ (by decide +kernel)) ggX3_lose_X3_allOn
theorem dX3_lose_0 : decode cX3_lose 0 = .ok (.aload_n 0, 1) := by decide +kernel
theorem dX3_lose_1 : decode cX3_lose 1 = .ok (.getfield 16, 3) := by decide +kernel
theorem dX3_lose_4 : decode cX3_lose 4 = .ok (.ifCond .eq 6, 3) := by decide +kernel
theorem dX3_lose_7 : decode cX3_lose 7 = .ok (.bipush (-100), 2) := by decide +kernel
theorem dX3_lose_9 : decode cX3_lose 9 = .ok (.ireturn, 1) := by decide +kernel
theorem dX3_lose_10 : decode cX3_lose 10 = .ok (.aload_n 0, 1) := by decide +kernel
theorem dX3_lose_11 : decode cX3_lose 11 = .ok (.iload_n 1, 1) := by decide +kernel
theorem dX3_lose_12 : decode cX3_lose 12 = .ok (.invokevirtual 113, 3) := by decide +kernel
theorem dX3_lose_15 : decode cX3_lose 15 = .ok (.ifCond .ne 6, 3) := by decide +kernel
theorem dX3_lose_18 : decode cX3_lose 18 = .ok (.bipush (-101), 2) := by decide +kernel
theorem dX3_lose_20 : decode cX3_lose 20 = .ok (.ireturn, 1) := by decide +kernel
theorem dX3_lose_21 : decode cX3_lose 21 = .ok (.aload_n 0, 1) := by decide +kernel
theorem dX3_lose_22 : decode cX3_lose 22 = .ok (.invokevirtual 116, 3) := by decide +kernel
theorem dX3_lose_25 : decode cX3_lose 25 = .ok (.ifCond .ne 6, 3) := by decide +kernel
theorem dX3_lose_28 : decode cX3_lose 28 = .ok (.bipush (-103), 2) := by decide +kernel
theorem dX3_lose_30 : decode cX3_lose 30 = .ok (.ireturn, 1) := by decide +kernel
theorem dX3_lose_31 : decode cX3_lose 31 = .ok (.aload_n 0, 1) := by decide +kernel
theorem dX3_lose_32 : decode cX3_lose 32 = .ok (.getfield 44, 3) := by decide +kernel
theorem dX3_lose_35 : decode cX3_lose 35 = .ok (.iload_n 1, 1) := by decide +kernel
theorem dX3_lose_36 : decode cX3_lose 36 = .ok (.aaload, 1) := by decide +kernel
theorem dX3_lose_37 : decode cX3_lose 37 = .ok (.iconst 1, 1) := by decide +kernel
theorem dX3_lose_38 : decode cX3_lose 38 = .ok (.putfield 120, 3) := by decide +kernel
theorem dX3_lose_41 : decode cX3_lose 41 = .ok (.aload_n 0, 1) := by decide +kernel
theorem dX3_lose_42 : decode cX3_lose 42 = .ok (.getfield 44, 3) := by decide +kernel
theorem dX3_lose_45 : decode cX3_lose 45 = .ok (.iload_n 1, 1) := by decide +kernel
theorem dX3_lose_46 : decode cX3_lose 46 = .ok (.aaload, 1) := by decide +kernel
theorem dX3_lose_47 : decode cX3_lose 47 = .ok (.iconst 0, 1) := by decide +kernel
theorem dX3_lose_48 : decode cX3_lose 48 = .ok (.putfield 123, 3) := by decide +kernel
theorem dX3_lose_51 : decode cX3_lose 51 = .ok (.iconst 1, 1) := by decide +kernel
theorem dX3_lose_52 : decode cX3_lose 52 = .ok (.ireturn, 1) := by decide +kernel
set_option maxRecDepth 20000 in
theorem ggX3_spare_X3_memberThat : GoodIn wsX3_spare wsX3_memberThat := goodIn_r _ [7, 8, 2, 18, 19, 20, 21, 22, 23, 24, 25, 26, 27, 28, 29, 30, 31, 32, 33] (by decide +kernel) (by decide +kernel)
set_option maxRecDepth 20000 in
theorem gX3_spare_X3_memberThat : GoodIn wsX3_spare (wsV RX3 126 RX3 yX3_memberThat wsX3_memberThat) := goodIn_app (goodIn_of _ (by decide +kernel)) ggX3_spare_X3_memberThat
set_option maxRecDepth 20000 in
theorem ggX3_spare_X0_replace : GoodIn wsX3_spare wsX0_replace := goodIn_r _ [12, 13, 14, 15, 16, 17, 28, 29, 30, 31, 32, 33] (by decide +kernel) (by decide +kernel)
set_option maxRecDepth 20000 in
theorem gX3_spare_X0_replace_n129 : GoodIn wsX3_spare (wsX0_replace) := ggX3_spare_X0_replace
theorem dX3_spare_0 : decode cX3_spare 0 = .ok (.aload_n 0, 1) := by decide +kernel
theorem dX3_spare_1 : decode cX3_spare 1 = .ok (.getfield 16, 3) := by decide +kernel
theorem dX3_spare_4 : decode cX3_spare 4 = .ok (.ifCond .eq 6, 3) := by decide +kernel
theorem dX3_spare_7 : decode cX3_spare 7 = .ok (.bipush (-100), 2) := by decide +kernel
theorem dX3_spare_9 : decode cX3_spare 9 = .ok (.ireturn, 1) := by decide +kernel
theorem dX3_spare_10 : decode cX3_spare 10 = .ok (.aload_n 0, 1) := by decide +kernel
theorem dX3_spare_11 : decode cX3_spare 11 = .ok (.iconst 1, 1) := by decide +kernel
theorem dX3_spare_12 : decode cX3_spare 12 = .ok (.invokevirtual 126, 3) := by decide +kernel
theorem dX3_spare_15 : decode cX3_spare 15 = .ok (.istore_n 1, 1) := by decide +kernel
theorem dX3_spare_16 : decode cX3_spare 16 = .ok (.iload_n 1, 1) := by decide +kernel
theorem dX3_spare_17 : decode cX3_spare 17 = .ok (.iconst (-1), 1) := by decide +kernel
theorem dX3_spare_18 : decode cX3_spare 18 = .ok (.if_icmp .ne 6, 3) := by decide +kernel
theorem dX3_spare_21 : decode cX3_spare 21 = .ok (.bipush (-103), 2) := by decide +kernel
theorem dX3_spare_23 : decode cX3_spare 23 = .ok (.ireturn, 1) := by decide +kernel
theorem dX3_spare_24 : decode cX3_spare 24 = .ok (.aload_n 0, 1) := by decide +kernel
theorem dX3_spare_25 : decode cX3_spare 25 = .ok (.getfield 44, 3) := by decide +kernel
theorem dX3_spare_28 : decode cX3_spare 28 = .ok (.iload_n 1, 1) := by decide +kernel
theorem dX3_spare_29 : decode cX3_spare 29 = .ok (.aaload, 1) := by decide +kernel
theorem dX3_spare_30 : decode cX3_spare 30 = .ok (.invokevirtual 129, 3) := by decide +kernel
theorem dX3_spare_33 : decode cX3_spare 33 = .ok (.iload_n 1, 1) := by decide +kernel
theorem dX3_spare_34 : decode cX3_spare 34 = .ok (.ireturn, 1) := by decide +kernel
set_option maxRecDepth 20000 in
theorem ggX3_build_X3_memberThat : GoodIn wsX3_build wsX3_memberThat := goodIn_r _ [7, 8, 2, 127, 128, 129, 130, 131, 132, 133, 134, 135, 136, 137, 138, 139, 140, 141, 142] (by decide +kernel) (by decide +kernel)
set_option maxRecDepth 20000 in
theorem gX3_build_X3_memberThat : GoodIn wsX3_build (wsV RX3 126 RX3 yX3_memberThat wsX3_memberThat) := goodIn_app (goodIn_of _ (by decide +kernel)) ggX3_build_X3_memberThat
set_option maxRecDepth 20000 in
theorem ggX3_build_X3_buildStripe : GoodIn wsX3_build wsX3_buildStripe := goodIn_r _ [12, 13, 2, 14, 15, 16, 17, 18, 19, 20, 21, 22, 23, 24, 25, 26, 27, 28, 29, 6, 30, 31, 32, 33, 34, 8, 35, 36, 37, 38, 39, 40, 41, 42, 43, 44, 45, 46, 47, 48, 49, 50, 51, 52, 53, 54, 55, 56, 57, 58, 59, 60, 61, 62, 1, 63, 64, 65, 66, 67, 68, 69, 70, 71, 72, 73, 74, 75, 76, 77, 78, 79, 80, 81, 82, 83, 84, 85, 86, 87, 88, 89, 90, 91, 92, 93, 94, 95, 96, 97, 98, 99, 100, 101, 102, 103, 104, 105, 106, 107, 108, 109, 110, 111, 112, 113, 114, 115, 116, 117, 118, 119, 120, 121, 122, 123, 124, 125, 126, 127, 128, 129, 130, 131, 132, 133, 134, 135, 136, 137, 138, 139, 140, 141, 142, 143, 144, 145, 146, 147, 148, 149, 150, 151, 152] (by decide +kernel) (by decide +kernel)
set_option maxRecDepth 20000 in
theorem gX3_build_X3_buildStripe : GoodIn wsX3_build (wsV RX3 132 RX3 yX3_buildStripe wsX3_buildStripe) := goodIn_app (goodIn_of _ (by decide +kernel)) ggX3_build_X3_buildStripe
theorem dX3_build_0 : decode cX3_build 0 = .ok (.aload_n 0, 1) := by decide +kernel
theorem dX3_build_1 : decode cX3_build 1 = .ok (.getfield 16, 3) := by decide +kernel
theorem dX3_build_4 : decode cX3_build 4 = .ok (.ifCond .eq 6, 3) := by decide +kernel
theorem dX3_build_7 : decode cX3_build 7 = .ok (.bipush (-100), 2) := by decide +kernel
theorem dX3_build_9 : decode cX3_build 9 = .ok (.ireturn, 1) := by decide +kernel
theorem dX3_build_10 : decode cX3_build 10 = .ok (.iload_n 1, 1) := by decide +kernel
theorem dX3_build_11 : decode cX3_build 11 = .ok (.iconst 1, 1) := by decide +kernel
theorem dX3_build_12 : decode cX3_build 12 = .ok (.if_icmp .lt 9, 3) := by decide +kernel
theorem dX3_build_15 : decode cX3_build 15 = .ok (.iload_n 1, 1) := by decide +kernel
theorem dX3_build_16 : decode cX3_build 16 = .ok (.bipush 24, 2) := by decide +kernel
theorem dX3_build_18 : decode cX3_build 18 = .ok (.if_icmp .le 6, 3) := by decide +kernel
theorem dX3_build_21 : decode cX3_build 21 = .ok (.bipush (-102), 2) := by decide +kernel
theorem dX3_build_23 : decode cX3_build 23 = .ok (.ireturn, 1) := by decide +kernel
theorem dX3_build_24 : decode cX3_build 24 = .ok (.aload_n 0, 1) := by decide +kernel
theorem dX3_build_25 : decode cX3_build 25 = .ok (.iconst 2, 1) := by decide +kernel
theorem dX3_build_26 : decode cX3_build 26 = .ok (.invokevirtual 126, 3) := by decide +kernel
theorem dX3_build_29 : decode cX3_build 29 = .ok (.istore_n 2, 1) := by decide +kernel
theorem dX3_build_30 : decode cX3_build 30 = .ok (.iload_n 2, 1) := by decide +kernel
theorem dX3_build_31 : decode cX3_build 31 = .ok (.iconst (-1), 1) := by decide +kernel
theorem dX3_build_32 : decode cX3_build 32 = .ok (.if_icmp .ne 6, 3) := by decide +kernel
theorem dX3_build_35 : decode cX3_build 35 = .ok (.bipush (-103), 2) := by decide +kernel
theorem dX3_build_37 : decode cX3_build 37 = .ok (.ireturn, 1) := by decide +kernel
theorem dX3_build_38 : decode cX3_build 38 = .ok (.aload_n 0, 1) := by decide +kernel
theorem dX3_build_39 : decode cX3_build 39 = .ok (.getfield 44, 3) := by decide +kernel
theorem dX3_build_42 : decode cX3_build 42 = .ok (.iload_n 2, 1) := by decide +kernel
theorem dX3_build_43 : decode cX3_build 43 = .ok (.aaload, 1) := by decide +kernel
theorem dX3_build_44 : decode cX3_build 44 = .ok (.astore_n 3, 1) := by decide +kernel
theorem dX3_build_45 : decode cX3_build 45 = .ok (.iconst 0, 1) := by decide +kernel
theorem dX3_build_46 : decode cX3_build 46 = .ok (.istore 4, 2) := by decide +kernel
theorem dX3_build_48 : decode cX3_build 48 = .ok (.iload 4, 2) := by decide +kernel
theorem dX3_build_50 : decode cX3_build 50 = .ok (.iload_n 1, 1) := by decide +kernel
theorem dX3_build_51 : decode cX3_build 51 = .ok (.if_icmp .ge 33, 3) := by decide +kernel
theorem dX3_build_54 : decode cX3_build 54 = .ok (.aload_n 3, 1) := by decide +kernel
theorem dX3_build_55 : decode cX3_build 55 = .ok (.getfield 123, 3) := by decide +kernel
theorem dX3_build_58 : decode cX3_build 58 = .ok (.bipush 24, 2) := by decide +kernel
theorem dX3_build_60 : decode cX3_build 60 = .ok (.if_icmp .ge 24, 3) := by decide +kernel
theorem dX3_build_63 : decode cX3_build 63 = .ok (.aload_n 0, 1) := by decide +kernel
theorem dX3_build_64 : decode cX3_build 64 = .ok (.iload_n 2, 1) := by decide +kernel
theorem dX3_build_65 : decode cX3_build 65 = .ok (.aload_n 3, 1) := by decide +kernel
theorem dX3_build_66 : decode cX3_build 66 = .ok (.getfield 123, 3) := by decide +kernel
theorem dX3_build_69 : decode cX3_build 69 = .ok (.invokevirtual 132, 3) := by decide +kernel
theorem dX3_build_72 : decode cX3_build 72 = .ok (.ifCond .ne 6, 3) := by decide +kernel
theorem dX3_build_75 : decode cX3_build 75 = .ok (.bipush (-106), 2) := by decide +kernel
theorem dX3_build_77 : decode cX3_build 77 = .ok (.ireturn, 1) := by decide +kernel
theorem dX3_build_78 : decode cX3_build 78 = .ok (.iinc 4 1, 3) := by decide +kernel
theorem dX3_build_81 : decode cX3_build 81 = .ok (.goto (-33), 3) := by decide +kernel
theorem dX3_build_84 : decode cX3_build 84 = .ok (.bipush 24, 2) := by decide +kernel
theorem dX3_build_86 : decode cX3_build 86 = .ok (.aload_n 3, 1) := by decide +kernel
theorem dX3_build_87 : decode cX3_build 87 = .ok (.getfield 123, 3) := by decide +kernel
theorem dX3_build_90 : decode cX3_build 90 = .ok (.isub, 1) := by decide +kernel
theorem dX3_build_91 : decode cX3_build 91 = .ok (.ireturn, 1) := by decide +kernel
set_option maxRecDepth 20000 in
theorem ggX3_scrub_X3_allOn : GoodIn wsX3_scrub wsX3_allOn := goodIn_r _ [8, 9, 10, 11, 7, 12, 13, 14, 85, 86, 87, 88, 89, 90, 91, 92, 93, 94, 95, 96, 97, 98, 99, 100] (by decide +kernel) (by decide +kernel)
set_option maxRecDepth 20000 in
theorem gX3_scrub_X3_allOn : GoodIn wsX3_scrub (wsV RX3 116 RX3 yX3_allOn wsX3_allOn) := goodIn_app (goodIn_of _ (by decide +kernel)) ggX3_scrub_X3_allOn
set_option maxRecDepth 20000 in
theorem ggX3_scrub_X3_scrubStripe : GoodIn wsX3_scrub wsX3_scrubStripe := goodIn_r _ [18, 2, 13, 19, 20, 21, 7, 22, 14, 23, 24, 25, 26, 27, 28, 29, 30, 31, 32, 33, 34, 35, 36, 37, 38, 39, 40, 41, 42, 43, 44, 45, 46, 47, 48, 49, 50, 51, 52, 53, 54, 55, 56, 57, 58, 59, 60, 61, 62, 63, 64, 65, 66, 67, 68, 69, 70, 71, 72, 73, 74, 75, 76, 1, 3, 77, 78, 79, 80, 81, 82, 83, 84, 85, 86, 87, 88, 89, 90, 91, 92, 93, 94, 95, 96, 97, 98, 99, 100] (by decide +kernel) (by decide +kernel)
set_option maxRecDepth 20000 in
theorem gX3_scrub_X3_scrubStripe : GoodIn wsX3_scrub (wsV RX3 135 RX3 yX3_scrubStripe wsX3_scrubStripe) := goodIn_app (goodIn_of _ (by decide +kernel)) ggX3_scrub_X3_scrubStripe
theorem dX3_scrub_0 : decode cX3_scrub 0 = .ok (.aload_n 0, 1) := by decide +kernel
theorem dX3_scrub_1 : decode cX3_scrub 1 = .ok (.getfield 16, 3) := by decide +kernel
theorem dX3_scrub_4 : decode cX3_scrub 4 = .ok (.ifCond .eq 6, 3) := by decide +kernel
theorem dX3_scrub_7 : decode cX3_scrub 7 = .ok (.bipush (-100), 2) := by decide +kernel
theorem dX3_scrub_9 : decode cX3_scrub 9 = .ok (.ireturn, 1) := by decide +kernel
theorem dX3_scrub_10 : decode cX3_scrub 10 = .ok (.iload_n 1, 1) := by decide +kernel
theorem dX3_scrub_11 : decode cX3_scrub 11 = .ok (.iconst 1, 1) := by decide +kernel
theorem dX3_scrub_12 : decode cX3_scrub 12 = .ok (.if_icmp .lt 9, 3) := by decide +kernel
theorem dX3_scrub_15 : decode cX3_scrub 15 = .ok (.iload_n 1, 1) := by decide +kernel
theorem dX3_scrub_16 : decode cX3_scrub 16 = .ok (.bipush 24, 2) := by decide +kernel
theorem dX3_scrub_18 : decode cX3_scrub 18 = .ok (.if_icmp .le 6, 3) := by decide +kernel
theorem dX3_scrub_21 : decode cX3_scrub 21 = .ok (.bipush (-102), 2) := by decide +kernel
theorem dX3_scrub_23 : decode cX3_scrub 23 = .ok (.ireturn, 1) := by decide +kernel
theorem dX3_scrub_24 : decode cX3_scrub 24 = .ok (.aload_n 0, 1) := by decide +kernel
theorem dX3_scrub_25 : decode cX3_scrub 25 = .ok (.invokevirtual 116, 3) := by decide +kernel
theorem dX3_scrub_28 : decode cX3_scrub 28 = .ok (.ifCond .ne 6, 3) := by decide +kernel
theorem dX3_scrub_31 : decode cX3_scrub 31 = .ok (.bipush (-103), 2) := by decide +kernel
theorem dX3_scrub_33 : decode cX3_scrub 33 = .ok (.ireturn, 1) := by decide +kernel
theorem dX3_scrub_34 : decode cX3_scrub 34 = .ok (.aload_n 0, 1) := by decide +kernel
theorem dX3_scrub_35 : decode cX3_scrub 35 = .ok (.getfield 9, 3) := by decide +kernel
theorem dX3_scrub_38 : decode cX3_scrub 38 = .ok (.bipush 7, 2) := by decide +kernel
theorem dX3_scrub_40 : decode cX3_scrub 40 = .ok (.iaload, 1) := by decide +kernel
theorem dX3_scrub_41 : decode cX3_scrub 41 = .ok (.istore_n 2, 1) := by decide +kernel
theorem dX3_scrub_42 : decode cX3_scrub 42 = .ok (.iconst 0, 1) := by decide +kernel
theorem dX3_scrub_43 : decode cX3_scrub 43 = .ok (.istore_n 3, 1) := by decide +kernel
theorem dX3_scrub_44 : decode cX3_scrub 44 = .ok (.iload_n 3, 1) := by decide +kernel
theorem dX3_scrub_45 : decode cX3_scrub 45 = .ok (.iload_n 1, 1) := by decide +kernel
theorem dX3_scrub_46 : decode cX3_scrub 46 = .ok (.if_icmp .ge 36, 3) := by decide +kernel
theorem dX3_scrub_49 : decode cX3_scrub 49 = .ok (.aload_n 0, 1) := by decide +kernel
theorem dX3_scrub_50 : decode cX3_scrub 50 = .ok (.aload_n 0, 1) := by decide +kernel
theorem dX3_scrub_51 : decode cX3_scrub 51 = .ok (.getfield 27, 3) := by decide +kernel
theorem dX3_scrub_54 : decode cX3_scrub 54 = .ok (.invokevirtual 135, 3) := by decide +kernel
theorem dX3_scrub_57 : decode cX3_scrub 57 = .ok (.ifCond .ne 6, 3) := by decide +kernel
theorem dX3_scrub_60 : decode cX3_scrub 60 = .ok (.bipush (-106), 2) := by decide +kernel
theorem dX3_scrub_62 : decode cX3_scrub 62 = .ok (.ireturn, 1) := by decide +kernel
theorem dX3_scrub_63 : decode cX3_scrub 63 = .ok (.aload_n 0, 1) := by decide +kernel
theorem dX3_scrub_64 : decode cX3_scrub 64 = .ok (.aload_n 0, 1) := by decide +kernel
theorem dX3_scrub_65 : decode cX3_scrub 65 = .ok (.getfield 27, 3) := by decide +kernel
theorem dX3_scrub_68 : decode cX3_scrub 68 = .ok (.iconst 1, 1) := by decide +kernel
theorem dX3_scrub_69 : decode cX3_scrub 69 = .ok (.iadd, 1) := by decide +kernel
theorem dX3_scrub_70 : decode cX3_scrub 70 = .ok (.bipush 24, 2) := by decide +kernel
theorem dX3_scrub_72 : decode cX3_scrub 72 = .ok (.irem, 1) := by decide +kernel
theorem dX3_scrub_73 : decode cX3_scrub 73 = .ok (.putfield 27, 3) := by decide +kernel
theorem dX3_scrub_76 : decode cX3_scrub 76 = .ok (.iinc 3 1, 3) := by decide +kernel
theorem dX3_scrub_79 : decode cX3_scrub 79 = .ok (.goto (-35), 3) := by decide +kernel
theorem dX3_scrub_82 : decode cX3_scrub 82 = .ok (.aload_n 0, 1) := by decide +kernel
theorem dX3_scrub_83 : decode cX3_scrub 83 = .ok (.getfield 9, 3) := by decide +kernel
theorem dX3_scrub_86 : decode cX3_scrub 86 = .ok (.bipush 7, 2) := by decide +kernel
theorem dX3_scrub_88 : decode cX3_scrub 88 = .ok (.iaload, 1) := by decide +kernel
theorem dX3_scrub_89 : decode cX3_scrub 89 = .ok (.iload_n 2, 1) := by decide +kernel
theorem dX3_scrub_90 : decode cX3_scrub 90 = .ok (.isub, 1) := by decide +kernel
theorem dX3_scrub_91 : decode cX3_scrub 91 = .ok (.ireturn, 1) := by decide +kernel
set_option maxRecDepth 20000 in
theorem ggX3_rot_X3_isMember : GoodIn wsX3_rot wsX3_isMember := goodIn_r _ [6, 7, 11, 12, 13, 14, 15, 16, 17, 18, 19, 20] (by decide +kernel) (by decide +kernel)
set_option maxRecDepth 20000 in
theorem gX3_rot_X3_isMember : GoodIn wsX3_rot (wsV RX3 113 RX3 yX3_isMember wsX3_isMember) := goodIn_app (goodIn_of _ (by decide +kernel)) ggX3_rot_X3_isMember
set_option maxRecDepth 20000 in
theorem ggX3_rot_X3_isStripe : GoodIn wsX3_rot wsX3_isStripe := goodIn_r _ [10] (by decide +kernel) (by decide +kernel)
set_option maxRecDepth 20000 in
theorem gX3_rot_X3_isStripe : GoodIn wsX3_rot (va_wsS RX3 138 yX3_isStripe wsX3_isStripe) := goodIn_app (goodIn_of _ (by decide +kernel)) ggX3_rot_X3_isStripe
theorem dX3_rot_0 : decode cX3_rot 0 = .ok (.aload_n 0, 1) := by decide +kernel
theorem dX3_rot_1 : decode cX3_rot 1 = .ok (.iload_n 1, 1) := by decide +kernel
theorem dX3_rot_2 : decode cX3_rot 2 = .ok (.invokevirtual 113, 3) := by decide +kernel
theorem dX3_rot_5 : decode cX3_rot 5 = .ok (.ifCond .eq 20, 3) := by decide +kernel
theorem dX3_rot_8 : decode cX3_rot 8 = .ok (.iload_n 2, 1) := by decide +kernel
theorem dX3_rot_9 : decode cX3_rot 9 = .ok (.invokestatic 138, 3) := by decide +kernel
theorem dX3_rot_12 : decode cX3_rot 12 = .ok (.ifCond .eq 13, 3) := by decide +kernel
theorem dX3_rot_15 : decode cX3_rot 15 = .ok (.iload_n 3, 1) := by decide +kernel
theorem dX3_rot_16 : decode cX3_rot 16 = .ok (.ifCond .lt 9, 3) := by decide +kernel
theorem dX3_rot_19 : decode cX3_rot 19 = .ok (.iload_n 3, 1) := by decide +kernel
theorem dX3_rot_20 : decode cX3_rot 20 = .ok (.bipush 8, 2) := by decide +kernel
theorem dX3_rot_22 : decode cX3_rot 22 = .ok (.if_icmp .lt 6, 3) := by decide +kernel
theorem dX3_rot_25 : decode cX3_rot 25 = .ok (.bipush (-101), 2) := by decide +kernel
theorem dX3_rot_27 : decode cX3_rot 27 = .ok (.ireturn, 1) := by decide +kernel
theorem dX3_rot_28 : decode cX3_rot 28 = .ok (.aload_n 0, 1) := by decide +kernel
theorem dX3_rot_29 : decode cX3_rot 29 = .ok (.getfield 44, 3) := by decide +kernel
theorem dX3_rot_32 : decode cX3_rot 32 = .ok (.iload_n 1, 1) := by decide +kernel
theorem dX3_rot_33 : decode cX3_rot 33 = .ok (.aaload, 1) := by decide +kernel
theorem dX3_rot_34 : decode cX3_rot 34 = .ok (.getfield 141, 3) := by decide +kernel
theorem dX3_rot_37 : decode cX3_rot 37 = .ok (.astore 5, 2) := by decide +kernel
theorem dX3_rot_39 : decode cX3_rot 39 = .ok (.aload 5, 2) := by decide +kernel
theorem dX3_rot_41 : decode cX3_rot 41 = .ok (.iload_n 2, 1) := by decide +kernel
theorem dX3_rot_42 : decode cX3_rot 42 = .ok (.bipush 8, 2) := by decide +kernel
theorem dX3_rot_44 : decode cX3_rot 44 = .ok (.imul, 1) := by decide +kernel
theorem dX3_rot_45 : decode cX3_rot 45 = .ok (.iload_n 3, 1) := by decide +kernel
theorem dX3_rot_46 : decode cX3_rot 46 = .ok (.iadd, 1) := by decide +kernel
theorem dX3_rot_47 : decode cX3_rot 47 = .ok (.dup2, 1) := by decide +kernel
theorem dX3_rot_48 : decode cX3_rot 48 = .ok (.iaload, 1) := by decide +kernel
theorem dX3_rot_49 : decode cX3_rot 49 = .ok (.iload 4, 2) := by decide +kernel
theorem dX3_rot_51 : decode cX3_rot 51 = .ok (.ixor, 1) := by decide +kernel
theorem dX3_rot_52 : decode cX3_rot 52 = .ok (.iastore, 1) := by decide +kernel
theorem dX3_rot_53 : decode cX3_rot 53 = .ok (.aload 5, 2) := by decide +kernel
theorem dX3_rot_55 : decode cX3_rot 55 = .ok (.iload_n 2, 1) := by decide +kernel
theorem dX3_rot_56 : decode cX3_rot 56 = .ok (.bipush 8, 2) := by decide +kernel
theorem dX3_rot_58 : decode cX3_rot 58 = .ok (.imul, 1) := by decide +kernel
theorem dX3_rot_59 : decode cX3_rot 59 = .ok (.iload_n 3, 1) := by decide +kernel
theorem dX3_rot_60 : decode cX3_rot 60 = .ok (.iadd, 1) := by decide +kernel
theorem dX3_rot_61 : decode cX3_rot 61 = .ok (.iaload, 1) := by decide +kernel
theorem dX3_rot_62 : decode cX3_rot 62 = .ok (.ireturn, 1) := by decide +kernel
set_option maxRecDepth 20000 in
theorem ggX3_cut_X3_isCut : GoodIn wsX3_cut wsX3_isCut := goodIn_r _ [7] (by decide +kernel) (by decide +kernel)
set_option maxRecDepth 20000 in
theorem gX3_cut_X3_isCut : GoodIn wsX3_cut (va_wsS RX3 144 yX3_isCut wsX3_isCut) := goodIn_app (goodIn_of _ (by decide +kernel)) ggX3_cut_X3_isCut
theorem dX3_cut_0 : decode cX3_cut 0 = .ok (.aload_n 0, 1) := by decide +kernel
theorem dX3_cut_1 : decode cX3_cut 1 = .ok (.getfield 16, 3) := by decide +kernel
theorem dX3_cut_4 : decode cX3_cut 4 = .ok (.ifCond .eq 6, 3) := by decide +kernel
theorem dX3_cut_7 : decode cX3_cut 7 = .ok (.bipush (-100), 2) := by decide +kernel
theorem dX3_cut_9 : decode cX3_cut 9 = .ok (.ireturn, 1) := by decide +kernel
theorem dX3_cut_10 : decode cX3_cut 10 = .ok (.iload_n 1, 1) := by decide +kernel
theorem dX3_cut_11 : decode cX3_cut 11 = .ok (.invokestatic 144, 3) := by decide +kernel
theorem dX3_cut_14 : decode cX3_cut 14 = .ok (.ifCond .eq 13, 3) := by decide +kernel
theorem dX3_cut_17 : decode cX3_cut 17 = .ok (.iload_n 2, 1) := by decide +kernel
theorem dX3_cut_18 : decode cX3_cut 18 = .ok (.ifCond .lt 9, 3) := by decide +kernel
theorem dX3_cut_21 : decode cX3_cut 21 = .ok (.iload_n 2, 1) := by decide +kernel
theorem dX3_cut_22 : decode cX3_cut 22 = .ok (.bipush 8, 2) := by decide +kernel
theorem dX3_cut_24 : decode cX3_cut 24 = .ok (.if_icmp .le 6, 3) := by decide +kernel
theorem dX3_cut_27 : decode cX3_cut 27 = .ok (.bipush (-102), 2) := by decide +kernel
theorem dX3_cut_29 : decode cX3_cut 29 = .ok (.ireturn, 1) := by decide +kernel
theorem dX3_cut_30 : decode cX3_cut 30 = .ok (.aload_n 0, 1) := by decide +kernel
theorem dX3_cut_31 : decode cX3_cut 31 = .ok (.iload_n 1, 1) := by decide +kernel
theorem dX3_cut_32 : decode cX3_cut 32 = .ok (.putfield 20, 3) := by decide +kernel
theorem dX3_cut_35 : decode cX3_cut 35 = .ok (.aload_n 0, 1) := by decide +kernel
theorem dX3_cut_36 : decode cX3_cut 36 = .ok (.iload_n 2, 1) := by decide +kernel
theorem dX3_cut_37 : decode cX3_cut 37 = .ok (.putfield 24, 3) := by decide +kernel
theorem dX3_cut_40 : decode cX3_cut 40 = .ok (.iconst 1, 1) := by decide +kernel
theorem dX3_cut_41 : decode cX3_cut 41 = .ok (.ireturn, 1) := by decide +kernel
set_option maxRecDepth 20000 in
theorem ggX3_start_X3_isCut : GoodIn wsX3_start wsX3_isCut := goodIn_r _ [7] (by decide +kernel) (by decide +kernel)
set_option maxRecDepth 20000 in
theorem gX3_start_X3_isCut : GoodIn wsX3_start (va_wsS RX3 144 yX3_isCut wsX3_isCut) := goodIn_app (goodIn_of _ (by decide +kernel)) ggX3_start_X3_isCut
set_option maxRecDepth 20000 in
theorem ggX3_start_X3_doAgain : GoodIn wsX3_start wsX3_doAgain := goodIn_r _ [11, 3, 12, 13, 14, 15, 16, 17, 18, 19, 20, 21, 6, 22, 23, 24, 25, 26, 27, 28, 29, 30, 31, 32, 33, 34, 35, 36, 37, 38, 39, 40, 41, 42, 43, 44, 45, 46, 47, 48, 49, 50, 51, 2, 1, 52, 53, 54, 55, 56, 57, 58, 59, 60, 61, 62, 63, 64, 65, 66, 89, 90, 91, 92, 93, 94, 95, 96, 97, 98, 99, 100, 101, 102, 103, 104, 105, 106, 107, 108, 109, 110, 111, 112, 113, 114] (by decide +kernel) (by decide +kernel)
set_option maxRecDepth 20000 in
theorem gX3_start_X3_doAgain : GoodIn wsX3_start (wsV RX3 147 RX3 yX3_doAgain wsX3_doAgain) := goodIn_app (goodIn_of _ (by decide +kernel)) ggX3_start_X3_doAgain
set_option maxRecDepth 20000 in
theorem ggX3_start_X3_putMark : GoodIn wsX3_start wsX3_putMark := goodIn_r _ [70, 12, 3, 48, 49, 50, 6, 51, 2, 1, 52, 23, 24, 53, 39, 54, 55, 56, 42, 71, 14, 72, 73, 74, 75, 76, 77, 18, 78, 13, 15, 16, 17, 79, 34, 80, 81, 37, 82, 83, 84, 85, 86, 87, 88, 89, 90, 91, 92, 93, 94, 95, 96, 97, 98, 109, 110, 111, 112, 113, 114, 99, 100, 101, 102, 103, 104, 105, 106, 107, 108] (by decide +kernel) (by decide +kernel)
set_option maxRecDepth 20000 in
theorem gX3_start_X3_putMark : GoodIn wsX3_start (wsV RX3 150 RX3 yX3_putMark wsX3_putMark) := goodIn_app (goodIn_of _ (by decide +kernel)) ggX3_start_X3_putMark
theorem dX3_start_0 : decode cX3_start 0 = .ok (.aload_n 0, 1) := by decide +kernel
theorem dX3_start_1 : decode cX3_start 1 = .ok (.getfield 16, 3) := by decide +kernel
theorem dX3_start_4 : decode cX3_start 4 = .ok (.ifCond .ne 6, 3) := by decide +kernel
theorem dX3_start_7 : decode cX3_start 7 = .ok (.bipush (-103), 2) := by decide +kernel
theorem dX3_start_9 : decode cX3_start 9 = .ok (.ireturn, 1) := by decide +kernel
theorem dX3_start_10 : decode cX3_start 10 = .ok (.iload_n 1, 1) := by decide +kernel
theorem dX3_start_11 : decode cX3_start 11 = .ok (.invokestatic 144, 3) := by decide +kernel
theorem dX3_start_14 : decode cX3_start 14 = .ok (.ifCond .ne 6, 3) := by decide +kernel
theorem dX3_start_17 : decode cX3_start 17 = .ok (.bipush (-102), 2) := by decide +kernel
theorem dX3_start_19 : decode cX3_start 19 = .ok (.ireturn, 1) := by decide +kernel
theorem dX3_start_20 : decode cX3_start 20 = .ok (.aload_n 0, 1) := by decide +kernel
theorem dX3_start_21 : decode cX3_start 21 = .ok (.iconst 0, 1) := by decide +kernel
theorem dX3_start_22 : decode cX3_start 22 = .ok (.putfield 16, 3) := by decide +kernel
theorem dX3_start_25 : decode cX3_start 25 = .ok (.aload_n 0, 1) := by decide +kernel
theorem dX3_start_26 : decode cX3_start 26 = .ok (.iload_n 1, 1) := by decide +kernel
theorem dX3_start_27 : decode cX3_start 27 = .ok (.putfield 20, 3) := by decide +kernel
theorem dX3_start_30 : decode cX3_start 30 = .ok (.aload_n 0, 1) := by decide +kernel
theorem dX3_start_31 : decode cX3_start 31 = .ok (.getfield 54, 3) := by decide +kernel
theorem dX3_start_34 : decode cX3_start 34 = .ok (.getfield 107, 3) := by decide +kernel
theorem dX3_start_37 : decode cX3_start 37 = .ok (.istore_n 2, 1) := by decide +kernel
theorem dX3_start_38 : decode cX3_start 38 = .ok (.aload_n 0, 1) := by decide +kernel
theorem dX3_start_39 : decode cX3_start 39 = .ok (.iload_n 2, 1) := by decide +kernel
theorem dX3_start_40 : decode cX3_start 40 = .ok (.invokevirtual 147, 3) := by decide +kernel
theorem dX3_start_43 : decode cX3_start 43 = .ok (.ifCond .eq 11, 3) := by decide +kernel
theorem dX3_start_46 : decode cX3_start 46 = .ok (.aload_n 0, 1) := by decide +kernel
theorem dX3_start_47 : decode cX3_start 47 = .ok (.iload_n 2, 1) := by decide +kernel
theorem dX3_start_48 : decode cX3_start 48 = .ok (.invokevirtual 150, 3) := by decide +kernel
theorem dX3_start_51 : decode cX3_start 51 = .ok (.ifCond .ne 6, 3) := by decide +kernel
theorem dX3_start_54 : decode cX3_start 54 = .ok (.bipush (-106), 2) := by decide +kernel
theorem dX3_start_56 : decode cX3_start 56 = .ok (.ireturn, 1) := by decide +kernel
theorem dX3_start_57 : decode cX3_start 57 = .ok (.aload_n 0, 1) := by decide +kernel
theorem dX3_start_58 : decode cX3_start 58 = .ok (.iconst (-1), 1) := by decide +kernel
theorem dX3_start_59 : decode cX3_start 59 = .ok (.putfield 20, 3) := by decide +kernel
theorem dX3_start_62 : decode cX3_start 62 = .ok (.iload_n 2, 1) := by decide +kernel
theorem dX3_start_63 : decode cX3_start 63 = .ok (.ireturn, 1) := by decide +kernel
set_option maxRecDepth 20000 in
theorem ggX3_chunk_X3_isMember : GoodIn wsX3_chunk wsX3_isMember := goodIn_r _ [6, 7, 26, 27, 28, 29, 30, 31, 32, 33, 34, 35] (by decide +kernel) (by decide +kernel)
set_option maxRecDepth 20000 in
theorem gX3_chunk_X3_isMember : GoodIn wsX3_chunk (wsV RX3 113 RX3 yX3_isMember wsX3_isMember) := goodIn_app (goodIn_of _ (by decide +kernel)) ggX3_chunk_X3_isMember
set_option maxRecDepth 20000 in
theorem ggX3_chunk_X3_isStripe : GoodIn wsX3_chunk wsX3_isStripe := goodIn_r _ [10] (by decide +kernel) (by decide +kernel)
set_option maxRecDepth 20000 in
theorem gX3_chunk_X3_isStripe : GoodIn wsX3_chunk (va_wsS RX3 138 yX3_isStripe wsX3_isStripe) := goodIn_app (goodIn_of _ (by decide +kernel)) ggX3_chunk_X3_isStripe
set_option maxRecDepth 20000 in
theorem ggX3_chunk_X0_isThere : GoodIn wsX3_chunk wsX0_isThere := goodIn_r _ [14, 15, 16, 17, 18, 19, 20, 12, 21, 22, 23, 24, 25, 36, 37, 38, 39, 40, 41] (by decide +kernel) (by decide +kernel)
set_option maxRecDepth 20000 in
theorem gX3_chunk_X0_isThere_n160 : GoodIn wsX3_chunk (wsX0_isThere) := ggX3_chunk_X0_isThere
theorem dX3_chunk_0 : decode cX3_chunk 0 = .ok (.aload_n 0, 1) := by decide +kernel
theorem dX3_chunk_1 : decode cX3_chunk 1 = .ok (.iload_n 1, 1) := by decide +kernel
theorem dX3_chunk_2 : decode cX3_chunk 2 = .ok (.invokevirtual 113, 3) := by decide +kernel
theorem dX3_chunk_5 : decode cX3_chunk 5 = .ok (.ifCond .eq 10, 3) := by decide +kernel
theorem dX3_chunk_8 : decode cX3_chunk 8 = .ok (.iload_n 2, 1) := by decide +kernel
theorem dX3_chunk_9 : decode cX3_chunk 9 = .ok (.invokestatic 138, 3) := by decide +kernel
theorem dX3_chunk_12 : decode cX3_chunk 12 = .ok (.ifCond .ne 6, 3) := by decide +kernel
theorem dX3_chunk_15 : decode cX3_chunk 15 = .ok (.bipush (-101), 2) := by decide +kernel
theorem dX3_chunk_17 : decode cX3_chunk 17 = .ok (.ireturn, 1) := by decide +kernel
theorem dX3_chunk_18 : decode cX3_chunk 18 = .ok (.aload_n 0, 1) := by decide +kernel
theorem dX3_chunk_19 : decode cX3_chunk 19 = .ok (.getfield 44, 3) := by decide +kernel
theorem dX3_chunk_22 : decode cX3_chunk 22 = .ok (.iload_n 1, 1) := by decide +kernel
theorem dX3_chunk_23 : decode cX3_chunk 23 = .ok (.aaload, 1) := by decide +kernel
theorem dX3_chunk_24 : decode cX3_chunk 24 = .ok (.astore 4, 2) := by decide +kernel
theorem dX3_chunk_26 : decode cX3_chunk 26 = .ok (.iload_n 3, 1) := by decide +kernel
theorem dX3_chunk_27 : decode cX3_chunk 27 = .ok (.ifCond .lt 22, 3) := by decide +kernel
theorem dX3_chunk_30 : decode cX3_chunk 30 = .ok (.iload_n 3, 1) := by decide +kernel
theorem dX3_chunk_31 : decode cX3_chunk 31 = .ok (.bipush 8, 2) := by decide +kernel
theorem dX3_chunk_33 : decode cX3_chunk 33 = .ok (.if_icmp .ge 16, 3) := by decide +kernel
theorem dX3_chunk_36 : decode cX3_chunk 36 = .ok (.aload 4, 2) := by decide +kernel
theorem dX3_chunk_38 : decode cX3_chunk 38 = .ok (.getfield 141, 3) := by decide +kernel
theorem dX3_chunk_41 : decode cX3_chunk 41 = .ok (.iload_n 2, 1) := by decide +kernel
theorem dX3_chunk_42 : decode cX3_chunk 42 = .ok (.bipush 8, 2) := by decide +kernel
theorem dX3_chunk_44 : decode cX3_chunk 44 = .ok (.imul, 1) := by decide +kernel
theorem dX3_chunk_45 : decode cX3_chunk 45 = .ok (.iload_n 3, 1) := by decide +kernel
theorem dX3_chunk_46 : decode cX3_chunk 46 = .ok (.iadd, 1) := by decide +kernel
theorem dX3_chunk_47 : decode cX3_chunk 47 = .ok (.iaload, 1) := by decide +kernel
theorem dX3_chunk_48 : decode cX3_chunk 48 = .ok (.ireturn, 1) := by decide +kernel
theorem dX3_chunk_49 : decode cX3_chunk 49 = .ok (.iload_n 3, 1) := by decide +kernel
theorem dX3_chunk_50 : decode cX3_chunk 50 = .ok (.tableswitch 65 8 10 #[26, 34, 50], 26) := by decide +kernel
theorem dX3_chunk_76 : decode cX3_chunk 76 = .ok (.aload 4, 2) := by decide +kernel
theorem dX3_chunk_78 : decode cX3_chunk 78 = .ok (.getfield 153, 3) := by decide +kernel
theorem dX3_chunk_81 : decode cX3_chunk 81 = .ok (.iload_n 2, 1) := by decide +kernel
theorem dX3_chunk_82 : decode cX3_chunk 82 = .ok (.iaload, 1) := by decide +kernel
theorem dX3_chunk_83 : decode cX3_chunk 83 = .ok (.ireturn, 1) := by decide +kernel
theorem dX3_chunk_84 : decode cX3_chunk 84 = .ok (.aload 4, 2) := by decide +kernel
theorem dX3_chunk_86 : decode cX3_chunk 86 = .ok (.getfield 156, 3) := by decide +kernel
theorem dX3_chunk_89 : decode cX3_chunk 89 = .ok (.iload_n 2, 1) := by decide +kernel
theorem dX3_chunk_90 : decode cX3_chunk 90 = .ok (.baload, 1) := by decide +kernel
theorem dX3_chunk_91 : decode cX3_chunk 91 = .ok (.ifCond .eq 7, 3) := by decide +kernel
theorem dX3_chunk_94 : decode cX3_chunk 94 = .ok (.iconst 1, 1) := by decide +kernel
theorem dX3_chunk_95 : decode cX3_chunk 95 = .ok (.goto 4, 3) := by decide +kernel
theorem dX3_chunk_98 : decode cX3_chunk 98 = .ok (.iconst 0, 1) := by decide +kernel
theorem dX3_chunk_99 : decode cX3_chunk 99 = .ok (.ireturn, 1) := by decide +kernel
theorem dX3_chunk_100 : decode cX3_chunk 100 = .ok (.aload 4, 2) := by decide +kernel
theorem dX3_chunk_102 : decode cX3_chunk 102 = .ok (.iload_n 2, 1) := by decide +kernel
theorem dX3_chunk_103 : decode cX3_chunk 103 = .ok (.invokevirtual 160, 3) := by decide +kernel
theorem dX3_chunk_106 : decode cX3_chunk 106 = .ok (.ifCond .eq 7, 3) := by decide +kernel
theorem dX3_chunk_109 : decode cX3_chunk 109 = .ok (.iconst 1, 1) := by decide +kernel
theorem dX3_chunk_110 : decode cX3_chunk 110 = .ok (.goto 4, 3) := by decide +kernel
theorem dX3_chunk_113 : decode cX3_chunk 113 = .ok (.iconst 0, 1) := by decide +kernel
theorem dX3_chunk_114 : decode cX3_chunk 114 = .ok (.ireturn, 1) := by decide +kernel
theorem dX3_chunk_115 : decode cX3_chunk 115 = .ok (.bipush (-102), 2) := by decide +kernel
theorem dX3_chunk_117 : decode cX3_chunk 117 = .ok (.ireturn, 1) := by decide +kernel
set_option maxRecDepth 20000 in
theorem ggX3_member_X3_isMember : GoodIn wsX3_member wsX3_isMember := goodIn_r _ [6, 7, 8, 9, 10, 11, 12, 13, 14, 15, 16, 17] (by decide +kernel) (by decide +kernel)
set_option maxRecDepth 20000 in
theorem gX3_member_X3_isMember : GoodIn wsX3_member (wsV RX3 113 RX3 yX3_isMember wsX3_isMember) := goodIn_app (goodIn_of _ (by decide +kernel)) ggX3_member_X3_isMember
theorem dX3_member_0 : decode cX3_member 0 = .ok (.aload_n 0, 1) := by decide +kernel
theorem dX3_member_1 : decode cX3_member 1 = .ok (.iload_n 1, 1) := by decide +kernel
theorem dX3_member_2 : decode cX3_member 2 = .ok (.invokevirtual 113, 3) := by decide +kernel
theorem dX3_member_5 : decode cX3_member 5 = .ok (.ifCond .ne 6, 3) := by decide +kernel
theorem dX3_member_8 : decode cX3_member 8 = .ok (.bipush (-101), 2) := by decide +kernel
theorem dX3_member_10 : decode cX3_member 10 = .ok (.ireturn, 1) := by decide +kernel
theorem dX3_member_11 : decode cX3_member 11 = .ok (.iload_n 2, 1) := by decide +kernel
theorem dX3_member_12 : decode cX3_member 12 = .ok (.tableswitch 58 0 2 #[28, 38, 48], 28) := by decide +kernel
theorem dX3_member_40 : decode cX3_member 40 = .ok (.aload_n 0, 1) := by decide +kernel
theorem dX3_member_41 : decode cX3_member 41 = .ok (.getfield 44, 3) := by decide +kernel
theorem dX3_member_44 : decode cX3_member 44 = .ok (.iload_n 1, 1) := by decide +kernel
theorem dX3_member_45 : decode cX3_member 45 = .ok (.aaload, 1) := by decide +kernel
theorem dX3_member_46 : decode cX3_member 46 = .ok (.getfield 120, 3) := by decide +kernel
theorem dX3_member_49 : decode cX3_member 49 = .ok (.ireturn, 1) := by decide +kernel
theorem dX3_member_50 : decode cX3_member 50 = .ok (.aload_n 0, 1) := by decide +kernel
theorem dX3_member_51 : decode cX3_member 51 = .ok (.getfield 44, 3) := by decide +kernel
theorem dX3_member_54 : decode cX3_member 54 = .ok (.iload_n 1, 1) := by decide +kernel
theorem dX3_member_55 : decode cX3_member 55 = .ok (.aaload, 1) := by decide +kernel
theorem dX3_member_56 : decode cX3_member 56 = .ok (.getfield 123, 3) := by decide +kernel
theorem dX3_member_59 : decode cX3_member 59 = .ok (.ireturn, 1) := by decide +kernel
theorem dX3_member_60 : decode cX3_member 60 = .ok (.aload_n 0, 1) := by decide +kernel
theorem dX3_member_61 : decode cX3_member 61 = .ok (.getfield 44, 3) := by decide +kernel
theorem dX3_member_64 : decode cX3_member 64 = .ok (.iload_n 1, 1) := by decide +kernel
theorem dX3_member_65 : decode cX3_member 65 = .ok (.aaload, 1) := by decide +kernel
theorem dX3_member_66 : decode cX3_member 66 = .ok (.getfield 163, 3) := by decide +kernel
theorem dX3_member_69 : decode cX3_member 69 = .ok (.ireturn, 1) := by decide +kernel
theorem dX3_member_70 : decode cX3_member 70 = .ok (.bipush (-102), 2) := by decide +kernel
theorem dX3_member_72 : decode cX3_member 72 = .ok (.ireturn, 1) := by decide +kernel
set_option maxRecDepth 20000 in
theorem ggX3_journal_X2_freeCells : GoodIn wsX3_journal wsX2_freeCells := goodIn_r _ [6, 7, 28, 29, 30, 31, 32, 33] (by decide +kernel) (by decide +kernel)
set_option maxRecDepth 20000 in
theorem gX3_journal_X2_freeCells_n166 : GoodIn wsX3_journal (wsX2_freeCells) := ggX3_journal_X2_freeCells
set_option maxRecDepth 20000 in
theorem ggX3_journal_X3_recordsKnown : GoodIn wsX3_journal wsX3_recordsKnown := goodIn_r _ [12, 1, 2, 18, 19, 20, 21, 22, 23, 24, 25, 26, 27, 28, 29, 30, 31, 32, 33] (by decide +kernel) (by decide +kernel)
set_option maxRecDepth 20000 in
theorem gX3_journal_X3_recordsKnown : GoodIn wsX3_journal (wsV RX3 170 RX3 yX3_recordsKnown wsX3_recordsKnown) := goodIn_app (goodIn_of _ (by decide +kernel)) ggX3_journal_X3_recordsKnown
set_option maxRecDepth 20000 in
theorem ggX3_journal_X2_nextSerial : GoodIn wsX3_journal wsX2_nextSerial := goodIn_r _ [15, 16, 17, 28, 29, 30, 31, 32, 33] (by decide +kernel) (by decide +kernel)
set_option maxRecDepth 20000 in
theorem gX3_journal_X2_nextSerial_n173 : GoodIn wsX3_journal (wsX2_nextSerial) := ggX3_journal_X2_nextSerial
theorem dX3_journal_0 : decode cX3_journal 0 = .ok (.iload_n 1, 1) := by decide +kernel
theorem dX3_journal_1 : decode cX3_journal 1 = .ok (.tableswitch 95 0 4 #[35, 55, 60, 79, 87], 35) := by decide +kernel
theorem dX3_journal_36 : decode cX3_journal 36 = .ok (.aload_n 0, 1) := by decide +kernel
theorem dX3_journal_37 : decode cX3_journal 37 = .ok (.getfield 16, 3) := by decide +kernel
theorem dX3_journal_40 : decode cX3_journal 40 = .ok (.ifCond .eq 8, 3) := by decide +kernel
theorem dX3_journal_43 : decode cX3_journal 43 = .ok (.bipush 32, 2) := by decide +kernel
theorem dX3_journal_45 : decode cX3_journal 45 = .ok (.goto 10, 3) := by decide +kernel
theorem dX3_journal_48 : decode cX3_journal 48 = .ok (.aload_n 0, 1) := by decide +kernel
theorem dX3_journal_49 : decode cX3_journal 49 = .ok (.getfield 54, 3) := by decide +kernel
theorem dX3_journal_52 : decode cX3_journal 52 = .ok (.invokevirtual 166, 3) := by decide +kernel
theorem dX3_journal_55 : decode cX3_journal 55 = .ok (.ireturn, 1) := by decide +kernel
theorem dX3_journal_56 : decode cX3_journal 56 = .ok (.aload_n 0, 1) := by decide +kernel
theorem dX3_journal_57 : decode cX3_journal 57 = .ok (.invokevirtual 170, 3) := by decide +kernel
theorem dX3_journal_60 : decode cX3_journal 60 = .ok (.ireturn, 1) := by decide +kernel
theorem dX3_journal_61 : decode cX3_journal 61 = .ok (.aload_n 0, 1) := by decide +kernel
theorem dX3_journal_62 : decode cX3_journal 62 = .ok (.getfield 16, 3) := by decide +kernel
theorem dX3_journal_65 : decode cX3_journal 65 = .ok (.ifCond .eq 7, 3) := by decide +kernel
theorem dX3_journal_68 : decode cX3_journal 68 = .ok (.iconst 0, 1) := by decide +kernel
theorem dX3_journal_69 : decode cX3_journal 69 = .ok (.goto 10, 3) := by decide +kernel
theorem dX3_journal_72 : decode cX3_journal 72 = .ok (.aload_n 0, 1) := by decide +kernel
theorem dX3_journal_73 : decode cX3_journal 73 = .ok (.getfield 54, 3) := by decide +kernel
theorem dX3_journal_76 : decode cX3_journal 76 = .ok (.invokevirtual 173, 3) := by decide +kernel
theorem dX3_journal_79 : decode cX3_journal 79 = .ok (.ireturn, 1) := by decide +kernel
theorem dX3_journal_80 : decode cX3_journal 80 = .ok (.aload_n 0, 1) := by decide +kernel
theorem dX3_journal_81 : decode cX3_journal 81 = .ok (.getfield 54, 3) := by decide +kernel
theorem dX3_journal_84 : decode cX3_journal 84 = .ok (.getfield 176, 3) := by decide +kernel
theorem dX3_journal_87 : decode cX3_journal 87 = .ok (.ireturn, 1) := by decide +kernel
theorem dX3_journal_88 : decode cX3_journal 88 = .ok (.aload_n 0, 1) := by decide +kernel
theorem dX3_journal_89 : decode cX3_journal 89 = .ok (.getfield 54, 3) := by decide +kernel
theorem dX3_journal_92 : decode cX3_journal 92 = .ok (.getfield 179, 3) := by decide +kernel
theorem dX3_journal_95 : decode cX3_journal 95 = .ok (.ireturn, 1) := by decide +kernel
theorem dX3_journal_96 : decode cX3_journal 96 = .ok (.bipush (-102), 2) := by decide +kernel
theorem dX3_journal_98 : decode cX3_journal 98 = .ok (.ireturn, 1) := by decide +kernel
set_option maxRecDepth 20000 in
theorem ggX3_record_X3_recordsKnown : GoodIn wsX3_record wsX3_recordsKnown := goodIn_r _ [7, 8, 1, 24, 25, 26, 27, 28, 29, 30, 31, 32, 33, 38, 39, 40, 41, 42, 43] (by decide +kernel) (by decide +kernel)
set_option maxRecDepth 20000 in
theorem gX3_record_X3_recordsKnown : GoodIn wsX3_record (wsV RX3 170 RX3 yX3_recordsKnown wsX3_recordsKnown) := goodIn_app (goodIn_of _ (by decide +kernel)) ggX3_record_X3_recordsKnown
set_option maxRecDepth 20000 in
theorem ggX3_record_X2_entry : GoodIn wsX3_record wsX2_entry := goodIn_r _ [12, 13, 14, 38, 39, 40, 41, 42, 43] (by decide +kernel) (by decide +kernel)
set_option maxRecDepth 20000 in
theorem gX3_record_X2_entry_n182 : GoodIn wsX3_record (wsX2_entry) := ggX3_record_X2_entry
set_option maxRecDepth 20000 in
theorem ggX3_record_X3_allData : GoodIn wsX3_record wsX3_allData := goodIn_r _ [18, 2, 24, 25, 26, 27, 28, 29, 30, 31, 32, 33] (by decide +kernel) (by decide +kernel)
set_option maxRecDepth 20000 in
theorem gX3_record_X3_allData : GoodIn wsX3_record (wsV RX3 194 RX3 yX3_allData wsX3_allData) := goodIn_app (goodIn_of _ (by decide +kernel)) ggX3_record_X3_allData
set_option maxRecDepth 20000 in
theorem ggX3_record_X1_has : GoodIn wsX3_record wsX1_has := goodIn_r _ [22, 23, 34, 35, 36, 37] (by decide +kernel) (by decide +kernel)
set_option maxRecDepth 20000 in
theorem gX3_record_X1_has_n197 : GoodIn wsX3_record (wsX1_has) := ggX3_record_X1_has
theorem dX3_record_0 : decode cX3_record 0 = .ok (.iload_n 1, 1) := by decide +kernel
theorem dX3_record_1 : decode cX3_record 1 = .ok (.ifCond .lt 11, 3) := by decide +kernel
theorem dX3_record_4 : decode cX3_record 4 = .ok (.iload_n 1, 1) := by decide +kernel
theorem dX3_record_5 : decode cX3_record 5 = .ok (.aload_n 0, 1) := by decide +kernel
theorem dX3_record_6 : decode cX3_record 6 = .ok (.invokevirtual 170, 3) := by decide +kernel
theorem dX3_record_9 : decode cX3_record 9 = .ok (.if_icmp .lt 6, 3) := by decide +kernel
theorem dX3_record_12 : decode cX3_record 12 = .ok (.bipush (-101), 2) := by decide +kernel
theorem dX3_record_14 : decode cX3_record 14 = .ok (.ireturn, 1) := by decide +kernel
theorem dX3_record_15 : decode cX3_record 15 = .ok (.aload_n 0, 1) := by decide +kernel
theorem dX3_record_16 : decode cX3_record 16 = .ok (.getfield 54, 3) := by decide +kernel
theorem dX3_record_19 : decode cX3_record 19 = .ok (.iload_n 1, 1) := by decide +kernel
theorem dX3_record_20 : decode cX3_record 20 = .ok (.invokevirtual 182, 3) := by decide +kernel
theorem dX3_record_23 : decode cX3_record 23 = .ok (.astore_n 3, 1) := by decide +kernel
theorem dX3_record_24 : decode cX3_record 24 = .ok (.iload_n 2, 1) := by decide +kernel
theorem dX3_record_25 : decode cX3_record 25 = .ok (.tableswitch 82 0 4 #[35, 40, 50, 67, 77], 35) := by decide +kernel
theorem dX3_record_60 : decode cX3_record 60 = .ok (.aload_n 3, 1) := by decide +kernel
theorem dX3_record_61 : decode cX3_record 61 = .ok (.getfield 186, 3) := by decide +kernel
theorem dX3_record_64 : decode cX3_record 64 = .ok (.ireturn, 1) := by decide +kernel
theorem dX3_record_65 : decode cX3_record 65 = .ok (.aload_n 3, 1) := by decide +kernel
theorem dX3_record_66 : decode cX3_record 66 = .ok (.getfield 191, 3) := by decide +kernel
theorem dX3_record_69 : decode cX3_record 69 = .ok (.aload_n 0, 1) := by decide +kernel
theorem dX3_record_70 : decode cX3_record 70 = .ok (.invokevirtual 194, 3) := by decide +kernel
theorem dX3_record_73 : decode cX3_record 73 = .ok (.iand, 1) := by decide +kernel
theorem dX3_record_74 : decode cX3_record 74 = .ok (.ireturn, 1) := by decide +kernel
theorem dX3_record_75 : decode cX3_record 75 = .ok (.aload_n 3, 1) := by decide +kernel
theorem dX3_record_76 : decode cX3_record 76 = .ok (.aload_n 0, 1) := by decide +kernel
theorem dX3_record_77 : decode cX3_record 77 = .ok (.getfield 39, 3) := by decide +kernel
theorem dX3_record_80 : decode cX3_record 80 = .ok (.invokevirtual 197, 3) := by decide +kernel
theorem dX3_record_83 : decode cX3_record 83 = .ok (.ifCond .eq 7, 3) := by decide +kernel
theorem dX3_record_86 : decode cX3_record 86 = .ok (.iconst 1, 1) := by decide +kernel
theorem dX3_record_87 : decode cX3_record 87 = .ok (.goto 4, 3) := by decide +kernel
theorem dX3_record_90 : decode cX3_record 90 = .ok (.iconst 0, 1) := by decide +kernel
theorem dX3_record_91 : decode cX3_record 91 = .ok (.ireturn, 1) := by decide +kernel
theorem dX3_record_92 : decode cX3_record 92 = .ok (.aload_n 0, 1) := by decide +kernel
theorem dX3_record_93 : decode cX3_record 93 = .ok (.getfield 54, 3) := by decide +kernel
theorem dX3_record_96 : decode cX3_record 96 = .ok (.getfield 179, 3) := by decide +kernel
theorem dX3_record_99 : decode cX3_record 99 = .ok (.iload_n 1, 1) := by decide +kernel
theorem dX3_record_100 : decode cX3_record 100 = .ok (.iadd, 1) := by decide +kernel
theorem dX3_record_101 : decode cX3_record 101 = .ok (.ireturn, 1) := by decide +kernel
theorem dX3_record_102 : decode cX3_record 102 = .ok (.aload_n 3, 1) := by decide +kernel
theorem dX3_record_103 : decode cX3_record 103 = .ok (.getfield 200, 3) := by decide +kernel
theorem dX3_record_106 : decode cX3_record 106 = .ok (.ireturn, 1) := by decide +kernel
theorem dX3_record_107 : decode cX3_record 107 = .ok (.bipush (-102), 2) := by decide +kernel
theorem dX3_record_109 : decode cX3_record 109 = .ok (.ireturn, 1) := by decide +kernel
theorem dX3_count_0 : decode cX3_count 0 = .ok (.iload_n 1, 1) := by decide +kernel
theorem dX3_count_1 : decode cX3_count 1 = .ok (.ifCond .lt 9, 3) := by decide +kernel
theorem dX3_count_4 : decode cX3_count 4 = .ok (.iload_n 1, 1) := by decide +kernel
theorem dX3_count_5 : decode cX3_count 5 = .ok (.bipush 13, 2) := by decide +kernel
theorem dX3_count_7 : decode cX3_count 7 = .ok (.if_icmp .lt 8, 3) := by decide +kernel
theorem dX3_count_10 : decode cX3_count 10 = .ok (.bipush (-102), 2) := by decide +kernel
theorem dX3_count_12 : decode cX3_count 12 = .ok (.goto 9, 3) := by decide +kernel
theorem dX3_count_15 : decode cX3_count 15 = .ok (.aload_n 0, 1) := by decide +kernel
theorem dX3_count_16 : decode cX3_count 16 = .ok (.getfield 9, 3) := by decide +kernel
theorem dX3_count_19 : decode cX3_count 19 = .ok (.iload_n 1, 1) := by decide +kernel
theorem dX3_count_20 : decode cX3_count 20 = .ok (.iaload, 1) := by decide +kernel
theorem dX3_count_21 : decode cX3_count 21 = .ok (.ireturn, 1) := by decide +kernel
set_option maxRecDepth 20000 in
theorem ggX3_audit_X3_countNotThere : GoodIn wsX3_audit wsX3_countNotThere := goodIn_r _ [5, 6, 7, 8, 9, 10, 11, 12, 13, 14, 15, 16, 17, 18, 19, 20, 21, 22, 40, 41, 42, 43, 44, 45, 46, 47, 48, 49, 50, 51, 52, 53, 54, 55] (by decide +kernel) (by decide +kernel)
set_option maxRecDepth 20000 in
theorem gX3_audit_X3_countNotThere : GoodIn wsX3_audit (wsV RX3 203 RX3 yX3_countNotThere wsX3_countNotThere) := goodIn_app (goodIn_of _ (by decide +kernel)) ggX3_audit_X3_countNotThere
set_option maxRecDepth 20000 in
theorem ggX3_audit_X3_xorIsZero : GoodIn wsX3_audit wsX3_xorIsZero := goodIn_r _ [26, 27, 28, 29, 30, 4, 31, 32, 33, 34, 35, 6, 7, 36, 37, 38, 39, 40, 41, 42, 43, 44, 45, 46, 47, 48, 49, 50, 51, 52, 53, 54, 55] (by decide +kernel) (by decide +kernel)
set_option maxRecDepth 20000 in
theorem gX3_audit_X3_xorIsZero : GoodIn wsX3_audit (wsV RX3 206 RX3 yX3_xorIsZero wsX3_xorIsZero) := goodIn_app (goodIn_of _ (by decide +kernel)) ggX3_audit_X3_xorIsZero
theorem dX3_audit_0 : decode cX3_audit 0 = .ok (.iconst 0, 1) := by decide +kernel
theorem dX3_audit_1 : decode cX3_audit 1 = .ok (.istore_n 1, 1) := by decide +kernel
theorem dX3_audit_2 : decode cX3_audit 2 = .ok (.iconst 0, 1) := by decide +kernel
theorem dX3_audit_3 : decode cX3_audit 3 = .ok (.istore_n 2, 1) := by decide +kernel
theorem dX3_audit_4 : decode cX3_audit 4 = .ok (.iload_n 2, 1) := by decide +kernel
theorem dX3_audit_5 : decode cX3_audit 5 = .ok (.bipush 24, 2) := by decide +kernel
theorem dX3_audit_7 : decode cX3_audit 7 = .ok (.if_icmp .ge 28, 3) := by decide +kernel
theorem dX3_audit_10 : decode cX3_audit 10 = .ok (.aload_n 0, 1) := by decide +kernel
theorem dX3_audit_11 : decode cX3_audit 11 = .ok (.iload_n 2, 1) := by decide +kernel
theorem dX3_audit_12 : decode cX3_audit 12 = .ok (.invokevirtual 203, 3) := by decide +kernel
theorem dX3_audit_15 : decode cX3_audit 15 = .ok (.ifCond .ne 14, 3) := by decide +kernel
theorem dX3_audit_18 : decode cX3_audit 18 = .ok (.aload_n 0, 1) := by decide +kernel
theorem dX3_audit_19 : decode cX3_audit 19 = .ok (.iload_n 2, 1) := by decide +kernel
theorem dX3_audit_20 : decode cX3_audit 20 = .ok (.invokevirtual 206, 3) := by decide +kernel
theorem dX3_audit_23 : decode cX3_audit 23 = .ok (.ifCond .ne 6, 3) := by decide +kernel
theorem dX3_audit_26 : decode cX3_audit 26 = .ok (.iinc 1 1, 3) := by decide +kernel
theorem dX3_audit_29 : decode cX3_audit 29 = .ok (.iinc 2 1, 3) := by decide +kernel
theorem dX3_audit_32 : decode cX3_audit 32 = .ok (.goto (-28), 3) := by decide +kernel
theorem dX3_audit_35 : decode cX3_audit 35 = .ok (.iload_n 1, 1) := by decide +kernel
theorem dX3_audit_36 : decode cX3_audit 36 = .ok (.ireturn, 1) := by decide +kernel
theorem dX3_isBlock_0 : decode cX3_isBlock 0 = .ok (.iload_n 1, 1) := by decide +kernel
theorem dX3_isBlock_1 : decode cX3_isBlock 1 = .ok (.ifCond .lt 18, 3) := by decide +kernel
theorem dX3_isBlock_4 : decode cX3_isBlock 4 = .ok (.iload_n 1, 1) := by decide +kernel
theorem dX3_isBlock_5 : decode cX3_isBlock 5 = .ok (.bipush 24, 2) := by decide +kernel
theorem dX3_isBlock_7 : decode cX3_isBlock 7 = .ok (.aload_n 0, 1) := by decide +kernel
theorem dX3_isBlock_8 : decode cX3_isBlock 8 = .ok (.getfield 39, 3) := by decide +kernel
theorem dX3_isBlock_11 : decode cX3_isBlock 11 = .ok (.imul, 1) := by decide +kernel
theorem dX3_isBlock_12 : decode cX3_isBlock 12 = .ok (.if_icmp .ge 7, 3) := by decide +kernel
theorem dX3_isBlock_15 : decode cX3_isBlock 15 = .ok (.iconst 1, 1) := by decide +kernel
theorem dX3_isBlock_16 : decode cX3_isBlock 16 = .ok (.goto 4, 3) := by decide +kernel
theorem dX3_isBlock_19 : decode cX3_isBlock 19 = .ok (.iconst 0, 1) := by decide +kernel
theorem dX3_isBlock_20 : decode cX3_isBlock 20 = .ok (.ireturn, 1) := by decide +kernel
theorem dX3_isMember_0 : decode cX3_isMember 0 = .ok (.iload_n 1, 1) := by decide +kernel
theorem dX3_isMember_1 : decode cX3_isMember 1 = .ok (.ifCond .lt 15, 3) := by decide +kernel
theorem dX3_isMember_4 : decode cX3_isMember 4 = .ok (.iload_n 1, 1) := by decide +kernel
theorem dX3_isMember_5 : decode cX3_isMember 5 = .ok (.aload_n 0, 1) := by decide +kernel
theorem dX3_isMember_6 : decode cX3_isMember 6 = .ok (.getfield 36, 3) := by decide +kernel
theorem dX3_isMember_9 : decode cX3_isMember 9 = .ok (.if_icmp .ge 7, 3) := by decide +kernel
theorem dX3_isMember_12 : decode cX3_isMember 12 = .ok (.iconst 1, 1) := by decide +kernel
theorem dX3_isMember_13 : decode cX3_isMember 13 = .ok (.goto 4, 3) := by decide +kernel
theorem dX3_isMember_16 : decode cX3_isMember 16 = .ok (.iconst 0, 1) := by decide +kernel
theorem dX3_isMember_17 : decode cX3_isMember 17 = .ok (.ireturn, 1) := by decide +kernel
theorem dX3_isStripe_0 : decode cX3_isStripe 0 = .ok (.iload_n 0, 1) := by decide +kernel
theorem dX3_isStripe_1 : decode cX3_isStripe 1 = .ok (.ifCond .lt 13, 3) := by decide +kernel
theorem dX3_isStripe_4 : decode cX3_isStripe 4 = .ok (.iload_n 0, 1) := by decide +kernel
theorem dX3_isStripe_5 : decode cX3_isStripe 5 = .ok (.bipush 24, 2) := by decide +kernel
theorem dX3_isStripe_7 : decode cX3_isStripe 7 = .ok (.if_icmp .ge 7, 3) := by decide +kernel
theorem dX3_isStripe_10 : decode cX3_isStripe 10 = .ok (.iconst 1, 1) := by decide +kernel
theorem dX3_isStripe_11 : decode cX3_isStripe 11 = .ok (.goto 4, 3) := by decide +kernel
theorem dX3_isStripe_14 : decode cX3_isStripe 14 = .ok (.iconst 0, 1) := by decide +kernel
theorem dX3_isStripe_15 : decode cX3_isStripe 15 = .ok (.ireturn, 1) := by decide +kernel
theorem dX3_isCut_0 : decode cX3_isCut 0 = .ok (.iload_n 0, 1) := by decide +kernel
theorem dX3_isCut_1 : decode cX3_isCut 1 = .ok (.iconst (-1), 1) := by decide +kernel
theorem dX3_isCut_2 : decode cX3_isCut 2 = .ok (.if_icmp .lt 14, 3) := by decide +kernel
theorem dX3_isCut_5 : decode cX3_isCut 5 = .ok (.iload_n 0, 1) := by decide +kernel
theorem dX3_isCut_6 : decode cX3_isCut 6 = .ok (.sipush 1000, 3) := by decide +kernel
theorem dX3_isCut_9 : decode cX3_isCut 9 = .ok (.if_icmp .gt 7, 3) := by decide +kernel
theorem dX3_isCut_12 : decode cX3_isCut 12 = .ok (.iconst 1, 1) := by decide +kernel
theorem dX3_isCut_13 : decode cX3_isCut 13 = .ok (.goto 4, 3) := by decide +kernel
theorem dX3_isCut_16 : decode cX3_isCut 16 = .ok (.iconst 0, 1) := by decide +kernel
theorem dX3_isCut_17 : decode cX3_isCut 17 = .ok (.ireturn, 1) := by decide +kernel
theorem dX3_parityMember_0 : decode cX3_parityMember 0 = .ok (.aload_n 0, 1) := by decide +kernel
theorem dX3_parityMember_1 : decode cX3_parityMember 1 = .ok (.getfield 36, 3) := by decide +kernel
theorem dX3_parityMember_4 : decode cX3_parityMember 4 = .ok (.iconst 1, 1) := by decide +kernel
theorem dX3_parityMember_5 : decode cX3_parityMember 5 = .ok (.isub, 1) := by decide +kernel
theorem dX3_parityMember_6 : decode cX3_parityMember 6 = .ok (.iload_n 1, 1) := by decide +kernel
theorem dX3_parityMember_7 : decode cX3_parityMember 7 = .ok (.aload_n 0, 1) := by decide +kernel
theorem dX3_parityMember_8 : decode cX3_parityMember 8 = .ok (.getfield 36, 3) := by decide +kernel
theorem dX3_parityMember_11 : decode cX3_parityMember 11 = .ok (.irem, 1) := by decide +kernel
theorem dX3_parityMember_12 : decode cX3_parityMember 12 = .ok (.isub, 1) := by decide +kernel
theorem dX3_parityMember_13 : decode cX3_parityMember 13 = .ok (.ireturn, 1) := by decide +kernel
set_option maxRecDepth 20000 in
theorem ggX3_memberOf_X3_parityMember : GoodIn wsX3_memberOf wsX3_parityMember := goodIn_r _ [6, 1, 7, 8, 9, 10, 11, 12, 13, 14, 15, 16] (by decide +kernel) (by decide +kernel)
set_option maxRecDepth 20000 in
theorem gX3_memberOf_X3_parityMember : GoodIn wsX3_memberOf (wsV RX3 65 RX3 yX3_parityMember wsX3_parityMember) := goodIn_app (goodIn_of _ (by decide +kernel)) ggX3_memberOf_X3_parityMember
theorem dX3_memberOf_0 : decode cX3_memberOf 0 = .ok (.aload_n 0, 1) := by decide +kernel
theorem dX3_memberOf_1 : decode cX3_memberOf 1 = .ok (.iload_n 1, 1) := by decide +kernel
theorem dX3_memberOf_2 : decode cX3_memberOf 2 = .ok (.invokevirtual 65, 3) := by decide +kernel
theorem dX3_memberOf_5 : decode cX3_memberOf 5 = .ok (.iconst 1, 1) := by decide +kernel
theorem dX3_memberOf_6 : decode cX3_memberOf 6 = .ok (.iadd, 1) := by decide +kernel
theorem dX3_memberOf_7 : decode cX3_memberOf 7 = .ok (.iload_n 2, 1) := by decide +kernel
theorem dX3_memberOf_8 : decode cX3_memberOf 8 = .ok (.iadd, 1) := by decide +kernel
theorem dX3_memberOf_9 : decode cX3_memberOf 9 = .ok (.aload_n 0, 1) := by decide +kernel
theorem dX3_memberOf_10 : decode cX3_memberOf 10 = .ok (.getfield 36, 3) := by decide +kernel
theorem dX3_memberOf_13 : decode cX3_memberOf 13 = .ok (.irem, 1) := by decide +kernel
theorem dX3_memberOf_14 : decode cX3_memberOf 14 = .ok (.ireturn, 1) := by decide +kernel
theorem dX3_allData_0 : decode cX3_allData 0 = .ok (.iconst 1, 1) := by decide +kernel
theorem dX3_allData_1 : decode cX3_allData 1 = .ok (.aload_n 0, 1) := by decide +kernel
theorem dX3_allData_2 : decode cX3_allData 2 = .ok (.getfield 39, 3) := by decide +kernel
theorem dX3_allData_5 : decode cX3_allData 5 = .ok (.ishl, 1) := by decide +kernel
theorem dX3_allData_6 : decode cX3_allData 6 = .ok (.iconst 1, 1) := by decide +kernel
theorem dX3_allData_7 : decode cX3_allData 7 = .ok (.isub, 1) := by decide +kernel
theorem dX3_allData_8 : decode cX3_allData 8 = .ok (.ireturn, 1) := by decide +kernel
theorem dX3_recordsKnown_0 : decode cX3_recordsKnown 0 = .ok (.aload_n 0, 1) := by decide +kernel
theorem dX3_recordsKnown_1 : decode cX3_recordsKnown 1 = .ok (.getfield 16, 3) := by decide +kernel
theorem dX3_recordsKnown_4 : decode cX3_recordsKnown 4 = .ok (.ifCond .eq 7, 3) := by decide +kernel
theorem dX3_recordsKnown_7 : decode cX3_recordsKnown 7 = .ok (.iconst 0, 1) := by decide +kernel
theorem dX3_recordsKnown_8 : decode cX3_recordsKnown 8 = .ok (.goto 10, 3) := by decide +kernel
theorem dX3_recordsKnown_11 : decode cX3_recordsKnown 11 = .ok (.aload_n 0, 1) := by decide +kernel
theorem dX3_recordsKnown_12 : decode cX3_recordsKnown 12 = .ok (.getfield 54, 3) := by decide +kernel
theorem dX3_recordsKnown_15 : decode cX3_recordsKnown 15 = .ok (.getfield 107, 3) := by decide +kernel
theorem dX3_recordsKnown_18 : decode cX3_recordsKnown 18 = .ok (.ireturn, 1) := by decide +kernel
theorem dX3_memberThat_0 : decode cX3_memberThat 0 = .ok (.iconst 0, 1) := by decide +kernel
theorem dX3_memberThat_1 : decode cX3_memberThat 1 = .ok (.istore_n 2, 1) := by decide +kernel
theorem dX3_memberThat_2 : decode cX3_memberThat 2 = .ok (.iload_n 2, 1) := by decide +kernel
theorem dX3_memberThat_3 : decode cX3_memberThat 3 = .ok (.aload_n 0, 1) := by decide +kernel
theorem dX3_memberThat_4 : decode cX3_memberThat 4 = .ok (.getfield 36, 3) := by decide +kernel
theorem dX3_memberThat_7 : decode cX3_memberThat 7 = .ok (.if_icmp .ge 24, 3) := by decide +kernel
theorem dX3_memberThat_10 : decode cX3_memberThat 10 = .ok (.aload_n 0, 1) := by decide +kernel
theorem dX3_memberThat_11 : decode cX3_memberThat 11 = .ok (.getfield 44, 3) := by decide +kernel
theorem dX3_memberThat_14 : decode cX3_memberThat 14 = .ok (.iload_n 2, 1) := by decide +kernel
theorem dX3_memberThat_15 : decode cX3_memberThat 15 = .ok (.aaload, 1) := by decide +kernel
theorem dX3_memberThat_16 : decode cX3_memberThat 16 = .ok (.getfield 120, 3) := by decide +kernel
theorem dX3_memberThat_19 : decode cX3_memberThat 19 = .ok (.iload_n 1, 1) := by decide +kernel
theorem dX3_memberThat_20 : decode cX3_memberThat 20 = .ok (.if_icmp .ne 5, 3) := by decide +kernel
theorem dX3_memberThat_23 : decode cX3_memberThat 23 = .ok (.iload_n 2, 1) := by decide +kernel
theorem dX3_memberThat_24 : decode cX3_memberThat 24 = .ok (.ireturn, 1) := by decide +kernel
theorem dX3_memberThat_25 : decode cX3_memberThat 25 = .ok (.iinc 2 1, 3) := by decide +kernel
theorem dX3_memberThat_28 : decode cX3_memberThat 28 = .ok (.goto (-26), 3) := by decide +kernel
theorem dX3_memberThat_31 : decode cX3_memberThat 31 = .ok (.iconst (-1), 1) := by decide +kernel
theorem dX3_memberThat_32 : decode cX3_memberThat 32 = .ok (.ireturn, 1) := by decide +kernel
set_option maxRecDepth 20000 in
theorem ggX3_allOn_X3_memberThat : GoodIn wsX3_allOn wsX3_memberThat := goodIn_r _ [5, 6, 7, 8, 9, 10, 11, 12, 13, 14, 15, 16, 17, 18, 19, 20, 21, 22, 23] (by decide +kernel) (by decide +kernel)
set_option maxRecDepth 20000 in
theorem gX3_allOn_X3_memberThat : GoodIn wsX3_allOn (wsV RX3 126 RX3 yX3_memberThat wsX3_memberThat) := goodIn_app (goodIn_of _ (by decide +kernel)) ggX3_allOn_X3_memberThat
theorem dX3_allOn_0 : decode cX3_allOn 0 = .ok (.aload_n 0, 1) := by decide +kernel
theorem dX3_allOn_1 : decode cX3_allOn 1 = .ok (.iconst 1, 1) := by decide +kernel
theorem dX3_allOn_2 : decode cX3_allOn 2 = .ok (.invokevirtual 126, 3) := by decide +kernel
theorem dX3_allOn_5 : decode cX3_allOn 5 = .ok (.iconst (-1), 1) := by decide +kernel
theorem dX3_allOn_6 : decode cX3_allOn 6 = .ok (.if_icmp .ne 16, 3) := by decide +kernel
theorem dX3_allOn_9 : decode cX3_allOn 9 = .ok (.aload_n 0, 1) := by decide +kernel
theorem dX3_allOn_10 : decode cX3_allOn 10 = .ok (.iconst 2, 1) := by decide +kernel
theorem dX3_allOn_11 : decode cX3_allOn 11 = .ok (.invokevirtual 126, 3) := by decide +kernel
theorem dX3_allOn_14 : decode cX3_allOn 14 = .ok (.iconst (-1), 1) := by decide +kernel
theorem dX3_allOn_15 : decode cX3_allOn 15 = .ok (.if_icmp .ne 7, 3) := by decide +kernel
theorem dX3_allOn_18 : decode cX3_allOn 18 = .ok (.iconst 1, 1) := by decide +kernel
theorem dX3_allOn_19 : decode cX3_allOn 19 = .ok (.goto 4, 3) := by decide +kernel
theorem dX3_allOn_22 : decode cX3_allOn 22 = .ok (.iconst 0, 1) := by decide +kernel
theorem dX3_allOn_23 : decode cX3_allOn 23 = .ok (.ireturn, 1) := by decide +kernel
set_option maxRecDepth 20000 in
theorem ggX3_countNotThere_X0_isThere : GoodIn wsX3_countNotThere wsX0_isThere := goodIn_r _ [6, 7, 8, 9, 10, 11, 12, 4, 13, 14, 15, 16, 17, 28, 29, 30, 31, 32, 33] (by decide +kernel) (by decide +kernel)
set_option maxRecDepth 20000 in
theorem gX3_countNotThere_X0_isThere_n160 : GoodIn wsX3_countNotThere (wsX0_isThere) := ggX3_countNotThere_X0_isThere
theorem dX3_countNotThere_0 : decode cX3_countNotThere 0 = .ok (.iconst 0, 1) := by decide +kernel
theorem dX3_countNotThere_1 : decode cX3_countNotThere 1 = .ok (.istore_n 2, 1) := by decide +kernel
theorem dX3_countNotThere_2 : decode cX3_countNotThere 2 = .ok (.iconst 0, 1) := by decide +kernel
theorem dX3_countNotThere_3 : decode cX3_countNotThere 3 = .ok (.istore_n 3, 1) := by decide +kernel
theorem dX3_countNotThere_4 : decode cX3_countNotThere 4 = .ok (.iload_n 3, 1) := by decide +kernel
end
section
theorem dX3_countNotThere_5 : decode cX3_countNotThere 5 = .ok (.aload_n 0, 1) := by decide +kernel
theorem dX3_countNotThere_6 : decode cX3_countNotThere 6 = .ok (.getfield 36, 3) := by decide +kernel
theorem dX3_countNotThere_9 : decode cX3_countNotThere 9 = .ok (.if_icmp .ge 25, 3) := by decide +kernel
theorem dX3_countNotThere_12 : decode cX3_countNotThere 12 = .ok (.aload_n 0, 1) := by decide +kernel
theorem dX3_countNotThere_13 : decode cX3_countNotThere 13 = .ok (.getfield 44, 3) := by decide +kernel
theorem dX3_countNotThere_16 : decode cX3_countNotThere 16 = .ok (.iload_n 3, 1) := by decide +kernel
theorem dX3_countNotThere_17 : decode cX3_countNotThere 17 = .ok (.aaload, 1) := by decide +kernel
theorem dX3_countNotThere_18 : decode cX3_countNotThere 18 = .ok (.iload_n 1, 1) := by decide +kernel
theorem dX3_countNotThere_19 : decode cX3_countNotThere 19 = .ok (.invokevirtual 160, 3) := by decide +kernel
theorem dX3_countNotThere_22 : decode cX3_countNotThere 22 = .ok (.ifCond .ne 6, 3) := by decide +kernel
theorem dX3_countNotThere_25 : decode cX3_countNotThere 25 = .ok (.iinc 2 1, 3) := by decide +kernel
theorem dX3_countNotThere_28 : decode cX3_countNotThere 28 = .ok (.iinc 3 1, 3) := by decide +kernel
theorem dX3_countNotThere_31 : decode cX3_countNotThere 31 = .ok (.goto (-27), 3) := by decide +kernel
theorem dX3_countNotThere_34 : decode cX3_countNotThere 34 = .ok (.iload_n 2, 1) := by decide +kernel
theorem dX3_countNotThere_35 : decode cX3_countNotThere 35 = .ok (.ireturn, 1) := by decide +kernel
set_option maxRecDepth 20000 in
theorem ggX3_othersThere_X3_countNotThere : GoodIn wsX3_othersThere wsX3_countNotThere := goodIn_r _ [6, 7, 1, 8, 9, 10, 11, 12, 13, 14, 15, 16, 17, 18, 19, 20, 21, 22, 23, 24, 25, 26, 27, 28, 29, 30, 31, 32, 33, 34, 35, 36, 37, 38] (by decide +kernel) (by decide +kernel)
set_option maxRecDepth 20000 in
theorem gX3_othersThere_X3_countNotThere : GoodIn wsX3_othersThere (wsV RX3 203 RX3 yX3_countNotThere wsX3_countNotThere) := goodIn_app (goodIn_of _ (by decide +kernel)) ggX3_othersThere_X3_countNotThere
set_option maxRecDepth 20000 in
theorem ggX3_othersThere_X0_isThere : GoodIn wsX3_othersThere wsX0_isThere := goodIn_r _ [11, 12, 13, 14, 15, 16, 17, 9, 18, 19, 20, 21, 22, 33, 34, 35, 36, 37, 38] (by decide +kernel) (by decide +kernel)
set_option maxRecDepth 20000 in
theorem gX3_othersThere_X0_isThere_n160 : GoodIn wsX3_othersThere (wsX0_isThere) := ggX3_othersThere_X0_isThere
theorem dX3_othersThere_0 : decode cX3_othersThere 0 = .ok (.aload_n 0, 1) := by decide +kernel
theorem dX3_othersThere_1 : decode cX3_othersThere 1 = .ok (.iload_n 2, 1) := by decide +kernel
theorem dX3_othersThere_2 : decode cX3_othersThere 2 = .ok (.invokevirtual 203, 3) := by decide +kernel
theorem dX3_othersThere_5 : decode cX3_othersThere 5 = .ok (.aload_n 0, 1) := by decide +kernel
theorem dX3_othersThere_6 : decode cX3_othersThere 6 = .ok (.getfield 44, 3) := by decide +kernel
theorem dX3_othersThere_9 : decode cX3_othersThere 9 = .ok (.iload_n 1, 1) := by decide +kernel
theorem dX3_othersThere_10 : decode cX3_othersThere 10 = .ok (.aaload, 1) := by decide +kernel
theorem dX3_othersThere_11 : decode cX3_othersThere 11 = .ok (.iload_n 2, 1) := by decide +kernel
theorem dX3_othersThere_12 : decode cX3_othersThere 12 = .ok (.invokevirtual 160, 3) := by decide +kernel
theorem dX3_othersThere_15 : decode cX3_othersThere 15 = .ok (.ifCond .eq 7, 3) := by decide +kernel
theorem dX3_othersThere_18 : decode cX3_othersThere 18 = .ok (.iconst 0, 1) := by decide +kernel
theorem dX3_othersThere_19 : decode cX3_othersThere 19 = .ok (.goto 4, 3) := by decide +kernel
theorem dX3_othersThere_22 : decode cX3_othersThere 22 = .ok (.iconst 1, 1) := by decide +kernel
theorem dX3_othersThere_23 : decode cX3_othersThere 23 = .ok (.if_icmp .ne 7, 3) := by decide +kernel
theorem dX3_othersThere_26 : decode cX3_othersThere 26 = .ok (.iconst 1, 1) := by decide +kernel
theorem dX3_othersThere_27 : decode cX3_othersThere 27 = .ok (.goto 4, 3) := by decide +kernel
theorem dX3_othersThere_30 : decode cX3_othersThere 30 = .ok (.iconst 0, 1) := by decide +kernel
theorem dX3_othersThere_31 : decode cX3_othersThere 31 = .ok (.ireturn, 1) := by decide +kernel
set_option maxRecDepth 20000 in
theorem ggX3_sourceOf_X2_latestWith : GoodIn wsX3_sourceOf wsX2_latestWith := goodIn_r _ [6, 7, 8, 9, 10, 4, 11, 12, 13, 14, 15, 16, 17, 18, 62, 63, 64, 65, 66, 67, 68, 69, 70, 71] (by decide +kernel) (by decide +kernel)
set_option maxRecDepth 20000 in
theorem gX3_sourceOf_X2_latestWith_n209 : GoodIn wsX3_sourceOf (wsX2_latestWith) := ggX3_sourceOf_X2_latestWith
set_option maxRecDepth 20000 in
theorem ggX3_sourceOf_X3_memberOf : GoodIn wsX3_sourceOf wsX3_memberOf := goodIn_r _ [23, 24, 25, 26, 27, 22, 28, 52, 53, 54, 55, 56, 57, 58, 59, 60, 61] (by decide +kernel) (by decide +kernel)
set_option maxRecDepth 20000 in
theorem gX3_sourceOf_X3_memberOf : GoodIn wsX3_sourceOf (wsV RX3 62 RX3 yX3_memberOf wsX3_memberOf) := goodIn_app (goodIn_of _ (by decide +kernel)) ggX3_sourceOf_X3_memberOf
set_option maxRecDepth 20000 in
theorem ggX3_sourceOf_X0_isThere : GoodIn wsX3_sourceOf wsX0_isThere := goodIn_r _ [32, 33, 34, 35, 36, 37, 38, 30, 39, 40, 41, 42, 43, 72, 73, 74, 75, 76, 77] (by decide +kernel) (by decide +kernel)
set_option maxRecDepth 20000 in
theorem gX3_sourceOf_X0_isThere_n160 : GoodIn wsX3_sourceOf (wsX0_isThere) := ggX3_sourceOf_X0_isThere
set_option maxRecDepth 20000 in
theorem ggX3_sourceOf_X3_othersThere : GoodIn wsX3_sourceOf wsX3_othersThere := goodIn_r _ [47, 2, 48, 49, 50, 22, 51, 24, 29, 30, 31, 32, 33, 34, 35, 36, 37, 38, 39, 40, 41, 42, 43, 52, 53, 54, 55, 56, 57, 58, 59, 60, 61, 72, 73, 74, 75, 76, 77] (by decide +kernel) (by decide +kernel)
set_option maxRecDepth 20000 in
theorem gX3_sourceOf_X3_othersThere : GoodIn wsX3_sourceOf (wsV RX3 213 RX3 yX3_othersThere wsX3_othersThere) := goodIn_app (goodIn_of _ (by decide +kernel)) ggX3_sourceOf_X3_othersThere
theorem dX3_sourceOf_0 : decode cX3_sourceOf 0 = .ok (.aload_n 0, 1) := by decide +kernel
theorem dX3_sourceOf_1 : decode cX3_sourceOf 1 = .ok (.getfield 54, 3) := by decide +kernel
theorem dX3_sourceOf_4 : decode cX3_sourceOf 4 = .ok (.iload_n 1, 1) := by decide +kernel
theorem dX3_sourceOf_5 : decode cX3_sourceOf 5 = .ok (.iload_n 2, 1) := by decide +kernel
theorem dX3_sourceOf_6 : decode cX3_sourceOf 6 = .ok (.invokevirtual 209, 3) := by decide +kernel
theorem dX3_sourceOf_9 : decode cX3_sourceOf 9 = .ok (.ifnull 5, 3) := by decide +kernel
theorem dX3_sourceOf_12 : decode cX3_sourceOf 12 = .ok (.iconst 1, 1) := by decide +kernel
theorem dX3_sourceOf_13 : decode cX3_sourceOf 13 = .ok (.ireturn, 1) := by decide +kernel
theorem dX3_sourceOf_14 : decode cX3_sourceOf 14 = .ok (.aload_n 0, 1) := by decide +kernel
theorem dX3_sourceOf_15 : decode cX3_sourceOf 15 = .ok (.iload_n 1, 1) := by decide +kernel
theorem dX3_sourceOf_16 : decode cX3_sourceOf 16 = .ok (.iload_n 2, 1) := by decide +kernel
theorem dX3_sourceOf_17 : decode cX3_sourceOf 17 = .ok (.invokevirtual 62, 3) := by decide +kernel
theorem dX3_sourceOf_20 : decode cX3_sourceOf 20 = .ok (.istore_n 3, 1) := by decide +kernel
theorem dX3_sourceOf_21 : decode cX3_sourceOf 21 = .ok (.aload_n 0, 1) := by decide +kernel
theorem dX3_sourceOf_22 : decode cX3_sourceOf 22 = .ok (.getfield 44, 3) := by decide +kernel
theorem dX3_sourceOf_25 : decode cX3_sourceOf 25 = .ok (.iload_n 3, 1) := by decide +kernel
theorem dX3_sourceOf_26 : decode cX3_sourceOf 26 = .ok (.aaload, 1) := by decide +kernel
theorem dX3_sourceOf_27 : decode cX3_sourceOf 27 = .ok (.iload_n 1, 1) := by decide +kernel
theorem dX3_sourceOf_28 : decode cX3_sourceOf 28 = .ok (.invokevirtual 160, 3) := by decide +kernel
theorem dX3_sourceOf_31 : decode cX3_sourceOf 31 = .ok (.ifCond .eq 5, 3) := by decide +kernel
theorem dX3_sourceOf_34 : decode cX3_sourceOf 34 = .ok (.iconst 0, 1) := by decide +kernel
theorem dX3_sourceOf_35 : decode cX3_sourceOf 35 = .ok (.ireturn, 1) := by decide +kernel
theorem dX3_sourceOf_36 : decode cX3_sourceOf 36 = .ok (.aload_n 0, 1) := by decide +kernel
theorem dX3_sourceOf_37 : decode cX3_sourceOf 37 = .ok (.iload_n 3, 1) := by decide +kernel
theorem dX3_sourceOf_38 : decode cX3_sourceOf 38 = .ok (.iload_n 1, 1) := by decide +kernel
theorem dX3_sourceOf_39 : decode cX3_sourceOf 39 = .ok (.invokevirtual 213, 3) := by decide +kernel
theorem dX3_sourceOf_42 : decode cX3_sourceOf 42 = .ok (.ifCond .eq 7, 3) := by decide +kernel
theorem dX3_sourceOf_45 : decode cX3_sourceOf 45 = .ok (.iconst 2, 1) := by decide +kernel
theorem dX3_sourceOf_46 : decode cX3_sourceOf 46 = .ok (.goto 4, 3) := by decide +kernel
theorem dX3_sourceOf_49 : decode cX3_sourceOf 49 = .ok (.iconst 3, 1) := by decide +kernel
theorem dX3_sourceOf_50 : decode cX3_sourceOf 50 = .ok (.ireturn, 1) := by decide +kernel
set_option maxRecDepth 20000 in
theorem ggX3_isNewestNone_X2_latestWith : GoodIn wsX3_isNewestNone wsX2_latestWith := goodIn_r _ [6, 7, 8, 9, 10, 4, 11, 12, 13, 14, 15, 16, 17, 18, 54, 55, 56, 57, 58, 59, 60, 61, 62, 63] (by decide +kernel) (by decide +kernel)
set_option maxRecDepth 20000 in
theorem gX3_isNewestNone_X2_latestWith_n209 : GoodIn wsX3_isNewestNone (wsX2_latestWith) := ggX3_isNewestNone_X2_latestWith
set_option maxRecDepth 20000 in
theorem ggX3_isNewestNone_X3_memberOf : GoodIn wsX3_isNewestNone wsX3_memberOf := goodIn_r _ [23, 24, 25, 26, 27, 22, 28, 44, 45, 46, 47, 48, 49, 50, 51, 52, 53] (by decide +kernel) (by decide +kernel)
set_option maxRecDepth 20000 in
theorem gX3_isNewestNone_X3_memberOf : GoodIn wsX3_isNewestNone (wsV RX3 62 RX3 yX3_memberOf wsX3_memberOf) := goodIn_app (goodIn_of _ (by decide +kernel)) ggX3_isNewestNone_X3_memberOf
set_option maxRecDepth 20000 in
theorem ggX3_isNewestNone_X0_isThere : GoodIn wsX3_isNewestNone wsX0_isThere := goodIn_r _ [32, 33, 34, 35, 36, 37, 38, 30, 39, 40, 41, 42, 43, 64, 65, 66, 67, 68, 69] (by decide +kernel) (by decide +kernel)
set_option maxRecDepth 20000 in
theorem gX3_isNewestNone_X0_isThere_n160 : GoodIn wsX3_isNewestNone (wsX0_isThere) := ggX3_isNewestNone_X0_isThere
theorem dX3_isNewestNone_0 : decode cX3_isNewestNone 0 = .ok (.aload_n 0, 1) := by decide +kernel
theorem dX3_isNewestNone_1 : decode cX3_isNewestNone 1 = .ok (.getfield 54, 3) := by decide +kernel
theorem dX3_isNewestNone_4 : decode cX3_isNewestNone 4 = .ok (.iload_n 1, 1) := by decide +kernel
theorem dX3_isNewestNone_5 : decode cX3_isNewestNone 5 = .ok (.iload_n 2, 1) := by decide +kernel
theorem dX3_isNewestNone_6 : decode cX3_isNewestNone 6 = .ok (.invokevirtual 209, 3) := by decide +kernel
theorem dX3_isNewestNone_9 : decode cX3_isNewestNone 9 = .ok (.ifnonnull 25, 3) := by decide +kernel
theorem dX3_isNewestNone_12 : decode cX3_isNewestNone 12 = .ok (.aload_n 0, 1) := by decide +kernel
theorem dX3_isNewestNone_13 : decode cX3_isNewestNone 13 = .ok (.getfield 44, 3) := by decide +kernel
theorem dX3_isNewestNone_16 : decode cX3_isNewestNone 16 = .ok (.aload_n 0, 1) := by decide +kernel
theorem dX3_isNewestNone_17 : decode cX3_isNewestNone 17 = .ok (.iload_n 1, 1) := by decide +kernel
theorem dX3_isNewestNone_18 : decode cX3_isNewestNone 18 = .ok (.iload_n 2, 1) := by decide +kernel
theorem dX3_isNewestNone_19 : decode cX3_isNewestNone 19 = .ok (.invokevirtual 62, 3) := by decide +kernel
theorem dX3_isNewestNone_22 : decode cX3_isNewestNone 22 = .ok (.aaload, 1) := by decide +kernel
theorem dX3_isNewestNone_23 : decode cX3_isNewestNone 23 = .ok (.iload_n 1, 1) := by decide +kernel
theorem dX3_isNewestNone_24 : decode cX3_isNewestNone 24 = .ok (.invokevirtual 160, 3) := by decide +kernel
theorem dX3_isNewestNone_27 : decode cX3_isNewestNone 27 = .ok (.ifCond .ne 7, 3) := by decide +kernel
theorem dX3_isNewestNone_30 : decode cX3_isNewestNone 30 = .ok (.iconst 1, 1) := by decide +kernel
theorem dX3_isNewestNone_31 : decode cX3_isNewestNone 31 = .ok (.goto 4, 3) := by decide +kernel
theorem dX3_isNewestNone_34 : decode cX3_isNewestNone 34 = .ok (.iconst 0, 1) := by decide +kernel
theorem dX3_isNewestNone_35 : decode cX3_isNewestNone 35 = .ok (.ireturn, 1) := by decide +kernel
set_option maxRecDepth 20000 in
theorem ggX3_haveNewest_X3_isNewestNone : GoodIn wsX3_haveNewest wsX3_isNewestNone := goodIn_r _ [6, 7, 8, 9, 10, 11, 12, 13, 14, 15, 16, 17, 18, 19, 20, 21, 22, 23, 24, 25, 26, 27, 5, 28, 1, 29, 30, 31, 32, 33, 34, 35, 36, 37, 38, 39, 40, 41, 42, 43, 44, 45, 46, 47, 48, 49, 50, 51, 52, 53, 54, 55, 56, 57, 58, 59, 60, 61, 62, 63, 64, 65, 66, 67, 68, 69, 70, 71, 72, 73] (by decide +kernel) (by decide +kernel)
set_option maxRecDepth 20000 in
theorem gX3_haveNewest_X3_isNewestNone : GoodIn wsX3_haveNewest (wsV RX3 216 RX3 yX3_isNewestNone wsX3_isNewestNone) := goodIn_app (goodIn_of _ (by decide +kernel)) ggX3_haveNewest_X3_isNewestNone
theorem dX3_haveNewest_0 : decode cX3_haveNewest 0 = .ok (.iconst 0, 1) := by decide +kernel
theorem dX3_haveNewest_1 : decode cX3_haveNewest 1 = .ok (.istore_n 3, 1) := by decide +kernel
theorem dX3_haveNewest_2 : decode cX3_haveNewest 2 = .ok (.iload_n 3, 1) := by decide +kernel
theorem dX3_haveNewest_3 : decode cX3_haveNewest 3 = .ok (.aload_n 0, 1) := by decide +kernel
theorem dX3_haveNewest_4 : decode cX3_haveNewest 4 = .ok (.getfield 36, 3) := by decide +kernel
theorem dX3_haveNewest_7 : decode cX3_haveNewest 7 = .ok (.if_icmp .ge 41, 3) := by decide +kernel
theorem dX3_haveNewest_10 : decode cX3_haveNewest 10 = .ok (.iload_n 2, 1) := by decide +kernel
theorem dX3_haveNewest_11 : decode cX3_haveNewest 11 = .ok (.iload_n 3, 1) := by decide +kernel
theorem dX3_haveNewest_12 : decode cX3_haveNewest 12 = .ok (.ishr, 1) := by decide +kernel
theorem dX3_haveNewest_13 : decode cX3_haveNewest 13 = .ok (.iconst 1, 1) := by decide +kernel
theorem dX3_haveNewest_14 : decode cX3_haveNewest 14 = .ok (.iand, 1) := by decide +kernel
theorem dX3_haveNewest_15 : decode cX3_haveNewest 15 = .ok (.iconst 1, 1) := by decide +kernel
theorem dX3_haveNewest_16 : decode cX3_haveNewest 16 = .ok (.if_icmp .ne 7, 3) := by decide +kernel
theorem dX3_haveNewest_19 : decode cX3_haveNewest 19 = .ok (.iconst 1, 1) := by decide +kernel
theorem dX3_haveNewest_20 : decode cX3_haveNewest 20 = .ok (.goto 4, 3) := by decide +kernel
theorem dX3_haveNewest_23 : decode cX3_haveNewest 23 = .ok (.iconst 0, 1) := by decide +kernel
theorem dX3_haveNewest_24 : decode cX3_haveNewest 24 = .ok (.istore 4, 2) := by decide +kernel
theorem dX3_haveNewest_26 : decode cX3_haveNewest 26 = .ok (.iload 4, 2) := by decide +kernel
theorem dX3_haveNewest_28 : decode cX3_haveNewest 28 = .ok (.ifCond .eq 14, 3) := by decide +kernel
theorem dX3_haveNewest_31 : decode cX3_haveNewest 31 = .ok (.aload_n 0, 1) := by decide +kernel
theorem dX3_haveNewest_32 : decode cX3_haveNewest 32 = .ok (.iload_n 1, 1) := by decide +kernel
theorem dX3_haveNewest_33 : decode cX3_haveNewest 33 = .ok (.iload_n 3, 1) := by decide +kernel
theorem dX3_haveNewest_34 : decode cX3_haveNewest 34 = .ok (.invokevirtual 216, 3) := by decide +kernel
theorem dX3_haveNewest_37 : decode cX3_haveNewest 37 = .ok (.ifCond .eq 5, 3) := by decide +kernel
theorem dX3_haveNewest_40 : decode cX3_haveNewest 40 = .ok (.iconst 0, 1) := by decide +kernel
theorem dX3_haveNewest_41 : decode cX3_haveNewest 41 = .ok (.ireturn, 1) := by decide +kernel
theorem dX3_haveNewest_42 : decode cX3_haveNewest 42 = .ok (.iinc 3 1, 3) := by decide +kernel
theorem dX3_haveNewest_45 : decode cX3_haveNewest 45 = .ok (.goto (-43), 3) := by decide +kernel
theorem dX3_haveNewest_48 : decode cX3_haveNewest 48 = .ok (.iconst 1, 1) := by decide +kernel
theorem dX3_haveNewest_49 : decode cX3_haveNewest 49 = .ok (.ireturn, 1) := by decide +kernel
theorem dX3_clearMixed_0 : decode cX3_clearMixed 0 = .ok (.iconst 0, 1) := by decide +kernel
theorem dX3_clearMixed_1 : decode cX3_clearMixed 1 = .ok (.istore_n 1, 1) := by decide +kernel
theorem dX3_clearMixed_2 : decode cX3_clearMixed 2 = .ok (.iload_n 1, 1) := by decide +kernel
theorem dX3_clearMixed_3 : decode cX3_clearMixed 3 = .ok (.bipush 8, 2) := by decide +kernel
theorem dX3_clearMixed_5 : decode cX3_clearMixed 5 = .ok (.if_icmp .ge 16, 3) := by decide +kernel
theorem dX3_clearMixed_8 : decode cX3_clearMixed 8 = .ok (.aload_n 0, 1) := by decide +kernel
theorem dX3_clearMixed_9 : decode cX3_clearMixed 9 = .ok (.getfield 13, 3) := by decide +kernel
theorem dX3_clearMixed_12 : decode cX3_clearMixed 12 = .ok (.iload_n 1, 1) := by decide +kernel
theorem dX3_clearMixed_13 : decode cX3_clearMixed 13 = .ok (.iconst 0, 1) := by decide +kernel
theorem dX3_clearMixed_14 : decode cX3_clearMixed 14 = .ok (.iastore, 1) := by decide +kernel
theorem dX3_clearMixed_15 : decode cX3_clearMixed 15 = .ok (.iinc 1 1, 3) := by decide +kernel
theorem dX3_clearMixed_18 : decode cX3_clearMixed 18 = .ok (.goto (-16), 3) := by decide +kernel
theorem dX3_clearMixed_21 : decode cX3_clearMixed 21 = .ok (.return_, 1) := by decide +kernel
theorem dX3_mix_0 : decode cX3_mix 0 = .ok (.iconst 0, 1) := by decide +kernel
theorem dX3_mix_1 : decode cX3_mix 1 = .ok (.istore_n 3, 1) := by decide +kernel
theorem dX3_mix_2 : decode cX3_mix 2 = .ok (.iload_n 3, 1) := by decide +kernel
theorem dX3_mix_3 : decode cX3_mix 3 = .ok (.bipush 8, 2) := by decide +kernel
theorem dX3_mix_5 : decode cX3_mix 5 = .ok (.if_icmp .ge 23, 3) := by decide +kernel
theorem dX3_mix_8 : decode cX3_mix 8 = .ok (.aload_n 0, 1) := by decide +kernel
theorem dX3_mix_9 : decode cX3_mix 9 = .ok (.getfield 13, 3) := by decide +kernel
theorem dX3_mix_12 : decode cX3_mix 12 = .ok (.iload_n 3, 1) := by decide +kernel
theorem dX3_mix_13 : decode cX3_mix 13 = .ok (.dup2, 1) := by decide +kernel
theorem dX3_mix_14 : decode cX3_mix 14 = .ok (.iaload, 1) := by decide +kernel
theorem dX3_mix_15 : decode cX3_mix 15 = .ok (.aload_n 1, 1) := by decide +kernel
theorem dX3_mix_16 : decode cX3_mix 16 = .ok (.iload_n 2, 1) := by decide +kernel
theorem dX3_mix_17 : decode cX3_mix 17 = .ok (.iload_n 3, 1) := by decide +kernel
theorem dX3_mix_18 : decode cX3_mix 18 = .ok (.iadd, 1) := by decide +kernel
theorem dX3_mix_19 : decode cX3_mix 19 = .ok (.iaload, 1) := by decide +kernel
theorem dX3_mix_20 : decode cX3_mix 20 = .ok (.ixor, 1) := by decide +kernel
theorem dX3_mix_21 : decode cX3_mix 21 = .ok (.iastore, 1) := by decide +kernel
theorem dX3_mix_22 : decode cX3_mix 22 = .ok (.iinc 3 1, 3) := by decide +kernel
theorem dX3_mix_25 : decode cX3_mix 25 = .ok (.goto (-23), 3) := by decide +kernel
theorem dX3_mix_28 : decode cX3_mix 28 = .ok (.return_, 1) := by decide +kernel
set_option maxRecDepth 20000 in
theorem ggX3_mixOthers_X3_mix : GoodIn wsX3_mixOthers wsX3_mix := goodIn_r _ [7, 8, 9, 10, 11, 12, 13, 14, 15, 16, 17, 18] (by decide +kernel) (by decide +kernel)
set_option maxRecDepth 20000 in
theorem gX3_mixOthers_X3_mix : GoodIn wsX3_mixOthers (wsV RX3 219 RX3 yX3_mix wsX3_mix) := goodIn_app (goodIn_of _ (by decide +kernel)) ggX3_mixOthers_X3_mix
theorem dX3_mixOthers_0 : decode cX3_mixOthers 0 = .ok (.iconst 0, 1) := by decide +kernel
theorem dX3_mixOthers_1 : decode cX3_mixOthers 1 = .ok (.istore_n 3, 1) := by decide +kernel
theorem dX3_mixOthers_2 : decode cX3_mixOthers 2 = .ok (.iload_n 3, 1) := by decide +kernel
theorem dX3_mixOthers_3 : decode cX3_mixOthers 3 = .ok (.aload_n 0, 1) := by decide +kernel
theorem dX3_mixOthers_4 : decode cX3_mixOthers 4 = .ok (.getfield 36, 3) := by decide +kernel
theorem dX3_mixOthers_7 : decode cX3_mixOthers 7 = .ok (.if_icmp .ge 31, 3) := by decide +kernel
theorem dX3_mixOthers_10 : decode cX3_mixOthers 10 = .ok (.iload_n 3, 1) := by decide +kernel
theorem dX3_mixOthers_11 : decode cX3_mixOthers 11 = .ok (.iload_n 1, 1) := by decide +kernel
theorem dX3_mixOthers_12 : decode cX3_mixOthers 12 = .ok (.if_icmp .eq 20, 3) := by decide +kernel
theorem dX3_mixOthers_15 : decode cX3_mixOthers 15 = .ok (.aload_n 0, 1) := by decide +kernel
theorem dX3_mixOthers_16 : decode cX3_mixOthers 16 = .ok (.aload_n 0, 1) := by decide +kernel
theorem dX3_mixOthers_17 : decode cX3_mixOthers 17 = .ok (.getfield 44, 3) := by decide +kernel
theorem dX3_mixOthers_20 : decode cX3_mixOthers 20 = .ok (.iload_n 3, 1) := by decide +kernel
theorem dX3_mixOthers_21 : decode cX3_mixOthers 21 = .ok (.aaload, 1) := by decide +kernel
theorem dX3_mixOthers_22 : decode cX3_mixOthers 22 = .ok (.getfield 141, 3) := by decide +kernel
theorem dX3_mixOthers_25 : decode cX3_mixOthers 25 = .ok (.iload_n 2, 1) := by decide +kernel
theorem dX3_mixOthers_26 : decode cX3_mixOthers 26 = .ok (.bipush 8, 2) := by decide +kernel
theorem dX3_mixOthers_28 : decode cX3_mixOthers 28 = .ok (.imul, 1) := by decide +kernel
theorem dX3_mixOthers_29 : decode cX3_mixOthers 29 = .ok (.invokevirtual 219, 3) := by decide +kernel
theorem dX3_mixOthers_32 : decode cX3_mixOthers 32 = .ok (.iinc 3 1, 3) := by decide +kernel
theorem dX3_mixOthers_35 : decode cX3_mixOthers 35 = .ok (.goto (-33), 3) := by decide +kernel
theorem dX3_mixOthers_38 : decode cX3_mixOthers 38 = .ok (.return_, 1) := by decide +kernel
set_option maxRecDepth 20000 in
theorem ggX3_mixNewest_X2_latestWith : GoodIn wsX3_mixNewest wsX2_latestWith := goodIn_r _ [6, 7, 8, 9, 10, 4, 11, 12, 13, 14, 15, 16, 17, 18, 54, 55, 56, 57, 58, 59, 44, 45, 46, 47] (by decide +kernel) (by decide +kernel)
set_option maxRecDepth 20000 in
theorem gX3_mixNewest_X2_latestWith_n209 : GoodIn wsX3_mixNewest (wsX2_latestWith) := ggX3_mixNewest_X2_latestWith
set_option maxRecDepth 20000 in
theorem ggX3_mixNewest_X3_mix : GoodIn wsX3_mixNewest wsX3_mix := goodIn_r _ [23, 24, 34, 35, 36, 37, 38, 39, 40, 41, 42, 43] (by decide +kernel) (by decide +kernel)
set_option maxRecDepth 20000 in
theorem gX3_mixNewest_X3_mix : GoodIn wsX3_mixNewest (wsV RX3 219 RX3 yX3_mix wsX3_mix) := goodIn_app (goodIn_of _ (by decide +kernel)) ggX3_mixNewest_X3_mix
set_option maxRecDepth 20000 in
theorem ggX3_mixNewest_X3_memberOf : GoodIn wsX3_mixNewest wsX3_memberOf := goodIn_r _ [28, 29, 30, 31, 32, 22, 33, 34, 35, 36, 37, 38, 39, 40, 41, 42, 43] (by decide +kernel) (by decide +kernel)
set_option maxRecDepth 20000 in
theorem gX3_mixNewest_X3_memberOf : GoodIn wsX3_mixNewest (wsV RX3 62 RX3 yX3_memberOf wsX3_memberOf) := goodIn_app (goodIn_of _ (by decide +kernel)) ggX3_mixNewest_X3_memberOf
theorem dX3_mixNewest_0 : decode cX3_mixNewest 0 = .ok (.aload_n 0, 1) := by decide +kernel
theorem dX3_mixNewest_1 : decode cX3_mixNewest 1 = .ok (.getfield 54, 3) := by decide +kernel
theorem dX3_mixNewest_4 : decode cX3_mixNewest 4 = .ok (.iload_n 1, 1) := by decide +kernel
theorem dX3_mixNewest_5 : decode cX3_mixNewest 5 = .ok (.iload_n 2, 1) := by decide +kernel
theorem dX3_mixNewest_6 : decode cX3_mixNewest 6 = .ok (.invokevirtual 209, 3) := by decide +kernel
theorem dX3_mixNewest_9 : decode cX3_mixNewest 9 = .ok (.astore_n 3, 1) := by decide +kernel
theorem dX3_mixNewest_10 : decode cX3_mixNewest 10 = .ok (.aload_n 3, 1) := by decide +kernel
theorem dX3_mixNewest_11 : decode cX3_mixNewest 11 = .ok (.ifnull 17, 3) := by decide +kernel
theorem dX3_mixNewest_14 : decode cX3_mixNewest 14 = .ok (.aload_n 0, 1) := by decide +kernel
theorem dX3_mixNewest_15 : decode cX3_mixNewest 15 = .ok (.aload_n 3, 1) := by decide +kernel
theorem dX3_mixNewest_16 : decode cX3_mixNewest 16 = .ok (.getfield 223, 3) := by decide +kernel
theorem dX3_mixNewest_19 : decode cX3_mixNewest 19 = .ok (.iload_n 2, 1) := by decide +kernel
theorem dX3_mixNewest_20 : decode cX3_mixNewest 20 = .ok (.bipush 8, 2) := by decide +kernel
theorem dX3_mixNewest_22 : decode cX3_mixNewest 22 = .ok (.imul, 1) := by decide +kernel
theorem dX3_mixNewest_23 : decode cX3_mixNewest 23 = .ok (.invokevirtual 219, 3) := by decide +kernel
theorem dX3_mixNewest_26 : decode cX3_mixNewest 26 = .ok (.iconst 0, 1) := by decide +kernel
theorem dX3_mixNewest_27 : decode cX3_mixNewest 27 = .ok (.ireturn, 1) := by decide +kernel
theorem dX3_mixNewest_28 : decode cX3_mixNewest 28 = .ok (.aload_n 0, 1) := by decide +kernel
theorem dX3_mixNewest_29 : decode cX3_mixNewest 29 = .ok (.aload_n 0, 1) := by decide +kernel
theorem dX3_mixNewest_30 : decode cX3_mixNewest 30 = .ok (.getfield 44, 3) := by decide +kernel
theorem dX3_mixNewest_33 : decode cX3_mixNewest 33 = .ok (.aload_n 0, 1) := by decide +kernel
theorem dX3_mixNewest_34 : decode cX3_mixNewest 34 = .ok (.iload_n 1, 1) := by decide +kernel
theorem dX3_mixNewest_35 : decode cX3_mixNewest 35 = .ok (.iload_n 2, 1) := by decide +kernel
theorem dX3_mixNewest_36 : decode cX3_mixNewest 36 = .ok (.invokevirtual 62, 3) := by decide +kernel
theorem dX3_mixNewest_39 : decode cX3_mixNewest 39 = .ok (.aaload, 1) := by decide +kernel
theorem dX3_mixNewest_40 : decode cX3_mixNewest 40 = .ok (.getfield 141, 3) := by decide +kernel
theorem dX3_mixNewest_43 : decode cX3_mixNewest 43 = .ok (.iload_n 1, 1) := by decide +kernel
theorem dX3_mixNewest_44 : decode cX3_mixNewest 44 = .ok (.bipush 8, 2) := by decide +kernel
theorem dX3_mixNewest_46 : decode cX3_mixNewest 46 = .ok (.imul, 1) := by decide +kernel
theorem dX3_mixNewest_47 : decode cX3_mixNewest 47 = .ok (.invokevirtual 219, 3) := by decide +kernel
theorem dX3_mixNewest_50 : decode cX3_mixNewest 50 = .ok (.iconst 1, 1) := by decide +kernel
theorem dX3_mixNewest_51 : decode cX3_mixNewest 51 = .ok (.ireturn, 1) := by decide +kernel
set_option maxRecDepth 20000 in
theorem ggX3_xorIsZero_X3_clearMixed : GoodIn wsX3_xorIsZero wsX3_clearMixed := goodIn_r _ [6, 1, 17, 18, 19, 20, 21, 22, 23, 24, 25, 26] (by decide +kernel) (by decide +kernel)
set_option maxRecDepth 20000 in
theorem gX3_xorIsZero_X3_clearMixed : GoodIn wsX3_xorIsZero (wsV RX3 96 RX3 yX3_clearMixed wsX3_clearMixed) := goodIn_app (goodIn_of _ (by decide +kernel)) ggX3_xorIsZero_X3_clearMixed
set_option maxRecDepth 20000 in
theorem ggX3_xorIsZero_X3_mixOthers : GoodIn wsX3_xorIsZero wsX3_mixOthers := goodIn_r _ [10, 11, 12, 13, 14, 15, 5, 16, 1, 17, 18, 19, 20, 21, 22, 23, 24, 25, 26, 27, 28, 29, 30, 31, 32] (by decide +kernel) (by decide +kernel)
set_option maxRecDepth 20000 in
theorem gX3_xorIsZero_X3_mixOthers : GoodIn wsX3_xorIsZero (wsV RX3 99 RX3 yX3_mixOthers wsX3_mixOthers) := goodIn_app (goodIn_of _ (by decide +kernel)) ggX3_xorIsZero_X3_mixOthers
theorem dX3_xorIsZero_0 : decode cX3_xorIsZero 0 = .ok (.aload_n 0, 1) := by decide +kernel
theorem dX3_xorIsZero_1 : decode cX3_xorIsZero 1 = .ok (.invokevirtual 96, 3) := by decide +kernel
theorem dX3_xorIsZero_4 : decode cX3_xorIsZero 4 = .ok (.aload_n 0, 1) := by decide +kernel
theorem dX3_xorIsZero_5 : decode cX3_xorIsZero 5 = .ok (.iconst (-1), 1) := by decide +kernel
theorem dX3_xorIsZero_6 : decode cX3_xorIsZero 6 = .ok (.iload_n 1, 1) := by decide +kernel
theorem dX3_xorIsZero_7 : decode cX3_xorIsZero 7 = .ok (.invokevirtual 99, 3) := by decide +kernel
theorem dX3_xorIsZero_10 : decode cX3_xorIsZero 10 = .ok (.iconst 0, 1) := by decide +kernel
theorem dX3_xorIsZero_11 : decode cX3_xorIsZero 11 = .ok (.istore_n 2, 1) := by decide +kernel
theorem dX3_xorIsZero_12 : decode cX3_xorIsZero 12 = .ok (.iload_n 2, 1) := by decide +kernel
theorem dX3_xorIsZero_13 : decode cX3_xorIsZero 13 = .ok (.bipush 8, 2) := by decide +kernel
theorem dX3_xorIsZero_15 : decode cX3_xorIsZero 15 = .ok (.if_icmp .ge 20, 3) := by decide +kernel
theorem dX3_xorIsZero_18 : decode cX3_xorIsZero 18 = .ok (.aload_n 0, 1) := by decide +kernel
theorem dX3_xorIsZero_19 : decode cX3_xorIsZero 19 = .ok (.getfield 13, 3) := by decide +kernel
theorem dX3_xorIsZero_22 : decode cX3_xorIsZero 22 = .ok (.iload_n 2, 1) := by decide +kernel
theorem dX3_xorIsZero_23 : decode cX3_xorIsZero 23 = .ok (.iaload, 1) := by decide +kernel
theorem dX3_xorIsZero_24 : decode cX3_xorIsZero 24 = .ok (.ifCond .eq 5, 3) := by decide +kernel
theorem dX3_xorIsZero_27 : decode cX3_xorIsZero 27 = .ok (.iconst 0, 1) := by decide +kernel
theorem dX3_xorIsZero_28 : decode cX3_xorIsZero 28 = .ok (.ireturn, 1) := by decide +kernel
theorem dX3_xorIsZero_29 : decode cX3_xorIsZero 29 = .ok (.iinc 2 1, 3) := by decide +kernel
theorem dX3_xorIsZero_32 : decode cX3_xorIsZero 32 = .ok (.goto (-20), 3) := by decide +kernel
theorem dX3_xorIsZero_35 : decode cX3_xorIsZero 35 = .ok (.iconst 1, 1) := by decide +kernel
theorem dX3_xorIsZero_36 : decode cX3_xorIsZero 36 = .ok (.ireturn, 1) := by decide +kernel
set_option maxRecDepth 20000 in
theorem ggX3_powerStays_X0_forgetBuilding : GoodIn wsX3_powerStays wsX0_forgetBuilding := goodIn_r _ [10, 11, 12, 23, 24, 25, 26, 27, 28] (by decide +kernel) (by decide +kernel)
set_option maxRecDepth 20000 in
theorem gX3_powerStays_X0_forgetBuilding_n224 : GoodIn wsX3_powerStays (wsX0_forgetBuilding) := ggX3_powerStays_X0_forgetBuilding
theorem dX3_powerStays_0 : decode cX3_powerStays 0 = .ok (.aload_n 0, 1) := by decide +kernel
theorem dX3_powerStays_1 : decode cX3_powerStays 1 = .ok (.getfield 9, 3) := by decide +kernel
theorem dX3_powerStays_4 : decode cX3_powerStays 4 = .ok (.iconst 0, 1) := by decide +kernel
theorem dX3_powerStays_5 : decode cX3_powerStays 5 = .ok (.dup2, 1) := by decide +kernel
theorem dX3_powerStays_6 : decode cX3_powerStays 6 = .ok (.iaload, 1) := by decide +kernel
theorem dX3_powerStays_7 : decode cX3_powerStays 7 = .ok (.iconst 1, 1) := by decide +kernel
theorem dX3_powerStays_8 : decode cX3_powerStays 8 = .ok (.iadd, 1) := by decide +kernel
theorem dX3_powerStays_9 : decode cX3_powerStays 9 = .ok (.iastore, 1) := by decide +kernel
theorem dX3_powerStays_10 : decode cX3_powerStays 10 = .ok (.aload_n 0, 1) := by decide +kernel
theorem dX3_powerStays_11 : decode cX3_powerStays 11 = .ok (.getfield 20, 3) := by decide +kernel
theorem dX3_powerStays_14 : decode cX3_powerStays 14 = .ok (.ifCond .eq 26, 3) := by decide +kernel
theorem dX3_powerStays_17 : decode cX3_powerStays 17 = .ok (.aload_n 0, 1) := by decide +kernel
theorem dX3_powerStays_18 : decode cX3_powerStays 18 = .ok (.aload_n 0, 1) := by decide +kernel
theorem dX3_powerStays_19 : decode cX3_powerStays 19 = .ok (.getfield 20, 3) := by decide +kernel
theorem dX3_powerStays_22 : decode cX3_powerStays 22 = .ok (.ifCond .ge 7, 3) := by decide +kernel
theorem dX3_powerStays_25 : decode cX3_powerStays 25 = .ok (.iconst (-1), 1) := by decide +kernel
theorem dX3_powerStays_26 : decode cX3_powerStays 26 = .ok (.goto 9, 3) := by decide +kernel
theorem dX3_powerStays_29 : decode cX3_powerStays 29 = .ok (.aload_n 0, 1) := by decide +kernel
theorem dX3_powerStays_30 : decode cX3_powerStays 30 = .ok (.getfield 20, 3) := by decide +kernel
theorem dX3_powerStays_33 : decode cX3_powerStays 33 = .ok (.iconst 1, 1) := by decide +kernel
theorem dX3_powerStays_34 : decode cX3_powerStays 34 = .ok (.isub, 1) := by decide +kernel
theorem dX3_powerStays_35 : decode cX3_powerStays 35 = .ok (.putfield 20, 3) := by decide +kernel
theorem dX3_powerStays_38 : decode cX3_powerStays 38 = .ok (.iconst 1, 1) := by decide +kernel
theorem dX3_powerStays_39 : decode cX3_powerStays 39 = .ok (.ireturn, 1) := by decide +kernel
theorem dX3_powerStays_40 : decode cX3_powerStays 40 = .ok (.aload_n 0, 1) := by decide +kernel
theorem dX3_powerStays_41 : decode cX3_powerStays 41 = .ok (.iconst (-1), 1) := by decide +kernel
theorem dX3_powerStays_42 : decode cX3_powerStays 42 = .ok (.putfield 20, 3) := by decide +kernel
theorem dX3_powerStays_45 : decode cX3_powerStays 45 = .ok (.aload_n 0, 1) := by decide +kernel
theorem dX3_powerStays_46 : decode cX3_powerStays 46 = .ok (.iconst 1, 1) := by decide +kernel
theorem dX3_powerStays_47 : decode cX3_powerStays 47 = .ok (.putfield 16, 3) := by decide +kernel
theorem dX3_powerStays_50 : decode cX3_powerStays 50 = .ok (.aload_n 0, 1) := by decide +kernel
theorem dX3_powerStays_51 : decode cX3_powerStays 51 = .ok (.iconst 0, 1) := by decide +kernel
theorem dX3_powerStays_52 : decode cX3_powerStays 52 = .ok (.putfield 27, 3) := by decide +kernel
theorem dX3_powerStays_55 : decode cX3_powerStays 55 = .ok (.iconst 0, 1) := by decide +kernel
theorem dX3_powerStays_56 : decode cX3_powerStays 56 = .ok (.istore_n 1, 1) := by decide +kernel
theorem dX3_powerStays_57 : decode cX3_powerStays 57 = .ok (.iload_n 1, 1) := by decide +kernel
theorem dX3_powerStays_58 : decode cX3_powerStays 58 = .ok (.aload_n 0, 1) := by decide +kernel
theorem dX3_powerStays_59 : decode cX3_powerStays 59 = .ok (.getfield 36, 3) := by decide +kernel
theorem dX3_powerStays_62 : decode cX3_powerStays 62 = .ok (.if_icmp .ge 18, 3) := by decide +kernel
theorem dX3_powerStays_65 : decode cX3_powerStays 65 = .ok (.aload_n 0, 1) := by decide +kernel
theorem dX3_powerStays_66 : decode cX3_powerStays 66 = .ok (.getfield 44, 3) := by decide +kernel
theorem dX3_powerStays_69 : decode cX3_powerStays 69 = .ok (.iload_n 1, 1) := by decide +kernel
theorem dX3_powerStays_70 : decode cX3_powerStays 70 = .ok (.aaload, 1) := by decide +kernel
theorem dX3_powerStays_71 : decode cX3_powerStays 71 = .ok (.invokevirtual 224, 3) := by decide +kernel
theorem dX3_powerStays_74 : decode cX3_powerStays 74 = .ok (.iinc 1 1, 3) := by decide +kernel
theorem dX3_powerStays_77 : decode cX3_powerStays 77 = .ok (.goto (-20), 3) := by decide +kernel
theorem dX3_powerStays_80 : decode cX3_powerStays 80 = .ok (.iconst 0, 1) := by decide +kernel
theorem dX3_powerStays_81 : decode cX3_powerStays 81 = .ok (.ireturn, 1) := by decide +kernel
set_option maxRecDepth 20000 in
theorem ggX3_putChunk_X3_powerStays : GoodIn wsX3_putChunk wsX3_powerStays := goodIn_r _ [7, 8, 9, 10, 11, 12, 1, 13, 14, 15, 16, 17, 18, 29, 30, 31, 32, 33, 34, 35, 36, 37, 38, 39, 40, 41, 42, 43, 44] (by decide +kernel) (by decide +kernel)
set_option maxRecDepth 20000 in
theorem gX3_putChunk_X3_powerStays : GoodIn wsX3_putChunk (wsV RX3 227 RX3 yX3_powerStays wsX3_powerStays) := goodIn_app (goodIn_of _ (by decide +kernel)) ggX3_putChunk_X3_powerStays
set_option maxRecDepth 20000 in
theorem ggX3_putChunk_X0_take : GoodIn wsX3_putChunk wsX0_take := goodIn_r _ [21, 22, 23, 24, 25, 26, 27, 14, 28, 39, 40, 41, 42, 43, 44] (by decide +kernel) (by decide +kernel)
set_option maxRecDepth 20000 in
theorem gX3_putChunk_X0_take_n230 : GoodIn wsX3_putChunk (wsX0_take) := ggX3_putChunk_X0_take
theorem dX3_putChunk_0 : decode cX3_putChunk 0 = .ok (.aload_n 0, 1) := by decide +kernel
theorem dX3_putChunk_1 : decode cX3_putChunk 1 = .ok (.invokevirtual 227, 3) := by decide +kernel
theorem dX3_putChunk_4 : decode cX3_putChunk 4 = .ok (.istore 5, 2) := by decide +kernel
theorem dX3_putChunk_6 : decode cX3_putChunk 6 = .ok (.aload_n 0, 1) := by decide +kernel
theorem dX3_putChunk_7 : decode cX3_putChunk 7 = .ok (.getfield 44, 3) := by decide +kernel
theorem dX3_putChunk_10 : decode cX3_putChunk 10 = .ok (.iload_n 1, 1) := by decide +kernel
theorem dX3_putChunk_11 : decode cX3_putChunk 11 = .ok (.aaload, 1) := by decide +kernel
theorem dX3_putChunk_12 : decode cX3_putChunk 12 = .ok (.iload_n 2, 1) := by decide +kernel
theorem dX3_putChunk_13 : decode cX3_putChunk 13 = .ok (.aload_n 3, 1) := by decide +kernel
theorem dX3_putChunk_14 : decode cX3_putChunk 14 = .ok (.iload 4, 2) := by decide +kernel
theorem dX3_putChunk_16 : decode cX3_putChunk 16 = .ok (.iload 5, 2) := by decide +kernel
theorem dX3_putChunk_18 : decode cX3_putChunk 18 = .ok (.ifCond .eq 8, 3) := by decide +kernel
theorem dX3_putChunk_21 : decode cX3_putChunk 21 = .ok (.bipush 9, 2) := by decide +kernel
theorem dX3_putChunk_23 : decode cX3_putChunk 23 = .ok (.goto 7, 3) := by decide +kernel
theorem dX3_putChunk_26 : decode cX3_putChunk 26 = .ok (.aload_n 0, 1) := by decide +kernel
theorem dX3_putChunk_27 : decode cX3_putChunk 27 = .ok (.getfield 24, 3) := by decide +kernel
theorem dX3_putChunk_30 : decode cX3_putChunk 30 = .ok (.invokevirtual 230, 3) := by decide +kernel
theorem dX3_putChunk_33 : decode cX3_putChunk 33 = .ok (.iload 5, 2) := by decide +kernel
theorem dX3_putChunk_35 : decode cX3_putChunk 35 = .ok (.ireturn, 1) := by decide +kernel
set_option maxRecDepth 20000 in
theorem ggX3_putCells_X3_powerStays : GoodIn wsX3_putCells wsX3_powerStays := goodIn_r _ [6, 1, 7, 8, 9, 10, 11, 12, 13, 14, 15, 16, 17, 18, 19, 20, 21, 22, 23, 24, 25, 26, 27, 28, 29, 30, 31, 32, 33] (by decide +kernel) (by decide +kernel)
set_option maxRecDepth 20000 in
theorem gX3_putCells_X3_powerStays : GoodIn wsX3_putCells (wsV RX3 227 RX3 yX3_powerStays wsX3_powerStays) := goodIn_app (goodIn_of _ (by decide +kernel)) ggX3_putCells_X3_powerStays
theorem dX3_putCells_0 : decode cX3_putCells 0 = .ok (.iconst 0, 1) := by decide +kernel
theorem dX3_putCells_1 : decode cX3_putCells 1 = .ok (.istore_n 2, 1) := by decide +kernel
theorem dX3_putCells_2 : decode cX3_putCells 2 = .ok (.iload_n 2, 1) := by decide +kernel
theorem dX3_putCells_3 : decode cX3_putCells 3 = .ok (.iload_n 1, 1) := by decide +kernel
theorem dX3_putCells_4 : decode cX3_putCells 4 = .ok (.if_icmp .ge 28, 3) := by decide +kernel
theorem dX3_putCells_7 : decode cX3_putCells 7 = .ok (.aload_n 0, 1) := by decide +kernel
theorem dX3_putCells_8 : decode cX3_putCells 8 = .ok (.getfield 9, 3) := by decide +kernel
theorem dX3_putCells_11 : decode cX3_putCells 11 = .ok (.iconst 1, 1) := by decide +kernel
theorem dX3_putCells_12 : decode cX3_putCells 12 = .ok (.dup2, 1) := by decide +kernel
theorem dX3_putCells_13 : decode cX3_putCells 13 = .ok (.iaload, 1) := by decide +kernel
theorem dX3_putCells_14 : decode cX3_putCells 14 = .ok (.iconst 1, 1) := by decide +kernel
theorem dX3_putCells_15 : decode cX3_putCells 15 = .ok (.iadd, 1) := by decide +kernel
theorem dX3_putCells_16 : decode cX3_putCells 16 = .ok (.iastore, 1) := by decide +kernel
theorem dX3_putCells_17 : decode cX3_putCells 17 = .ok (.aload_n 0, 1) := by decide +kernel
theorem dX3_putCells_18 : decode cX3_putCells 18 = .ok (.invokevirtual 227, 3) := by decide +kernel
theorem dX3_putCells_21 : decode cX3_putCells 21 = .ok (.ifCond .ne 5, 3) := by decide +kernel
theorem dX3_putCells_24 : decode cX3_putCells 24 = .ok (.iconst 0, 1) := by decide +kernel
theorem dX3_putCells_25 : decode cX3_putCells 25 = .ok (.ireturn, 1) := by decide +kernel
theorem dX3_putCells_26 : decode cX3_putCells 26 = .ok (.iinc 2 1, 3) := by decide +kernel
theorem dX3_putCells_29 : decode cX3_putCells 29 = .ok (.goto (-27), 3) := by decide +kernel
theorem dX3_putCells_32 : decode cX3_putCells 32 = .ok (.iconst 1, 1) := by decide +kernel
theorem dX3_putCells_33 : decode cX3_putCells 33 = .ok (.ireturn, 1) := by decide +kernel
set_option maxRecDepth 20000 in
theorem ggX3_putMark_X3_powerStays : GoodIn wsX3_putMark wsX3_powerStays := goodIn_r _ [7, 1, 8, 9, 10, 11, 12, 13, 14, 15, 16, 17, 18, 45, 46, 47, 48, 49, 50, 51, 52, 53, 54, 55, 56, 57, 58, 59, 60] (by decide +kernel) (by decide +kernel)
set_option maxRecDepth 20000 in
theorem gX3_putMark_X3_powerStays : GoodIn wsX3_putMark (wsV RX3 227 RX3 yX3_powerStays wsX3_powerStays) := goodIn_app (goodIn_of _ (by decide +kernel)) ggX3_putMark_X3_powerStays
set_option maxRecDepth 20000 in
theorem ggX3_putMark_X2_free : GoodIn wsX3_putMark wsX2_free := goodIn_r _ [22, 23, 24, 25, 26, 27, 28, 29, 30, 20, 31, 32, 33, 34, 35, 36, 37, 38, 39, 40, 41, 42, 43, 44, 61, 62, 63, 64, 65, 66, 67, 68, 69, 70] (by decide +kernel) (by decide +kernel)
set_option maxRecDepth 20000 in
theorem gX3_putMark_X2_free_n234 : GoodIn wsX3_putMark (wsX2_free) := ggX3_putMark_X2_free
theorem dX3_putMark_0 : decode cX3_putMark 0 = .ok (.aload_n 0, 1) := by decide +kernel
theorem dX3_putMark_1 : decode cX3_putMark 1 = .ok (.getfield 9, 3) := by decide +kernel
theorem dX3_putMark_4 : decode cX3_putMark 4 = .ok (.iconst 2, 1) := by decide +kernel
theorem dX3_putMark_5 : decode cX3_putMark 5 = .ok (.dup2, 1) := by decide +kernel
theorem dX3_putMark_6 : decode cX3_putMark 6 = .ok (.iaload, 1) := by decide +kernel
theorem dX3_putMark_7 : decode cX3_putMark 7 = .ok (.iconst 1, 1) := by decide +kernel
theorem dX3_putMark_8 : decode cX3_putMark 8 = .ok (.iadd, 1) := by decide +kernel
theorem dX3_putMark_9 : decode cX3_putMark 9 = .ok (.iastore, 1) := by decide +kernel
theorem dX3_putMark_10 : decode cX3_putMark 10 = .ok (.aload_n 0, 1) := by decide +kernel
theorem dX3_putMark_11 : decode cX3_putMark 11 = .ok (.invokevirtual 227, 3) := by decide +kernel
theorem dX3_putMark_14 : decode cX3_putMark 14 = .ok (.ifCond .ne 5, 3) := by decide +kernel
theorem dX3_putMark_17 : decode cX3_putMark 17 = .ok (.iconst 0, 1) := by decide +kernel
theorem dX3_putMark_18 : decode cX3_putMark 18 = .ok (.ireturn, 1) := by decide +kernel
theorem dX3_putMark_19 : decode cX3_putMark 19 = .ok (.aload_n 0, 1) := by decide +kernel
theorem dX3_putMark_20 : decode cX3_putMark 20 = .ok (.getfield 54, 3) := by decide +kernel
theorem dX3_putMark_23 : decode cX3_putMark 23 = .ok (.iload_n 1, 1) := by decide +kernel
theorem dX3_putMark_24 : decode cX3_putMark 24 = .ok (.invokevirtual 234, 3) := by decide +kernel
theorem dX3_putMark_27 : decode cX3_putMark 27 = .ok (.iconst 1, 1) := by decide +kernel
theorem dX3_putMark_28 : decode cX3_putMark 28 = .ok (.ireturn, 1) := by decide +kernel
set_option maxRecDepth 20000 in
theorem ggX3_putEntry_X3_memberOf : GoodIn wsX3_putEntry wsX3_memberOf := goodIn_r _ [7, 1, 8, 9, 10, 6, 11, 49, 50, 51, 52, 53, 54, 55, 56, 57, 58] (by decide +kernel) (by decide +kernel)
set_option maxRecDepth 20000 in
theorem gX3_putEntry_X3_memberOf : GoodIn wsX3_putEntry (wsV RX3 62 RX3 yX3_memberOf wsX3_memberOf) := goodIn_app (goodIn_of _ (by decide +kernel)) ggX3_putEntry_X3_memberOf
set_option maxRecDepth 20000 in
theorem ggX3_putEntry_X1_has : GoodIn wsX3_putEntry wsX1_has := goodIn_r _ [15, 16, 59, 60, 61, 62] (by decide +kernel) (by decide +kernel)
set_option maxRecDepth 20000 in
theorem gX3_putEntry_X1_has_n197 : GoodIn wsX3_putEntry (wsX1_has) := ggX3_putEntry_X1_has
set_option maxRecDepth 20000 in
theorem ggX3_putEntry_X0_isOn : GoodIn wsX3_putEntry wsX0_isOn := goodIn_r _ [20, 21, 63, 64, 65, 66, 67, 68] (by decide +kernel) (by decide +kernel)
set_option maxRecDepth 20000 in
theorem gX3_putEntry_X0_isOn_n237 : GoodIn wsX3_putEntry (wsX0_isOn) := ggX3_putEntry_X0_isOn
set_option maxRecDepth 20000 in
theorem ggX3_putEntry_X3_putChunk : GoodIn wsX3_putEntry wsX3_putChunk := goodIn_r _ [25, 2, 26, 27, 28, 29, 6, 30, 31, 32, 33, 34, 1, 35, 18, 36, 37, 38, 21, 39, 40, 41, 42, 43, 44, 45, 46, 47, 48, 49, 50, 51, 52, 53, 54, 55, 56, 57, 58, 63, 64, 65, 66, 67, 68] (by decide +kernel) (by decide +kernel)
set_option maxRecDepth 20000 in
theorem gX3_putEntry_X3_putChunk : GoodIn wsX3_putEntry (wsV RX3 240 RX3 yX3_putChunk wsX3_putChunk) := goodIn_app (goodIn_of _ (by decide +kernel)) ggX3_putEntry_X3_putChunk
theorem dX3_putEntry_0 : decode cX3_putEntry 0 = .ok (.iconst 0, 1) := by decide +kernel
theorem dX3_putEntry_1 : decode cX3_putEntry 1 = .ok (.istore_n 2, 1) := by decide +kernel
theorem dX3_putEntry_2 : decode cX3_putEntry 2 = .ok (.iload_n 2, 1) := by decide +kernel
theorem dX3_putEntry_3 : decode cX3_putEntry 3 = .ok (.aload_n 0, 1) := by decide +kernel
theorem dX3_putEntry_4 : decode cX3_putEntry 4 = .ok (.getfield 36, 3) := by decide +kernel
theorem dX3_putEntry_7 : decode cX3_putEntry 7 = .ok (.if_icmp .ge 65, 3) := by decide +kernel
theorem dX3_putEntry_10 : decode cX3_putEntry 10 = .ok (.aload_n 0, 1) := by decide +kernel
theorem dX3_putEntry_11 : decode cX3_putEntry 11 = .ok (.aload_n 1, 1) := by decide +kernel
theorem dX3_putEntry_12 : decode cX3_putEntry 12 = .ok (.getfield 186, 3) := by decide +kernel
theorem dX3_putEntry_15 : decode cX3_putEntry 15 = .ok (.iload_n 2, 1) := by decide +kernel
theorem dX3_putEntry_16 : decode cX3_putEntry 16 = .ok (.invokevirtual 62, 3) := by decide +kernel
theorem dX3_putEntry_19 : decode cX3_putEntry 19 = .ok (.istore_n 3, 1) := by decide +kernel
theorem dX3_putEntry_20 : decode cX3_putEntry 20 = .ok (.aload_n 1, 1) := by decide +kernel
theorem dX3_putEntry_21 : decode cX3_putEntry 21 = .ok (.iload_n 2, 1) := by decide +kernel
theorem dX3_putEntry_22 : decode cX3_putEntry 22 = .ok (.invokevirtual 197, 3) := by decide +kernel
theorem dX3_putEntry_25 : decode cX3_putEntry 25 = .ok (.ifCond .eq 41, 3) := by decide +kernel
theorem dX3_putEntry_28 : decode cX3_putEntry 28 = .ok (.aload_n 0, 1) := by decide +kernel
theorem dX3_putEntry_29 : decode cX3_putEntry 29 = .ok (.getfield 44, 3) := by decide +kernel
theorem dX3_putEntry_32 : decode cX3_putEntry 32 = .ok (.iload_n 3, 1) := by decide +kernel
theorem dX3_putEntry_33 : decode cX3_putEntry 33 = .ok (.aaload, 1) := by decide +kernel
theorem dX3_putEntry_34 : decode cX3_putEntry 34 = .ok (.aload_n 1, 1) := by decide +kernel
theorem dX3_putEntry_35 : decode cX3_putEntry 35 = .ok (.getfield 186, 3) := by decide +kernel
theorem dX3_putEntry_38 : decode cX3_putEntry 38 = .ok (.invokevirtual 237, 3) := by decide +kernel
theorem dX3_putEntry_41 : decode cX3_putEntry 41 = .ok (.ifCond .eq 25, 3) := by decide +kernel
theorem dX3_putEntry_44 : decode cX3_putEntry 44 = .ok (.aload_n 0, 1) := by decide +kernel
theorem dX3_putEntry_45 : decode cX3_putEntry 45 = .ok (.iload_n 3, 1) := by decide +kernel
theorem dX3_putEntry_46 : decode cX3_putEntry 46 = .ok (.aload_n 1, 1) := by decide +kernel
theorem dX3_putEntry_47 : decode cX3_putEntry 47 = .ok (.getfield 186, 3) := by decide +kernel
theorem dX3_putEntry_50 : decode cX3_putEntry 50 = .ok (.aload_n 1, 1) := by decide +kernel
theorem dX3_putEntry_51 : decode cX3_putEntry 51 = .ok (.getfield 223, 3) := by decide +kernel
theorem dX3_putEntry_54 : decode cX3_putEntry 54 = .ok (.iload_n 2, 1) := by decide +kernel
theorem dX3_putEntry_55 : decode cX3_putEntry 55 = .ok (.bipush 8, 2) := by decide +kernel
theorem dX3_putEntry_57 : decode cX3_putEntry 57 = .ok (.imul, 1) := by decide +kernel
theorem dX3_putEntry_58 : decode cX3_putEntry 58 = .ok (.invokevirtual 240, 3) := by decide +kernel
theorem dX3_putEntry_61 : decode cX3_putEntry 61 = .ok (.ifCond .ne 5, 3) := by decide +kernel
theorem dX3_putEntry_64 : decode cX3_putEntry 64 = .ok (.iconst 0, 1) := by decide +kernel
theorem dX3_putEntry_65 : decode cX3_putEntry 65 = .ok (.ireturn, 1) := by decide +kernel
theorem dX3_putEntry_66 : decode cX3_putEntry 66 = .ok (.iinc 2 1, 3) := by decide +kernel
theorem dX3_putEntry_69 : decode cX3_putEntry 69 = .ok (.goto (-67), 3) := by decide +kernel
theorem dX3_putEntry_72 : decode cX3_putEntry 72 = .ok (.iconst 1, 1) := by decide +kernel
theorem dX3_putEntry_73 : decode cX3_putEntry 73 = .ok (.ireturn, 1) := by decide +kernel
set_option maxRecDepth 20000 in
theorem ggX3_drainOldest_X2_entry : GoodIn wsX3_drainOldest wsX2_entry := goodIn_r _ [6, 7, 8, 92, 93, 94, 95, 96, 97] (by decide +kernel) (by decide +kernel)
set_option maxRecDepth 20000 in
theorem gX3_drainOldest_X2_entry_n182 : GoodIn wsX3_drainOldest (wsX2_entry) := ggX3_drainOldest_X2_entry
set_option maxRecDepth 20000 in
theorem ggX3_drainOldest_X3_putEntry : GoodIn wsX3_drainOldest wsX3_putEntry := goodIn_r _ [13, 14, 15, 16, 17, 18, 12, 19, 20, 21, 22, 23, 24, 25, 26, 27, 28, 29, 30, 31, 32, 33, 34, 35, 36, 37, 38, 39, 40, 41, 42, 2, 43, 44, 45, 46, 47, 48, 49, 50, 51, 52, 53, 54, 55, 56, 57, 58, 59, 82, 83, 84, 85, 86, 87, 88, 89, 90, 91, 98, 99, 100, 101, 102, 103, 104, 105, 106, 107] (by decide +kernel) (by decide +kernel)
set_option maxRecDepth 20000 in
theorem gX3_drainOldest_X3_putEntry : GoodIn wsX3_drainOldest (wsV RX3 244 RX3 yX3_putEntry wsX3_putEntry) := goodIn_app (goodIn_of _ (by decide +kernel)) ggX3_drainOldest_X3_putEntry
set_option maxRecDepth 20000 in
theorem ggX3_drainOldest_X3_putMark : GoodIn wsX3_drainOldest wsX3_putMark := goodIn_r _ [63, 2, 1, 39, 40, 41, 12, 42, 43, 44, 45, 14, 15, 46, 30, 47, 48, 49, 33, 64, 4, 65, 66, 67, 68, 69, 70, 8, 71, 3, 5, 6, 7, 72, 25, 73, 74, 28, 75, 76, 77, 78, 79, 80, 81, 82, 83, 84, 85, 86, 87, 88, 89, 90, 91, 102, 103, 104, 105, 106, 107, 92, 93, 94, 95, 96, 97, 98, 99, 100, 101] (by decide +kernel) (by decide +kernel)
set_option maxRecDepth 20000 in
theorem gX3_drainOldest_X3_putMark : GoodIn wsX3_drainOldest (wsV RX3 150 RX3 yX3_putMark wsX3_putMark) := goodIn_app (goodIn_of _ (by decide +kernel)) ggX3_drainOldest_X3_putMark
theorem dX3_drainOldest_0 : decode cX3_drainOldest 0 = .ok (.iconst 0, 1) := by decide +kernel
theorem dX3_drainOldest_1 : decode cX3_drainOldest 1 = .ok (.istore_n 2, 1) := by decide +kernel
theorem dX3_drainOldest_2 : decode cX3_drainOldest 2 = .ok (.iload_n 2, 1) := by decide +kernel
theorem dX3_drainOldest_3 : decode cX3_drainOldest 3 = .ok (.iload_n 1, 1) := by decide +kernel
theorem dX3_drainOldest_4 : decode cX3_drainOldest 4 = .ok (.if_icmp .ge 44, 3) := by decide +kernel
theorem dX3_drainOldest_7 : decode cX3_drainOldest 7 = .ok (.aload_n 0, 1) := by decide +kernel
theorem dX3_drainOldest_8 : decode cX3_drainOldest 8 = .ok (.aload_n 0, 1) := by decide +kernel
theorem dX3_drainOldest_9 : decode cX3_drainOldest 9 = .ok (.getfield 54, 3) := by decide +kernel
theorem dX3_drainOldest_12 : decode cX3_drainOldest 12 = .ok (.iconst 0, 1) := by decide +kernel
theorem dX3_drainOldest_13 : decode cX3_drainOldest 13 = .ok (.invokevirtual 182, 3) := by decide +kernel
theorem dX3_drainOldest_16 : decode cX3_drainOldest 16 = .ok (.invokevirtual 244, 3) := by decide +kernel
theorem dX3_drainOldest_19 : decode cX3_drainOldest 19 = .ok (.ifCond .eq 11, 3) := by decide +kernel
theorem dX3_drainOldest_22 : decode cX3_drainOldest 22 = .ok (.aload_n 0, 1) := by decide +kernel
theorem dX3_drainOldest_23 : decode cX3_drainOldest 23 = .ok (.iconst 1, 1) := by decide +kernel
theorem dX3_drainOldest_24 : decode cX3_drainOldest 24 = .ok (.invokevirtual 150, 3) := by decide +kernel
theorem dX3_drainOldest_27 : decode cX3_drainOldest 27 = .ok (.ifCond .ne 5, 3) := by decide +kernel
theorem dX3_drainOldest_30 : decode cX3_drainOldest 30 = .ok (.iconst 0, 1) := by decide +kernel
theorem dX3_drainOldest_31 : decode cX3_drainOldest 31 = .ok (.ireturn, 1) := by decide +kernel
theorem dX3_drainOldest_32 : decode cX3_drainOldest 32 = .ok (.aload_n 0, 1) := by decide +kernel
theorem dX3_drainOldest_33 : decode cX3_drainOldest 33 = .ok (.getfield 9, 3) := by decide +kernel
theorem dX3_drainOldest_36 : decode cX3_drainOldest 36 = .ok (.iconst 5, 1) := by decide +kernel
theorem dX3_drainOldest_37 : decode cX3_drainOldest 37 = .ok (.dup2, 1) := by decide +kernel
theorem dX3_drainOldest_38 : decode cX3_drainOldest 38 = .ok (.iaload, 1) := by decide +kernel
theorem dX3_drainOldest_39 : decode cX3_drainOldest 39 = .ok (.iconst 1, 1) := by decide +kernel
theorem dX3_drainOldest_40 : decode cX3_drainOldest 40 = .ok (.iadd, 1) := by decide +kernel
theorem dX3_drainOldest_41 : decode cX3_drainOldest 41 = .ok (.iastore, 1) := by decide +kernel
theorem dX3_drainOldest_42 : decode cX3_drainOldest 42 = .ok (.iinc 2 1, 3) := by decide +kernel
theorem dX3_drainOldest_45 : decode cX3_drainOldest 45 = .ok (.goto (-43), 3) := by decide +kernel
theorem dX3_drainOldest_48 : decode cX3_drainOldest 48 = .ok (.iconst 1, 1) := by decide +kernel
theorem dX3_drainOldest_49 : decode cX3_drainOldest 49 = .ok (.ireturn, 1) := by decide +kernel
set_option maxRecDepth 20000 in
theorem ggX3_doAgain_X2_entry : GoodIn wsX3_doAgain wsX2_entry := goodIn_r _ [6, 7, 8, 70, 71, 72, 73, 74, 75] (by decide +kernel) (by decide +kernel)
set_option maxRecDepth 20000 in
theorem gX3_doAgain_X2_entry_n182 : GoodIn wsX3_doAgain (wsX2_entry) := ggX3_doAgain_X2_entry
set_option maxRecDepth 20000 in
theorem ggX3_doAgain_X3_putEntry : GoodIn wsX3_doAgain wsX3_putEntry := goodIn_r _ [13, 14, 15, 16, 17, 18, 12, 19, 20, 21, 22, 23, 24, 25, 26, 27, 28, 29, 30, 31, 32, 33, 34, 35, 36, 37, 38, 39, 40, 41, 42, 2, 43, 44, 45, 46, 47, 48, 49, 50, 51, 52, 53, 54, 55, 56, 57, 58, 59, 60, 61, 62, 63, 64, 65, 66, 67, 68, 69, 76, 77, 78, 79, 80, 81, 82, 83, 84, 85] (by decide +kernel) (by decide +kernel)
set_option maxRecDepth 20000 in
theorem gX3_doAgain_X3_putEntry : GoodIn wsX3_doAgain (wsV RX3 244 RX3 yX3_putEntry wsX3_putEntry) := goodIn_app (goodIn_of _ (by decide +kernel)) ggX3_doAgain_X3_putEntry
theorem dX3_doAgain_0 : decode cX3_doAgain 0 = .ok (.iconst 0, 1) := by decide +kernel
theorem dX3_doAgain_1 : decode cX3_doAgain 1 = .ok (.istore_n 2, 1) := by decide +kernel
theorem dX3_doAgain_2 : decode cX3_doAgain 2 = .ok (.iload_n 2, 1) := by decide +kernel
theorem dX3_doAgain_3 : decode cX3_doAgain 3 = .ok (.iload_n 1, 1) := by decide +kernel
theorem dX3_doAgain_4 : decode cX3_doAgain 4 = .ok (.if_icmp .ge 37, 3) := by decide +kernel
theorem dX3_doAgain_7 : decode cX3_doAgain 7 = .ok (.aload_n 0, 1) := by decide +kernel
theorem dX3_doAgain_8 : decode cX3_doAgain 8 = .ok (.aload_n 0, 1) := by decide +kernel
theorem dX3_doAgain_9 : decode cX3_doAgain 9 = .ok (.getfield 54, 3) := by decide +kernel
theorem dX3_doAgain_12 : decode cX3_doAgain 12 = .ok (.iload_n 2, 1) := by decide +kernel
theorem dX3_doAgain_13 : decode cX3_doAgain 13 = .ok (.invokevirtual 182, 3) := by decide +kernel
theorem dX3_doAgain_16 : decode cX3_doAgain 16 = .ok (.invokevirtual 244, 3) := by decide +kernel
theorem dX3_doAgain_19 : decode cX3_doAgain 19 = .ok (.ifCond .ne 5, 3) := by decide +kernel
theorem dX3_doAgain_22 : decode cX3_doAgain 22 = .ok (.iconst 0, 1) := by decide +kernel
theorem dX3_doAgain_23 : decode cX3_doAgain 23 = .ok (.ireturn, 1) := by decide +kernel
theorem dX3_doAgain_24 : decode cX3_doAgain 24 = .ok (.aload_n 0, 1) := by decide +kernel
theorem dX3_doAgain_25 : decode cX3_doAgain 25 = .ok (.getfield 9, 3) := by decide +kernel
theorem dX3_doAgain_28 : decode cX3_doAgain 28 = .ok (.bipush 6, 2) := by decide +kernel
theorem dX3_doAgain_30 : decode cX3_doAgain 30 = .ok (.dup2, 1) := by decide +kernel
theorem dX3_doAgain_31 : decode cX3_doAgain 31 = .ok (.iaload, 1) := by decide +kernel
theorem dX3_doAgain_32 : decode cX3_doAgain 32 = .ok (.iconst 1, 1) := by decide +kernel
theorem dX3_doAgain_33 : decode cX3_doAgain 33 = .ok (.iadd, 1) := by decide +kernel
theorem dX3_doAgain_34 : decode cX3_doAgain 34 = .ok (.iastore, 1) := by decide +kernel
theorem dX3_doAgain_35 : decode cX3_doAgain 35 = .ok (.iinc 2 1, 3) := by decide +kernel
theorem dX3_doAgain_38 : decode cX3_doAgain 38 = .ok (.goto (-36), 3) := by decide +kernel
theorem dX3_doAgain_41 : decode cX3_doAgain 41 = .ok (.iconst 1, 1) := by decide +kernel
theorem dX3_doAgain_42 : decode cX3_doAgain 42 = .ok (.ireturn, 1) := by decide +kernel
set_option maxRecDepth 20000 in
theorem ggX3_writeStripe_X2_made : GoodIn wsX3_writeStripe wsX2_made := goodIn_r _ [7, 8, 9, 10, 11, 5, 12, 13, 14, 175, 176, 177, 178, 179, 180] (by decide +kernel) (by decide +kernel)
set_option maxRecDepth 20000 in
theorem gX3_writeStripe_X2_made_n248 : GoodIn wsX3_writeStripe (wsX2_made) := ggX3_writeStripe_X2_made
set_option maxRecDepth 20000 in
theorem ggX3_writeStripe_X1_begin : GoodIn wsX3_writeStripe wsX1_begin := goodIn_r _ [18, 19, 20, 171, 172, 173, 174] (by decide +kernel) (by decide +kernel)
set_option maxRecDepth 20000 in
theorem gX3_writeStripe_X1_begin_n252 : GoodIn wsX3_writeStripe (wsX1_begin) := ggX3_writeStripe_X1_begin
set_option maxRecDepth 20000 in
theorem ggX3_writeStripe_X1_addDatum : GoodIn wsX3_writeStripe wsX1_addDatum := goodIn_r _ [23, 20, 24, 171, 172, 173, 174] (by decide +kernel) (by decide +kernel)
set_option maxRecDepth 20000 in
theorem gX3_writeStripe_X1_addDatum_n255 : GoodIn wsX3_writeStripe (wsX1_addDatum) := ggX3_writeStripe_X1_addDatum
set_option maxRecDepth 20000 in
theorem ggX3_writeStripe_X3_chooseWay : GoodIn wsX3_writeStripe wsX3_chooseWay := goodIn_r _ [29, 30, 31, 32, 33, 28, 34, 2, 35, 36, 37, 38, 39, 40, 41, 42, 43, 44, 45, 46, 47, 48, 49, 50, 51, 52, 53, 54, 55, 56, 1, 57, 5, 58, 59, 8, 9, 10, 11, 12, 13, 14, 60, 16, 61, 62, 20, 63, 64, 65, 66, 67, 68, 69, 70, 71, 72, 73, 74, 75, 76, 77, 78, 79, 80, 81, 82, 83, 161, 162, 163, 164, 165, 166, 167, 168, 169, 170, 181, 182, 183, 184, 185, 186, 175, 176, 177, 178, 179, 180, 171, 172, 173, 174] (by decide +kernel) (by decide +kernel)
set_option maxRecDepth 20000 in
theorem gX3_writeStripe_X3_chooseWay : GoodIn wsX3_writeStripe (wsV RX3 258 RX3 yX3_chooseWay wsX3_chooseWay) := goodIn_app (goodIn_of _ (by decide +kernel)) ggX3_writeStripe_X3_chooseWay
set_option maxRecDepth 20000 in
theorem ggX3_writeStripe_X3_addParity : GoodIn wsX3_writeStripe wsX3_addParity := goodIn_r _ [87, 39, 3, 2, 88, 45, 46, 47, 28, 48, 31, 32, 33, 34, 89, 90, 91, 92, 60, 16, 61, 62, 20, 93, 94, 95, 96, 97, 98, 99, 100, 1, 30, 57, 5, 58, 59, 8, 9, 10, 11, 12, 13, 14, 63, 64, 65, 66, 35, 36, 37, 38, 101, 102, 103, 24, 171, 172, 173, 174, 161, 162, 163, 164, 165, 166, 167, 168, 169, 170, 181, 182, 183, 184, 185, 186, 175, 176, 177, 178, 179, 180] (by decide +kernel) (by decide +kernel)
set_option maxRecDepth 20000 in
theorem gX3_writeStripe_X3_addParity : GoodIn wsX3_writeStripe (wsV RX3 261 RX3 yX3_addParity wsX3_addParity) := goodIn_app (goodIn_of _ (by decide +kernel)) ggX3_writeStripe_X3_addParity
set_option maxRecDepth 20000 in
theorem ggX3_writeStripe_X1_cells : GoodIn wsX3_writeStripe wsX1_cells := goodIn_r _ [106, 20, 107, 78, 79, 80, 81, 82, 83, 171, 172, 173, 174] (by decide +kernel) (by decide +kernel)
set_option maxRecDepth 20000 in
theorem gX3_writeStripe_X1_cells_n265 : GoodIn wsX3_writeStripe (wsX1_cells) := ggX3_writeStripe_X1_cells
set_option maxRecDepth 20000 in
theorem ggX3_writeStripe_X2_recordsToFree : GoodIn wsX3_writeStripe wsX2_recordsToFree := goodIn_r _ [110, 8, 111, 112, 113, 5, 114, 115, 9, 10, 11, 12, 13, 14, 104, 16, 105, 106, 20, 107, 78, 79, 80, 81, 82, 83, 175, 176, 177, 178, 179, 180, 171, 172, 173, 174] (by decide +kernel) (by decide +kernel)
set_option maxRecDepth 20000 in
theorem gX3_writeStripe_X2_recordsToFree_n268 : GoodIn wsX3_writeStripe (wsX2_recordsToFree) := ggX3_writeStripe_X2_recordsToFree
set_option maxRecDepth 20000 in
theorem ggX3_writeStripe_X3_drainOldest : GoodIn wsX3_writeStripe wsX3_drainOldest := goodIn_r _ [119, 1, 3, 10, 5, 11, 12, 13, 14, 120, 121, 122, 28, 123, 39, 30, 63, 64, 65, 66, 35, 36, 37, 38, 60, 16, 61, 62, 20, 40, 41, 42, 43, 44, 124, 125, 126, 127, 128, 129, 130, 131, 132, 133, 134, 135, 136, 137, 138, 139, 140, 141, 142, 72, 71, 70, 143, 74, 75, 76, 144, 145, 146, 147, 148, 149, 150, 8, 151, 152, 115, 9, 104, 105, 106, 107, 78, 79, 80, 81, 82, 83, 161, 162, 163, 164, 165, 166, 167, 168, 169, 170, 175, 176, 177, 178, 179, 180, 171, 172, 173, 174, 181, 182, 183, 184, 185, 186] (by decide +kernel) (by decide +kernel)
set_option maxRecDepth 20000 in
theorem gX3_writeStripe_X3_drainOldest : GoodIn wsX3_writeStripe (wsV RX3 110 RX3 yX3_drainOldest wsX3_drainOldest) := goodIn_app (goodIn_of _ (by decide +kernel)) ggX3_writeStripe_X3_drainOldest
set_option maxRecDepth 20000 in
theorem ggX3_writeStripe_X3_putCells : GoodIn wsX3_writeStripe wsX3_putCells := goodIn_r _ [156, 3, 129, 130, 131, 28, 132, 133, 134, 135, 39, 30, 136, 41, 137, 138, 139, 44, 161, 162, 163, 164, 165, 166, 167, 168, 169, 170, 181, 182, 183, 184, 185, 186] (by decide +kernel) (by decide +kernel)
set_option maxRecDepth 20000 in
theorem gX3_writeStripe_X3_putCells : GoodIn wsX3_writeStripe (wsV RX3 271 RX3 yX3_putCells wsX3_putCells) := goodIn_app (goodIn_of _ (by decide +kernel)) ggX3_writeStripe_X3_putCells
set_option maxRecDepth 20000 in
theorem ggX3_writeStripe_X2_addMade : GoodIn wsX3_writeStripe wsX2_addMade := goodIn_r _ [159, 115, 8, 160, 4, 6, 5, 7, 9, 10, 11, 12, 13, 14, 104, 16, 105, 106, 20, 107, 78, 79, 80, 81, 82, 83, 175, 176, 177, 178, 179, 180, 171, 172, 173, 174] (by decide +kernel) (by decide +kernel)
set_option maxRecDepth 20000 in
theorem gX3_writeStripe_X2_addMade_n274 : GoodIn wsX3_writeStripe (wsX2_addMade) := ggX3_writeStripe_X2_addMade
theorem dX3_writeStripe_0 : decode cX3_writeStripe 0 = .ok (.aload_n 0, 1) := by decide +kernel
theorem dX3_writeStripe_1 : decode cX3_writeStripe 1 = .ok (.getfield 54, 3) := by decide +kernel
theorem dX3_writeStripe_4 : decode cX3_writeStripe 4 = .ok (.invokevirtual 248, 3) := by decide +kernel
theorem dX3_writeStripe_7 : decode cX3_writeStripe 7 = .ok (.astore 5, 2) := by decide +kernel
theorem dX3_writeStripe_9 : decode cX3_writeStripe 9 = .ok (.aload 5, 2) := by decide +kernel
theorem dX3_writeStripe_11 : decode cX3_writeStripe 11 = .ok (.iload_n 1, 1) := by decide +kernel
theorem dX3_writeStripe_12 : decode cX3_writeStripe 12 = .ok (.invokevirtual 252, 3) := by decide +kernel
theorem dX3_writeStripe_15 : decode cX3_writeStripe 15 = .ok (.iload_n 2, 1) := by decide +kernel
theorem dX3_writeStripe_16 : decode cX3_writeStripe 16 = .ok (.istore 6, 2) := by decide +kernel
theorem dX3_writeStripe_18 : decode cX3_writeStripe 18 = .ok (.iload 6, 2) := by decide +kernel
theorem dX3_writeStripe_20 : decode cX3_writeStripe 20 = .ok (.iload_n 3, 1) := by decide +kernel
theorem dX3_writeStripe_21 : decode cX3_writeStripe 21 = .ok (.if_icmp .gt 31, 3) := by decide +kernel
theorem dX3_writeStripe_24 : decode cX3_writeStripe 24 = .ok (.aload 5, 2) := by decide +kernel
theorem dX3_writeStripe_26 : decode cX3_writeStripe 26 = .ok (.iload 6, 2) := by decide +kernel
theorem dX3_writeStripe_28 : decode cX3_writeStripe 28 = .ok (.aload_n 0, 1) := by decide +kernel
theorem dX3_writeStripe_29 : decode cX3_writeStripe 29 = .ok (.getfield 39, 3) := by decide +kernel
theorem dX3_writeStripe_32 : decode cX3_writeStripe 32 = .ok (.irem, 1) := by decide +kernel
theorem dX3_writeStripe_33 : decode cX3_writeStripe 33 = .ok (.iload 4, 2) := by decide +kernel
theorem dX3_writeStripe_35 : decode cX3_writeStripe 35 = .ok (.bipush 8, 2) := by decide +kernel
theorem dX3_writeStripe_37 : decode cX3_writeStripe 37 = .ok (.iload 6, 2) := by decide +kernel
theorem dX3_writeStripe_39 : decode cX3_writeStripe 39 = .ok (.iload_n 2, 1) := by decide +kernel
theorem dX3_writeStripe_40 : decode cX3_writeStripe 40 = .ok (.isub, 1) := by decide +kernel
theorem dX3_writeStripe_41 : decode cX3_writeStripe 41 = .ok (.imul, 1) := by decide +kernel
theorem dX3_writeStripe_42 : decode cX3_writeStripe 42 = .ok (.iadd, 1) := by decide +kernel
theorem dX3_writeStripe_43 : decode cX3_writeStripe 43 = .ok (.invokevirtual 255, 3) := by decide +kernel
theorem dX3_writeStripe_46 : decode cX3_writeStripe 46 = .ok (.iinc 6 1, 3) := by decide +kernel
theorem dX3_writeStripe_49 : decode cX3_writeStripe 49 = .ok (.goto (-31), 3) := by decide +kernel
theorem dX3_writeStripe_52 : decode cX3_writeStripe 52 = .ok (.aload 5, 2) := by decide +kernel
theorem dX3_writeStripe_54 : decode cX3_writeStripe 54 = .ok (.aload_n 0, 1) := by decide +kernel
theorem dX3_writeStripe_55 : decode cX3_writeStripe 55 = .ok (.iload_n 1, 1) := by decide +kernel
theorem dX3_writeStripe_56 : decode cX3_writeStripe 56 = .ok (.aload 5, 2) := by decide +kernel
theorem dX3_writeStripe_58 : decode cX3_writeStripe 58 = .ok (.getfield 191, 3) := by decide +kernel
theorem dX3_writeStripe_61 : decode cX3_writeStripe 61 = .ok (.invokevirtual 258, 3) := by decide +kernel
theorem dX3_writeStripe_64 : decode cX3_writeStripe 64 = .ok (.putfield 200, 3) := by decide +kernel
theorem dX3_writeStripe_67 : decode cX3_writeStripe 67 = .ok (.aload 5, 2) := by decide +kernel
theorem dX3_writeStripe_69 : decode cX3_writeStripe 69 = .ok (.getfield 200, 3) := by decide +kernel
theorem dX3_writeStripe_72 : decode cX3_writeStripe 72 = .ok (.iconst (-1), 1) := by decide +kernel
theorem dX3_writeStripe_73 : decode cX3_writeStripe 73 = .ok (.if_icmp .ne 6, 3) := by decide +kernel
theorem dX3_writeStripe_76 : decode cX3_writeStripe 76 = .ok (.bipush (-105), 2) := by decide +kernel
theorem dX3_writeStripe_78 : decode cX3_writeStripe 78 = .ok (.ireturn, 1) := by decide +kernel
theorem dX3_writeStripe_79 : decode cX3_writeStripe 79 = .ok (.aload 5, 2) := by decide +kernel
theorem dX3_writeStripe_81 : decode cX3_writeStripe 81 = .ok (.getfield 200, 3) := by decide +kernel
theorem dX3_writeStripe_84 : decode cX3_writeStripe 84 = .ok (.iconst 1, 1) := by decide +kernel
theorem dX3_writeStripe_85 : decode cX3_writeStripe 85 = .ok (.if_icmp .eq 9, 3) := by decide +kernel
theorem dX3_writeStripe_88 : decode cX3_writeStripe 88 = .ok (.aload_n 0, 1) := by decide +kernel
theorem dX3_writeStripe_89 : decode cX3_writeStripe 89 = .ok (.aload 5, 2) := by decide +kernel
theorem dX3_writeStripe_91 : decode cX3_writeStripe 91 = .ok (.invokevirtual 261, 3) := by decide +kernel
theorem dX3_writeStripe_94 : decode cX3_writeStripe 94 = .ok (.aload_n 0, 1) := by decide +kernel
theorem dX3_writeStripe_95 : decode cX3_writeStripe 95 = .ok (.aload_n 0, 1) := by decide +kernel
theorem dX3_writeStripe_96 : decode cX3_writeStripe 96 = .ok (.getfield 54, 3) := by decide +kernel
theorem dX3_writeStripe_99 : decode cX3_writeStripe 99 = .ok (.aload 5, 2) := by decide +kernel
theorem dX3_writeStripe_101 : decode cX3_writeStripe 101 = .ok (.invokevirtual 265, 3) := by decide +kernel
theorem dX3_writeStripe_104 : decode cX3_writeStripe 104 = .ok (.invokevirtual 268, 3) := by decide +kernel
theorem dX3_writeStripe_107 : decode cX3_writeStripe 107 = .ok (.invokevirtual 110, 3) := by decide +kernel
theorem dX3_writeStripe_110 : decode cX3_writeStripe 110 = .ok (.ifCond .eq 15, 3) := by decide +kernel
theorem dX3_writeStripe_113 : decode cX3_writeStripe 113 = .ok (.aload_n 0, 1) := by decide +kernel
theorem dX3_writeStripe_114 : decode cX3_writeStripe 114 = .ok (.aload 5, 2) := by decide +kernel
theorem dX3_writeStripe_116 : decode cX3_writeStripe 116 = .ok (.invokevirtual 265, 3) := by decide +kernel
theorem dX3_writeStripe_119 : decode cX3_writeStripe 119 = .ok (.invokevirtual 271, 3) := by decide +kernel
theorem dX3_writeStripe_122 : decode cX3_writeStripe 122 = .ok (.ifCond .ne 6, 3) := by decide +kernel
theorem dX3_writeStripe_125 : decode cX3_writeStripe 125 = .ok (.bipush (-106), 2) := by decide +kernel
theorem dX3_writeStripe_127 : decode cX3_writeStripe 127 = .ok (.ireturn, 1) := by decide +kernel
theorem dX3_writeStripe_128 : decode cX3_writeStripe 128 = .ok (.aload_n 0, 1) := by decide +kernel
theorem dX3_writeStripe_129 : decode cX3_writeStripe 129 = .ok (.getfield 54, 3) := by decide +kernel
theorem dX3_writeStripe_132 : decode cX3_writeStripe 132 = .ok (.invokevirtual 274, 3) := by decide +kernel
theorem dX3_writeStripe_135 : decode cX3_writeStripe 135 = .ok (.aload_n 0, 1) := by decide +kernel
theorem dX3_writeStripe_136 : decode cX3_writeStripe 136 = .ok (.getfield 9, 3) := by decide +kernel
theorem dX3_writeStripe_139 : decode cX3_writeStripe 139 = .ok (.iconst 4, 1) := by decide +kernel
theorem dX3_writeStripe_140 : decode cX3_writeStripe 140 = .ok (.dup2, 1) := by decide +kernel
theorem dX3_writeStripe_141 : decode cX3_writeStripe 141 = .ok (.iaload, 1) := by decide +kernel
theorem dX3_writeStripe_142 : decode cX3_writeStripe 142 = .ok (.iconst 1, 1) := by decide +kernel
theorem dX3_writeStripe_143 : decode cX3_writeStripe 143 = .ok (.iadd, 1) := by decide +kernel
theorem dX3_writeStripe_144 : decode cX3_writeStripe 144 = .ok (.iastore, 1) := by decide +kernel
theorem dX3_writeStripe_145 : decode cX3_writeStripe 145 = .ok (.aload_n 0, 1) := by decide +kernel
theorem dX3_writeStripe_146 : decode cX3_writeStripe 146 = .ok (.getfield 9, 3) := by decide +kernel
theorem dX3_writeStripe_149 : decode cX3_writeStripe 149 = .ok (.bipush 9, 2) := by decide +kernel
theorem dX3_writeStripe_151 : decode cX3_writeStripe 151 = .ok (.aload 5, 2) := by decide +kernel
theorem dX3_writeStripe_153 : decode cX3_writeStripe 153 = .ok (.getfield 200, 3) := by decide +kernel
theorem dX3_writeStripe_156 : decode cX3_writeStripe 156 = .ok (.iadd, 1) := by decide +kernel
theorem dX3_writeStripe_157 : decode cX3_writeStripe 157 = .ok (.dup2, 1) := by decide +kernel
theorem dX3_writeStripe_158 : decode cX3_writeStripe 158 = .ok (.iaload, 1) := by decide +kernel
theorem dX3_writeStripe_159 : decode cX3_writeStripe 159 = .ok (.iconst 1, 1) := by decide +kernel
theorem dX3_writeStripe_160 : decode cX3_writeStripe 160 = .ok (.iadd, 1) := by decide +kernel
theorem dX3_writeStripe_161 : decode cX3_writeStripe 161 = .ok (.iastore, 1) := by decide +kernel
theorem dX3_writeStripe_162 : decode cX3_writeStripe 162 = .ok (.iconst 0, 1) := by decide +kernel
theorem dX3_writeStripe_163 : decode cX3_writeStripe 163 = .ok (.ireturn, 1) := by decide +kernel
set_option maxRecDepth 20000 in
theorem ggX3_chooseWay_X3_allData : GoodIn wsX3_chooseWay wsX3_allData := goodIn_r _ [6, 7, 68, 69, 70, 71, 72, 73, 74, 75, 76, 77] (by decide +kernel) (by decide +kernel)
set_option maxRecDepth 20000 in
theorem gX3_chooseWay_X3_allData : GoodIn wsX3_chooseWay (wsV RX3 194 RX3 yX3_allData wsX3_allData) := goodIn_app (goodIn_of _ (by decide +kernel)) ggX3_chooseWay_X3_allData
set_option maxRecDepth 20000 in
theorem ggX3_chooseWay_X3_parityMember : GoodIn wsX3_chooseWay wsX3_parityMember := goodIn_r _ [11, 12, 68, 69, 70, 71, 72, 73, 74, 75, 76, 77] (by decide +kernel) (by decide +kernel)
set_option maxRecDepth 20000 in
theorem gX3_chooseWay_X3_parityMember : GoodIn wsX3_chooseWay (wsV RX3 65 RX3 yX3_parityMember wsX3_parityMember) := goodIn_app (goodIn_of _ (by decide +kernel)) ggX3_chooseWay_X3_parityMember
set_option maxRecDepth 20000 in
theorem ggX3_chooseWay_X0_isOn : GoodIn wsX3_chooseWay wsX0_isOn := goodIn_r _ [16, 17, 78, 79, 80, 81, 82, 83] (by decide +kernel) (by decide +kernel)
set_option maxRecDepth 20000 in
theorem gX3_chooseWay_X0_isOn_n237 : GoodIn wsX3_chooseWay (wsX0_isOn) := ggX3_chooseWay_X0_isOn
set_option maxRecDepth 20000 in
theorem ggX3_chooseWay_X3_needed : GoodIn wsX3_chooseWay wsX3_needed := goodIn_r _ [21, 7, 2, 3, 4, 5, 6, 68, 69, 70, 71, 72, 73, 74, 75, 76, 77] (by decide +kernel) (by decide +kernel)
set_option maxRecDepth 20000 in
theorem gX3_chooseWay_X3_needed : GoodIn wsX3_chooseWay (wsV RX3 277 RX3 yX3_needed wsX3_needed) := goodIn_app (goodIn_of _ (by decide +kernel)) ggX3_chooseWay_X3_needed
set_option maxRecDepth 20000 in
theorem ggX3_chooseWay_X3_haveNewest : GoodIn wsX3_chooseWay wsX3_haveNewest := goodIn_r _ [25, 12, 26, 27, 28, 5, 29, 30, 1, 31, 32, 33, 34, 35, 36, 37, 38, 39, 40, 41, 42, 43, 44, 45, 46, 47, 48, 49, 50, 8, 9, 10, 11, 51, 14, 52, 53, 54, 55, 56, 57, 13, 15, 16, 17, 58, 59, 60, 68, 69, 70, 71, 72, 73, 74, 75, 76, 77, 84, 85, 86, 87, 88, 89, 90, 91, 92, 93, 78, 79, 80, 81, 82, 83] (by decide +kernel) (by decide +kernel)
set_option maxRecDepth 20000 in
theorem gX3_chooseWay_X3_haveNewest : GoodIn wsX3_chooseWay (wsV RX3 280 RX3 yX3_haveNewest wsX3_haveNewest) := goodIn_app (goodIn_of _ (by decide +kernel)) ggX3_chooseWay_X3_haveNewest
set_option maxRecDepth 20000 in
theorem ggX3_chooseWay_J6_bitCount_0f7a4 : GoodIn wsX3_chooseWay wsJ6_bitCount_0f7a4 := goodIn_r _ [64, 65, 66, 67] (by decide +kernel) (by decide +kernel)
set_option maxRecDepth 20000 in
theorem gX3_chooseWay_J6_bitCount_0f7a4 : GoodIn wsX3_chooseWay (va_wsS RX3 283 yJ6_bitCount_0f7a4 wsJ6_bitCount_0f7a4) := goodIn_app (goodIn_of _ (by decide +kernel)) ggX3_chooseWay_J6_bitCount_0f7a4
theorem dX3_chooseWay_0 : decode cX3_chooseWay 0 = .ok (.iload_n 2, 1) := by decide +kernel
theorem dX3_chooseWay_1 : decode cX3_chooseWay 1 = .ok (.aload_n 0, 1) := by decide +kernel
theorem dX3_chooseWay_2 : decode cX3_chooseWay 2 = .ok (.invokevirtual 194, 3) := by decide +kernel
theorem dX3_chooseWay_5 : decode cX3_chooseWay 5 = .ok (.if_icmp .ne 5, 3) := by decide +kernel
theorem dX3_chooseWay_8 : decode cX3_chooseWay 8 = .ok (.iconst 0, 1) := by decide +kernel
theorem dX3_chooseWay_9 : decode cX3_chooseWay 9 = .ok (.ireturn, 1) := by decide +kernel
theorem dX3_chooseWay_10 : decode cX3_chooseWay 10 = .ok (.aload_n 0, 1) := by decide +kernel
theorem dX3_chooseWay_11 : decode cX3_chooseWay 11 = .ok (.getfield 44, 3) := by decide +kernel
theorem dX3_chooseWay_14 : decode cX3_chooseWay 14 = .ok (.aload_n 0, 1) := by decide +kernel
theorem dX3_chooseWay_15 : decode cX3_chooseWay 15 = .ok (.iload_n 1, 1) := by decide +kernel
theorem dX3_chooseWay_16 : decode cX3_chooseWay 16 = .ok (.invokevirtual 65, 3) := by decide +kernel
theorem dX3_chooseWay_19 : decode cX3_chooseWay 19 = .ok (.aaload, 1) := by decide +kernel
theorem dX3_chooseWay_20 : decode cX3_chooseWay 20 = .ok (.iload_n 1, 1) := by decide +kernel
theorem dX3_chooseWay_21 : decode cX3_chooseWay 21 = .ok (.invokevirtual 237, 3) := by decide +kernel
theorem dX3_chooseWay_24 : decode cX3_chooseWay 24 = .ok (.ifCond .ne 5, 3) := by decide +kernel
theorem dX3_chooseWay_27 : decode cX3_chooseWay 27 = .ok (.iconst 1, 1) := by decide +kernel
theorem dX3_chooseWay_28 : decode cX3_chooseWay 28 = .ok (.ireturn, 1) := by decide +kernel
theorem dX3_chooseWay_29 : decode cX3_chooseWay 29 = .ok (.aload_n 0, 1) := by decide +kernel
theorem dX3_chooseWay_30 : decode cX3_chooseWay 30 = .ok (.iconst 2, 1) := by decide +kernel
theorem dX3_chooseWay_31 : decode cX3_chooseWay 31 = .ok (.iload_n 2, 1) := by decide +kernel
theorem dX3_chooseWay_32 : decode cX3_chooseWay 32 = .ok (.invokevirtual 277, 3) := by decide +kernel
theorem dX3_chooseWay_35 : decode cX3_chooseWay 35 = .ok (.istore_n 3, 1) := by decide +kernel
theorem dX3_chooseWay_36 : decode cX3_chooseWay 36 = .ok (.aload_n 0, 1) := by decide +kernel
theorem dX3_chooseWay_37 : decode cX3_chooseWay 37 = .ok (.iconst 3, 1) := by decide +kernel
theorem dX3_chooseWay_38 : decode cX3_chooseWay 38 = .ok (.iload_n 2, 1) := by decide +kernel
theorem dX3_chooseWay_39 : decode cX3_chooseWay 39 = .ok (.invokevirtual 277, 3) := by decide +kernel
theorem dX3_chooseWay_42 : decode cX3_chooseWay 42 = .ok (.istore 4, 2) := by decide +kernel
theorem dX3_chooseWay_44 : decode cX3_chooseWay 44 = .ok (.aload_n 0, 1) := by decide +kernel
theorem dX3_chooseWay_45 : decode cX3_chooseWay 45 = .ok (.iload_n 1, 1) := by decide +kernel
theorem dX3_chooseWay_46 : decode cX3_chooseWay 46 = .ok (.iload_n 3, 1) := by decide +kernel
theorem dX3_chooseWay_47 : decode cX3_chooseWay 47 = .ok (.invokevirtual 280, 3) := by decide +kernel
theorem dX3_chooseWay_50 : decode cX3_chooseWay 50 = .ok (.istore 5, 2) := by decide +kernel
theorem dX3_chooseWay_52 : decode cX3_chooseWay 52 = .ok (.aload_n 0, 1) := by decide +kernel
theorem dX3_chooseWay_53 : decode cX3_chooseWay 53 = .ok (.iload_n 1, 1) := by decide +kernel
theorem dX3_chooseWay_54 : decode cX3_chooseWay 54 = .ok (.iload 4, 2) := by decide +kernel
theorem dX3_chooseWay_56 : decode cX3_chooseWay 56 = .ok (.invokevirtual 280, 3) := by decide +kernel
theorem dX3_chooseWay_59 : decode cX3_chooseWay 59 = .ok (.istore 6, 2) := by decide +kernel
theorem dX3_chooseWay_61 : decode cX3_chooseWay 61 = .ok (.iload 5, 2) := by decide +kernel
theorem dX3_chooseWay_63 : decode cX3_chooseWay 63 = .ok (.ifCond .eq 26, 3) := by decide +kernel
theorem dX3_chooseWay_66 : decode cX3_chooseWay 66 = .ok (.iload 6, 2) := by decide +kernel
theorem dX3_chooseWay_68 : decode cX3_chooseWay 68 = .ok (.ifCond .eq 21, 3) := by decide +kernel
theorem dX3_chooseWay_71 : decode cX3_chooseWay 71 = .ok (.iload_n 3, 1) := by decide +kernel
theorem dX3_chooseWay_72 : decode cX3_chooseWay 72 = .ok (.invokestatic 283, 3) := by decide +kernel
theorem dX3_chooseWay_75 : decode cX3_chooseWay 75 = .ok (.iload 4, 2) := by decide +kernel
theorem dX3_chooseWay_77 : decode cX3_chooseWay 77 = .ok (.invokestatic 283, 3) := by decide +kernel
theorem dX3_chooseWay_80 : decode cX3_chooseWay 80 = .ok (.if_icmp .gt 7, 3) := by decide +kernel
theorem dX3_chooseWay_83 : decode cX3_chooseWay 83 = .ok (.iconst 2, 1) := by decide +kernel
theorem dX3_chooseWay_84 : decode cX3_chooseWay 84 = .ok (.goto 4, 3) := by decide +kernel
theorem dX3_chooseWay_87 : decode cX3_chooseWay 87 = .ok (.iconst 3, 1) := by decide +kernel
theorem dX3_chooseWay_88 : decode cX3_chooseWay 88 = .ok (.ireturn, 1) := by decide +kernel
theorem dX3_chooseWay_89 : decode cX3_chooseWay 89 = .ok (.iload 5, 2) := by decide +kernel
theorem dX3_chooseWay_91 : decode cX3_chooseWay 91 = .ok (.ifCond .eq 5, 3) := by decide +kernel
theorem dX3_chooseWay_94 : decode cX3_chooseWay 94 = .ok (.iconst 2, 1) := by decide +kernel
theorem dX3_chooseWay_95 : decode cX3_chooseWay 95 = .ok (.ireturn, 1) := by decide +kernel
theorem dX3_chooseWay_96 : decode cX3_chooseWay 96 = .ok (.iload 6, 2) := by decide +kernel
theorem dX3_chooseWay_98 : decode cX3_chooseWay 98 = .ok (.ifCond .eq 7, 3) := by decide +kernel
theorem dX3_chooseWay_101 : decode cX3_chooseWay 101 = .ok (.iconst 3, 1) := by decide +kernel
theorem dX3_chooseWay_102 : decode cX3_chooseWay 102 = .ok (.goto 4, 3) := by decide +kernel
theorem dX3_chooseWay_105 : decode cX3_chooseWay 105 = .ok (.iconst (-1), 1) := by decide +kernel
theorem dX3_chooseWay_106 : decode cX3_chooseWay 106 = .ok (.ireturn, 1) := by decide +kernel
set_option maxRecDepth 20000 in
theorem ggX3_needed_X3_allData : GoodIn wsX3_needed wsX3_allData := goodIn_r _ [6, 1, 7, 8, 9, 10, 11, 12, 13, 14, 15, 16] (by decide +kernel) (by decide +kernel)
set_option maxRecDepth 20000 in
theorem gX3_needed_X3_allData : GoodIn wsX3_needed (wsV RX3 194 RX3 yX3_allData wsX3_allData) := goodIn_app (goodIn_of _ (by decide +kernel)) ggX3_needed_X3_allData
theorem dX3_needed_0 : decode cX3_needed 0 = .ok (.iload_n 1, 1) := by decide +kernel
theorem dX3_needed_1 : decode cX3_needed 1 = .ok (.lookupswitch 45 #[(2, 27), (3, 36)], 27) := by decide +kernel
theorem dX3_needed_28 : decode cX3_needed 28 = .ok (.iload_n 2, 1) := by decide +kernel
theorem dX3_needed_29 : decode cX3_needed 29 = .ok (.iconst 1, 1) := by decide +kernel
theorem dX3_needed_30 : decode cX3_needed 30 = .ok (.aload_n 0, 1) := by decide +kernel
theorem dX3_needed_31 : decode cX3_needed 31 = .ok (.getfield 39, 3) := by decide +kernel
theorem dX3_needed_34 : decode cX3_needed 34 = .ok (.ishl, 1) := by decide +kernel
theorem dX3_needed_35 : decode cX3_needed 35 = .ok (.ior, 1) := by decide +kernel
theorem dX3_needed_36 : decode cX3_needed 36 = .ok (.ireturn, 1) := by decide +kernel
theorem dX3_needed_37 : decode cX3_needed 37 = .ok (.aload_n 0, 1) := by decide +kernel
theorem dX3_needed_38 : decode cX3_needed 38 = .ok (.invokevirtual 194, 3) := by decide +kernel
theorem dX3_needed_41 : decode cX3_needed 41 = .ok (.iload_n 2, 1) := by decide +kernel
theorem dX3_needed_42 : decode cX3_needed 42 = .ok (.iconst (-1), 1) := by decide +kernel
theorem dX3_needed_43 : decode cX3_needed 43 = .ok (.ixor, 1) := by decide +kernel
theorem dX3_needed_44 : decode cX3_needed 44 = .ok (.iand, 1) := by decide +kernel
theorem dX3_needed_45 : decode cX3_needed 45 = .ok (.ireturn, 1) := by decide +kernel
theorem dX3_needed_46 : decode cX3_needed 46 = .ok (.iconst 0, 1) := by decide +kernel
theorem dX3_needed_47 : decode cX3_needed 47 = .ok (.ireturn, 1) := by decide +kernel
set_option maxRecDepth 20000 in
theorem ggX3_addParity_X3_needed : GoodIn wsX3_addParity wsX3_needed := goodIn_r _ [9, 3, 10, 11, 12, 8, 13, 60, 61, 62, 63, 64, 65, 66, 67, 68, 69] (by decide +kernel) (by decide +kernel)
set_option maxRecDepth 20000 in
theorem gX3_addParity_X3_needed : GoodIn wsX3_addParity (wsV RX3 277 RX3 yX3_needed wsX3_needed) := goodIn_app (goodIn_of _ (by decide +kernel)) ggX3_addParity_X3_needed
set_option maxRecDepth 20000 in
theorem ggX3_addParity_X3_clearMixed : GoodIn wsX3_addParity wsX3_clearMixed := goodIn_r _ [17, 4, 60, 61, 62, 63, 64, 65, 66, 67, 68, 69] (by decide +kernel) (by decide +kernel)
set_option maxRecDepth 20000 in
theorem gX3_addParity_X3_clearMixed : GoodIn wsX3_addParity (wsV RX3 96 RX3 yX3_clearMixed wsX3_clearMixed) := goodIn_app (goodIn_of _ (by decide +kernel)) ggX3_addParity_X3_clearMixed
set_option maxRecDepth 20000 in
theorem ggX3_addParity_X1_has : GoodIn wsX3_addParity wsX1_has := goodIn_r _ [21, 22, 56, 57, 58, 59] (by decide +kernel) (by decide +kernel)
set_option maxRecDepth 20000 in
theorem gX3_addParity_X1_has_n197 : GoodIn wsX3_addParity (wsX1_has) := ggX3_addParity_X1_has
set_option maxRecDepth 20000 in
theorem ggX3_addParity_X3_mix : GoodIn wsX3_addParity wsX3_mix := goodIn_r _ [26, 4, 60, 61, 62, 63, 64, 65, 66, 67, 68, 69] (by decide +kernel) (by decide +kernel)
set_option maxRecDepth 20000 in
theorem gX3_addParity_X3_mix : GoodIn wsX3_addParity (wsV RX3 219 RX3 yX3_mix wsX3_mix) := goodIn_app (goodIn_of _ (by decide +kernel)) ggX3_addParity_X3_mix
set_option maxRecDepth 20000 in
theorem ggX3_addParity_X3_mixNewest : GoodIn wsX3_addParity wsX3_mixNewest := goodIn_r _ [30, 31, 32, 33, 34, 35, 36, 37, 38, 39, 40, 41, 42, 43, 18, 19, 20, 21, 22, 23, 24, 25, 8, 26, 4, 44, 45, 46, 47, 1, 48, 49, 50, 51, 60, 61, 62, 63, 64, 65, 66, 67, 68, 69, 56, 57, 58, 59, 70, 71, 72, 73, 74, 75, 76, 77, 78, 79, 80, 81] (by decide +kernel) (by decide +kernel)
set_option maxRecDepth 20000 in
theorem gX3_addParity_X3_mixNewest : GoodIn wsX3_addParity (wsV RX3 103 RX3 yX3_mixNewest wsX3_mixNewest) := goodIn_app (goodIn_of _ (by decide +kernel)) ggX3_addParity_X3_mixNewest
set_option maxRecDepth 20000 in
theorem ggX3_addParity_X1_addWords : GoodIn wsX3_addParity wsX1_addWords := goodIn_r _ [54, 22, 55, 56, 57, 58, 59] (by decide +kernel) (by decide +kernel)
set_option maxRecDepth 20000 in
theorem gX3_addParity_X1_addWords_n288 : GoodIn wsX3_addParity (wsX1_addWords) := ggX3_addParity_X1_addWords
theorem dX3_addParity_0 : decode cX3_addParity 0 = .ok (.aload_n 0, 1) := by decide +kernel
theorem dX3_addParity_1 : decode cX3_addParity 1 = .ok (.aload_n 1, 1) := by decide +kernel
theorem dX3_addParity_2 : decode cX3_addParity 2 = .ok (.getfield 200, 3) := by decide +kernel
theorem dX3_addParity_5 : decode cX3_addParity 5 = .ok (.aload_n 1, 1) := by decide +kernel
theorem dX3_addParity_6 : decode cX3_addParity 6 = .ok (.getfield 191, 3) := by decide +kernel
theorem dX3_addParity_9 : decode cX3_addParity 9 = .ok (.invokevirtual 277, 3) := by decide +kernel
theorem dX3_addParity_12 : decode cX3_addParity 12 = .ok (.istore_n 2, 1) := by decide +kernel
theorem dX3_addParity_13 : decode cX3_addParity 13 = .ok (.aload_n 0, 1) := by decide +kernel
theorem dX3_addParity_14 : decode cX3_addParity 14 = .ok (.invokevirtual 96, 3) := by decide +kernel
theorem dX3_addParity_17 : decode cX3_addParity 17 = .ok (.iconst 0, 1) := by decide +kernel
theorem dX3_addParity_18 : decode cX3_addParity 18 = .ok (.istore_n 3, 1) := by decide +kernel
theorem dX3_addParity_19 : decode cX3_addParity 19 = .ok (.iload_n 3, 1) := by decide +kernel
theorem dX3_addParity_20 : decode cX3_addParity 20 = .ok (.aload_n 0, 1) := by decide +kernel
theorem dX3_addParity_21 : decode cX3_addParity 21 = .ok (.getfield 36, 3) := by decide +kernel
theorem dX3_addParity_24 : decode cX3_addParity 24 = .ok (.if_icmp .ge 60, 3) := by decide +kernel
theorem dX3_addParity_27 : decode cX3_addParity 27 = .ok (.aload_n 1, 1) := by decide +kernel
theorem dX3_addParity_28 : decode cX3_addParity 28 = .ok (.iload_n 3, 1) := by decide +kernel
theorem dX3_addParity_29 : decode cX3_addParity 29 = .ok (.invokevirtual 197, 3) := by decide +kernel
theorem dX3_addParity_32 : decode cX3_addParity 32 = .ok (.ifCond .eq 15, 3) := by decide +kernel
theorem dX3_addParity_35 : decode cX3_addParity 35 = .ok (.aload_n 0, 1) := by decide +kernel
theorem dX3_addParity_36 : decode cX3_addParity 36 = .ok (.aload_n 1, 1) := by decide +kernel
theorem dX3_addParity_37 : decode cX3_addParity 37 = .ok (.getfield 223, 3) := by decide +kernel
theorem dX3_addParity_40 : decode cX3_addParity 40 = .ok (.iload_n 3, 1) := by decide +kernel
theorem dX3_addParity_41 : decode cX3_addParity 41 = .ok (.bipush 8, 2) := by decide +kernel
theorem dX3_addParity_43 : decode cX3_addParity 43 = .ok (.imul, 1) := by decide +kernel
theorem dX3_addParity_44 : decode cX3_addParity 44 = .ok (.invokevirtual 219, 3) := by decide +kernel
theorem dX3_addParity_47 : decode cX3_addParity 47 = .ok (.iload_n 2, 1) := by decide +kernel
theorem dX3_addParity_48 : decode cX3_addParity 48 = .ok (.iload_n 3, 1) := by decide +kernel
theorem dX3_addParity_49 : decode cX3_addParity 49 = .ok (.ishr, 1) := by decide +kernel
theorem dX3_addParity_50 : decode cX3_addParity 50 = .ok (.iconst 1, 1) := by decide +kernel
theorem dX3_addParity_51 : decode cX3_addParity 51 = .ok (.iand, 1) := by decide +kernel
theorem dX3_addParity_52 : decode cX3_addParity 52 = .ok (.iconst 1, 1) := by decide +kernel
theorem dX3_addParity_53 : decode cX3_addParity 53 = .ok (.if_icmp .ne 25, 3) := by decide +kernel
theorem dX3_addParity_56 : decode cX3_addParity 56 = .ok (.aload_n 0, 1) := by decide +kernel
theorem dX3_addParity_57 : decode cX3_addParity 57 = .ok (.aload_n 1, 1) := by decide +kernel
theorem dX3_addParity_58 : decode cX3_addParity 58 = .ok (.getfield 186, 3) := by decide +kernel
theorem dX3_addParity_61 : decode cX3_addParity 61 = .ok (.iload_n 3, 1) := by decide +kernel
theorem dX3_addParity_62 : decode cX3_addParity 62 = .ok (.invokevirtual 103, 3) := by decide +kernel
theorem dX3_addParity_65 : decode cX3_addParity 65 = .ok (.ifCond .eq 13, 3) := by decide +kernel
theorem dX3_addParity_68 : decode cX3_addParity 68 = .ok (.aload_n 0, 1) := by decide +kernel
theorem dX3_addParity_69 : decode cX3_addParity 69 = .ok (.getfield 9, 3) := by decide +kernel
theorem dX3_addParity_72 : decode cX3_addParity 72 = .ok (.iconst 3, 1) := by decide +kernel
theorem dX3_addParity_73 : decode cX3_addParity 73 = .ok (.dup2, 1) := by decide +kernel
theorem dX3_addParity_74 : decode cX3_addParity 74 = .ok (.iaload, 1) := by decide +kernel
theorem dX3_addParity_75 : decode cX3_addParity 75 = .ok (.iconst 1, 1) := by decide +kernel
theorem dX3_addParity_76 : decode cX3_addParity 76 = .ok (.iadd, 1) := by decide +kernel
theorem dX3_addParity_77 : decode cX3_addParity 77 = .ok (.iastore, 1) := by decide +kernel
theorem dX3_addParity_78 : decode cX3_addParity 78 = .ok (.iinc 3 1, 3) := by decide +kernel
theorem dX3_addParity_81 : decode cX3_addParity 81 = .ok (.goto (-62), 3) := by decide +kernel
theorem dX3_addParity_84 : decode cX3_addParity 84 = .ok (.aload_n 1, 1) := by decide +kernel
theorem dX3_addParity_85 : decode cX3_addParity 85 = .ok (.aload_n 0, 1) := by decide +kernel
theorem dX3_addParity_86 : decode cX3_addParity 86 = .ok (.getfield 39, 3) := by decide +kernel
theorem dX3_addParity_89 : decode cX3_addParity 89 = .ok (.aload_n 0, 1) := by decide +kernel
theorem dX3_addParity_90 : decode cX3_addParity 90 = .ok (.getfield 13, 3) := by decide +kernel
theorem dX3_addParity_93 : decode cX3_addParity 93 = .ok (.invokevirtual 288, 3) := by decide +kernel
theorem dX3_addParity_96 : decode cX3_addParity 96 = .ok (.return_, 1) := by decide +kernel
set_option maxRecDepth 20000 in
theorem ggX3_buildStripe_X2_recordsUpTo : GoodIn wsX3_buildStripe wsX2_recordsUpTo := goodIn_r _ [8, 9, 10, 11, 12, 6, 13, 14, 15, 135, 136, 137, 138, 139, 140, 141, 142, 143, 144] (by decide +kernel) (by decide +kernel)
set_option maxRecDepth 20000 in
theorem gX3_buildStripe_X2_recordsUpTo_n292 : GoodIn wsX3_buildStripe (wsX2_recordsUpTo) := ggX3_buildStripe_X2_recordsUpTo
set_option maxRecDepth 20000 in
theorem ggX3_buildStripe_X3_drainOldest : GoodIn wsX3_buildStripe wsX3_drainOldest := goodIn_r _ [20, 1, 3, 11, 6, 12, 13, 14, 15, 21, 22, 23, 19, 24, 25, 2, 26, 27, 28, 29, 30, 31, 32, 33, 34, 35, 36, 37, 38, 39, 40, 41, 42, 43, 44, 45, 46, 47, 48, 49, 50, 51, 52, 53, 54, 55, 56, 57, 58, 59, 60, 61, 62, 63, 64, 65, 66, 67, 68, 69, 70, 71, 72, 73, 74, 75, 76, 9, 77, 78, 79, 10, 80, 81, 82, 83, 84, 85, 86, 87, 88, 89, 119, 120, 121, 122, 123, 124, 125, 126, 127, 128, 135, 136, 137, 138, 139, 140, 141, 142, 143, 144, 129, 130, 131, 132, 133, 134] (by decide +kernel) (by decide +kernel)
set_option maxRecDepth 20000 in
theorem gX3_buildStripe_X3_drainOldest : GoodIn wsX3_buildStripe (wsV RX3 110 RX3 yX3_drainOldest wsX3_drainOldest) := goodIn_app (goodIn_of _ (by decide +kernel)) ggX3_buildStripe_X3_drainOldest
set_option maxRecDepth 20000 in
theorem ggX3_buildStripe_X3_othersThere : GoodIn wsX3_buildStripe wsX3_othersThere := goodIn_r _ [93, 2, 94, 95, 96, 19, 97, 25, 98, 40, 99, 100, 65, 64, 63, 101, 39, 41, 42, 43, 67, 68, 69, 119, 120, 121, 122, 123, 124, 125, 126, 127, 128, 129, 130, 131, 132, 133, 134] (by decide +kernel) (by decide +kernel)
set_option maxRecDepth 20000 in
theorem gX3_buildStripe_X3_othersThere : GoodIn wsX3_buildStripe (wsV RX3 213 RX3 yX3_othersThere wsX3_othersThere) := goodIn_app (goodIn_of _ (by decide +kernel)) ggX3_buildStripe_X3_othersThere
set_option maxRecDepth 20000 in
theorem ggX3_buildStripe_X3_putOthersXor : GoodIn wsX3_buildStripe wsX3_putOthersXor := goodIn_r _ [105, 106, 107, 108, 109, 19, 110, 111, 112, 113, 114, 25, 2, 115, 116, 117, 118, 44, 45, 46, 47, 48, 49, 50, 51, 52, 3, 53, 54, 55, 56, 40, 57, 58, 59, 43, 60, 61, 62, 63, 64, 65, 66, 67, 68, 69, 119, 120, 121, 122, 123, 124, 125, 126, 127, 128, 129, 130, 131, 132, 133, 134] (by decide +kernel) (by decide +kernel)
set_option maxRecDepth 20000 in
theorem gX3_buildStripe_X3_putOthersXor : GoodIn wsX3_buildStripe (wsV RX3 295 RX3 yX3_putOthersXor wsX3_putOthersXor) := goodIn_app (goodIn_of _ (by decide +kernel)) ggX3_buildStripe_X3_putOthersXor
set_option maxRecDepth 20000 in
theorem ggX3_buildStripe_X3_putMark : GoodIn wsX3_buildStripe wsX3_putMark := goodIn_r _ [73, 3, 1, 49, 50, 51, 19, 52, 53, 54, 55, 25, 2, 56, 40, 57, 58, 59, 43, 74, 6, 75, 76, 9, 77, 78, 79, 15, 10, 11, 12, 13, 14, 80, 35, 81, 82, 38, 83, 84, 85, 86, 87, 88, 89, 119, 120, 121, 122, 123, 124, 125, 126, 127, 128, 129, 130, 131, 132, 133, 134, 135, 136, 137, 138, 139, 140, 141, 142, 143, 144] (by decide +kernel) (by decide +kernel)
set_option maxRecDepth 20000 in
theorem gX3_buildStripe_X3_putMark : GoodIn wsX3_buildStripe (wsV RX3 150 RX3 yX3_putMark wsX3_putMark) := goodIn_app (goodIn_of _ (by decide +kernel)) ggX3_buildStripe_X3_putMark
theorem dX3_buildStripe_0 : decode cX3_buildStripe 0 = .ok (.aload_n 0, 1) := by decide +kernel
theorem dX3_buildStripe_1 : decode cX3_buildStripe 1 = .ok (.aload_n 0, 1) := by decide +kernel
theorem dX3_buildStripe_2 : decode cX3_buildStripe 2 = .ok (.getfield 54, 3) := by decide +kernel
theorem dX3_buildStripe_5 : decode cX3_buildStripe 5 = .ok (.iload_n 2, 1) := by decide +kernel
theorem dX3_buildStripe_6 : decode cX3_buildStripe 6 = .ok (.invokevirtual 292, 3) := by decide +kernel
theorem dX3_buildStripe_9 : decode cX3_buildStripe 9 = .ok (.invokevirtual 110, 3) := by decide +kernel
theorem dX3_buildStripe_12 : decode cX3_buildStripe 12 = .ok (.ifCond .ne 5, 3) := by decide +kernel
theorem dX3_buildStripe_15 : decode cX3_buildStripe 15 = .ok (.iconst 0, 1) := by decide +kernel
theorem dX3_buildStripe_16 : decode cX3_buildStripe 16 = .ok (.ireturn, 1) := by decide +kernel
theorem dX3_buildStripe_17 : decode cX3_buildStripe 17 = .ok (.aload_n 0, 1) := by decide +kernel
theorem dX3_buildStripe_18 : decode cX3_buildStripe 18 = .ok (.getfield 44, 3) := by decide +kernel
theorem dX3_buildStripe_21 : decode cX3_buildStripe 21 = .ok (.iload_n 1, 1) := by decide +kernel
theorem dX3_buildStripe_22 : decode cX3_buildStripe 22 = .ok (.aaload, 1) := by decide +kernel
theorem dX3_buildStripe_23 : decode cX3_buildStripe 23 = .ok (.astore_n 3, 1) := by decide +kernel
theorem dX3_buildStripe_24 : decode cX3_buildStripe 24 = .ok (.aload_n 0, 1) := by decide +kernel
theorem dX3_buildStripe_25 : decode cX3_buildStripe 25 = .ok (.iload_n 1, 1) := by decide +kernel
theorem dX3_buildStripe_26 : decode cX3_buildStripe 26 = .ok (.iload_n 2, 1) := by decide +kernel
theorem dX3_buildStripe_27 : decode cX3_buildStripe 27 = .ok (.invokevirtual 213, 3) := by decide +kernel
theorem dX3_buildStripe_30 : decode cX3_buildStripe 30 = .ok (.ifCond .ne 24, 3) := by decide +kernel
theorem dX3_buildStripe_33 : decode cX3_buildStripe 33 = .ok (.aload_n 3, 1) := by decide +kernel
theorem dX3_buildStripe_34 : decode cX3_buildStripe 34 = .ok (.getfield 156, 3) := by decide +kernel
theorem dX3_buildStripe_37 : decode cX3_buildStripe 37 = .ok (.iload_n 2, 1) := by decide +kernel
theorem dX3_buildStripe_38 : decode cX3_buildStripe 38 = .ok (.iconst 1, 1) := by decide +kernel
theorem dX3_buildStripe_39 : decode cX3_buildStripe 39 = .ok (.bastore, 1) := by decide +kernel
theorem dX3_buildStripe_40 : decode cX3_buildStripe 40 = .ok (.aload_n 0, 1) := by decide +kernel
theorem dX3_buildStripe_41 : decode cX3_buildStripe 41 = .ok (.getfield 9, 3) := by decide +kernel
theorem dX3_buildStripe_44 : decode cX3_buildStripe 44 = .ok (.bipush 8, 2) := by decide +kernel
theorem dX3_buildStripe_46 : decode cX3_buildStripe 46 = .ok (.dup2, 1) := by decide +kernel
theorem dX3_buildStripe_47 : decode cX3_buildStripe 47 = .ok (.iaload, 1) := by decide +kernel
theorem dX3_buildStripe_48 : decode cX3_buildStripe 48 = .ok (.iconst 1, 1) := by decide +kernel
theorem dX3_buildStripe_49 : decode cX3_buildStripe 49 = .ok (.iadd, 1) := by decide +kernel
theorem dX3_buildStripe_50 : decode cX3_buildStripe 50 = .ok (.iastore, 1) := by decide +kernel
theorem dX3_buildStripe_51 : decode cX3_buildStripe 51 = .ok (.goto 27, 3) := by decide +kernel
theorem dX3_buildStripe_54 : decode cX3_buildStripe 54 = .ok (.aload_n 0, 1) := by decide +kernel
theorem dX3_buildStripe_55 : decode cX3_buildStripe 55 = .ok (.getfield 9, 3) := by decide +kernel
theorem dX3_buildStripe_58 : decode cX3_buildStripe 58 = .ok (.iconst 3, 1) := by decide +kernel
theorem dX3_buildStripe_59 : decode cX3_buildStripe 59 = .ok (.dup2, 1) := by decide +kernel
theorem dX3_buildStripe_60 : decode cX3_buildStripe 60 = .ok (.iaload, 1) := by decide +kernel
theorem dX3_buildStripe_61 : decode cX3_buildStripe 61 = .ok (.aload_n 0, 1) := by decide +kernel
theorem dX3_buildStripe_62 : decode cX3_buildStripe 62 = .ok (.getfield 39, 3) := by decide +kernel
theorem dX3_buildStripe_65 : decode cX3_buildStripe 65 = .ok (.iadd, 1) := by decide +kernel
theorem dX3_buildStripe_66 : decode cX3_buildStripe 66 = .ok (.iastore, 1) := by decide +kernel
theorem dX3_buildStripe_67 : decode cX3_buildStripe 67 = .ok (.aload_n 0, 1) := by decide +kernel
theorem dX3_buildStripe_68 : decode cX3_buildStripe 68 = .ok (.iload_n 1, 1) := by decide +kernel
theorem dX3_buildStripe_69 : decode cX3_buildStripe 69 = .ok (.iload_n 2, 1) := by decide +kernel
theorem dX3_buildStripe_70 : decode cX3_buildStripe 70 = .ok (.invokevirtual 295, 3) := by decide +kernel
theorem dX3_buildStripe_73 : decode cX3_buildStripe 73 = .ok (.ifCond .ne 5, 3) := by decide +kernel
theorem dX3_buildStripe_76 : decode cX3_buildStripe 76 = .ok (.iconst 0, 1) := by decide +kernel
theorem dX3_buildStripe_77 : decode cX3_buildStripe 77 = .ok (.ireturn, 1) := by decide +kernel
theorem dX3_buildStripe_78 : decode cX3_buildStripe 78 = .ok (.aload_n 3, 1) := by decide +kernel
theorem dX3_buildStripe_79 : decode cX3_buildStripe 79 = .ok (.iload_n 2, 1) := by decide +kernel
theorem dX3_buildStripe_80 : decode cX3_buildStripe 80 = .ok (.iconst 1, 1) := by decide +kernel
theorem dX3_buildStripe_81 : decode cX3_buildStripe 81 = .ok (.iadd, 1) := by decide +kernel
theorem dX3_buildStripe_82 : decode cX3_buildStripe 82 = .ok (.putfield 123, 3) := by decide +kernel
theorem dX3_buildStripe_85 : decode cX3_buildStripe 85 = .ok (.aload_n 3, 1) := by decide +kernel
theorem dX3_buildStripe_86 : decode cX3_buildStripe 86 = .ok (.getfield 123, 3) := by decide +kernel
theorem dX3_buildStripe_89 : decode cX3_buildStripe 89 = .ok (.bipush 24, 2) := by decide +kernel
theorem dX3_buildStripe_91 : decode cX3_buildStripe 91 = .ok (.if_icmp .ge 5, 3) := by decide +kernel
theorem dX3_buildStripe_94 : decode cX3_buildStripe 94 = .ok (.iconst 1, 1) := by decide +kernel
theorem dX3_buildStripe_95 : decode cX3_buildStripe 95 = .ok (.ireturn, 1) := by decide +kernel
theorem dX3_buildStripe_96 : decode cX3_buildStripe 96 = .ok (.aload_n 0, 1) := by decide +kernel
theorem dX3_buildStripe_97 : decode cX3_buildStripe 97 = .ok (.iconst 0, 1) := by decide +kernel
theorem dX3_buildStripe_98 : decode cX3_buildStripe 98 = .ok (.invokevirtual 150, 3) := by decide +kernel
theorem dX3_buildStripe_101 : decode cX3_buildStripe 101 = .ok (.ifCond .ne 5, 3) := by decide +kernel
theorem dX3_buildStripe_104 : decode cX3_buildStripe 104 = .ok (.iconst 0, 1) := by decide +kernel
theorem dX3_buildStripe_105 : decode cX3_buildStripe 105 = .ok (.ireturn, 1) := by decide +kernel
theorem dX3_buildStripe_106 : decode cX3_buildStripe 106 = .ok (.aload_n 3, 1) := by decide +kernel
theorem dX3_buildStripe_107 : decode cX3_buildStripe 107 = .ok (.iconst 0, 1) := by decide +kernel
theorem dX3_buildStripe_108 : decode cX3_buildStripe 108 = .ok (.putfield 120, 3) := by decide +kernel
theorem dX3_buildStripe_111 : decode cX3_buildStripe 111 = .ok (.iconst 1, 1) := by decide +kernel
theorem dX3_buildStripe_112 : decode cX3_buildStripe 112 = .ok (.ireturn, 1) := by decide +kernel
set_option maxRecDepth 20000 in
theorem ggX3_scrubStripe_X3_countNotThere : GoodIn wsX3_scrubStripe wsX3_countNotThere := goodIn_r _ [7, 2, 8, 9, 10, 11, 12, 13, 14, 15, 16, 17, 18, 19, 20, 21, 22, 23, 73, 74, 75, 76, 77, 78, 79, 80, 81, 82, 83, 84, 85, 86, 87, 88] (by decide +kernel) (by decide +kernel)
set_option maxRecDepth 20000 in
theorem gX3_scrubStripe_X3_countNotThere : GoodIn wsX3_scrubStripe (wsV RX3 203 RX3 yX3_countNotThere wsX3_countNotThere) := goodIn_app (goodIn_of _ (by decide +kernel)) ggX3_scrubStripe_X3_countNotThere
set_option maxRecDepth 20000 in
theorem ggX3_scrubStripe_X3_xorIsZero : GoodIn wsX3_scrubStripe wsX3_xorIsZero := goodIn_r _ [27, 28, 29, 30, 31, 6, 32, 33, 34, 35, 36, 2, 8, 37, 38, 39, 40, 73, 74, 75, 76, 77, 78, 79, 80, 81, 82, 83, 84, 85, 86, 87, 88] (by decide +kernel) (by decide +kernel)
set_option maxRecDepth 20000 in
theorem gX3_scrubStripe_X3_xorIsZero : GoodIn wsX3_scrubStripe (wsV RX3 206 RX3 yX3_xorIsZero wsX3_xorIsZero) := goodIn_app (goodIn_of _ (by decide +kernel)) ggX3_scrubStripe_X3_xorIsZero
set_option maxRecDepth 20000 in
theorem ggX3_scrubStripe_X3_parityMember : GoodIn wsX3_scrubStripe wsX3_parityMember := goodIn_r _ [44, 2, 73, 74, 75, 76, 77, 78, 79, 80, 81, 82] (by decide +kernel) (by decide +kernel)
set_option maxRecDepth 20000 in
theorem gX3_scrubStripe_X3_parityMember : GoodIn wsX3_scrubStripe (wsV RX3 65 RX3 yX3_parityMember wsX3_parityMember) := goodIn_app (goodIn_of _ (by decide +kernel)) ggX3_scrubStripe_X3_parityMember
set_option maxRecDepth 20000 in
theorem ggX3_scrubStripe_X3_firstNotThere : GoodIn wsX3_scrubStripe wsX3_firstNotThere := goodIn_r _ [48, 2, 8, 9, 10, 11, 12, 13, 14, 15, 16, 17, 18, 19, 20, 21, 22, 23, 73, 74, 75, 76, 77, 78, 79, 80, 81, 82, 83, 84, 85, 86, 87, 88] (by decide +kernel) (by decide +kernel)
set_option maxRecDepth 20000 in
theorem gX3_scrubStripe_X3_firstNotThere : GoodIn wsX3_scrubStripe (wsV RX3 298 RX3 yX3_firstNotThere wsX3_firstNotThere) := goodIn_app (goodIn_of _ (by decide +kernel)) ggX3_scrubStripe_X3_firstNotThere
set_option maxRecDepth 20000 in
theorem ggX3_scrubStripe_X3_putOthersXor : GoodIn wsX3_scrubStripe wsX3_putOthersXor := goodIn_r _ [52, 28, 29, 30, 31, 6, 32, 33, 34, 35, 36, 2, 8, 37, 38, 39, 40, 53, 54, 55, 56, 57, 58, 59, 60, 61, 1, 62, 63, 64, 65, 10, 66, 67, 68, 20, 69, 70, 71, 15, 14, 13, 72, 21, 22, 23, 73, 74, 75, 76, 77, 78, 79, 80, 81, 82, 83, 84, 85, 86, 87, 88] (by decide +kernel) (by decide +kernel)
set_option maxRecDepth 20000 in
theorem gX3_scrubStripe_X3_putOthersXor : GoodIn wsX3_scrubStripe (wsV RX3 295 RX3 yX3_putOthersXor wsX3_putOthersXor) := goodIn_app (goodIn_of _ (by decide +kernel)) ggX3_scrubStripe_X3_putOthersXor
theorem dX3_scrubStripe_0 : decode cX3_scrubStripe 0 = .ok (.aload_n 0, 1) := by decide +kernel
theorem dX3_scrubStripe_1 : decode cX3_scrubStripe 1 = .ok (.getfield 9, 3) := by decide +kernel
theorem dX3_scrubStripe_4 : decode cX3_scrubStripe 4 = .ok (.iconst 3, 1) := by decide +kernel
theorem dX3_scrubStripe_5 : decode cX3_scrubStripe 5 = .ok (.dup2, 1) := by decide +kernel
theorem dX3_scrubStripe_6 : decode cX3_scrubStripe 6 = .ok (.iaload, 1) := by decide +kernel
theorem dX3_scrubStripe_7 : decode cX3_scrubStripe 7 = .ok (.aload_n 0, 1) := by decide +kernel
theorem dX3_scrubStripe_8 : decode cX3_scrubStripe 8 = .ok (.getfield 36, 3) := by decide +kernel
theorem dX3_scrubStripe_11 : decode cX3_scrubStripe 11 = .ok (.iadd, 1) := by decide +kernel
theorem dX3_scrubStripe_12 : decode cX3_scrubStripe 12 = .ok (.iastore, 1) := by decide +kernel
theorem dX3_scrubStripe_13 : decode cX3_scrubStripe 13 = .ok (.aload_n 0, 1) := by decide +kernel
theorem dX3_scrubStripe_14 : decode cX3_scrubStripe 14 = .ok (.iload_n 1, 1) := by decide +kernel
theorem dX3_scrubStripe_15 : decode cX3_scrubStripe 15 = .ok (.invokevirtual 203, 3) := by decide +kernel
theorem dX3_scrubStripe_18 : decode cX3_scrubStripe 18 = .ok (.istore_n 2, 1) := by decide +kernel
theorem dX3_scrubStripe_19 : decode cX3_scrubStripe 19 = .ok (.iload_n 2, 1) := by decide +kernel
theorem dX3_scrubStripe_20 : decode cX3_scrubStripe 20 = .ok (.iconst 1, 1) := by decide +kernel
theorem dX3_scrubStripe_21 : decode cX3_scrubStripe 21 = .ok (.if_icmp .gt 15, 3) := by decide +kernel
theorem dX3_scrubStripe_24 : decode cX3_scrubStripe 24 = .ok (.iload_n 2, 1) := by decide +kernel
theorem dX3_scrubStripe_25 : decode cX3_scrubStripe 25 = .ok (.ifCond .ne 13, 3) := by decide +kernel
theorem dX3_scrubStripe_28 : decode cX3_scrubStripe 28 = .ok (.aload_n 0, 1) := by decide +kernel
theorem dX3_scrubStripe_29 : decode cX3_scrubStripe 29 = .ok (.iload_n 1, 1) := by decide +kernel
theorem dX3_scrubStripe_30 : decode cX3_scrubStripe 30 = .ok (.invokevirtual 206, 3) := by decide +kernel
theorem dX3_scrubStripe_33 : decode cX3_scrubStripe 33 = .ok (.ifCond .eq 5, 3) := by decide +kernel
theorem dX3_scrubStripe_36 : decode cX3_scrubStripe 36 = .ok (.iconst 1, 1) := by decide +kernel
theorem dX3_scrubStripe_37 : decode cX3_scrubStripe 37 = .ok (.ireturn, 1) := by decide +kernel
theorem dX3_scrubStripe_38 : decode cX3_scrubStripe 38 = .ok (.aload_n 0, 1) := by decide +kernel
theorem dX3_scrubStripe_39 : decode cX3_scrubStripe 39 = .ok (.iload_n 2, 1) := by decide +kernel
theorem dX3_scrubStripe_40 : decode cX3_scrubStripe 40 = .ok (.ifCond .ne 11, 3) := by decide +kernel
theorem dX3_scrubStripe_43 : decode cX3_scrubStripe 43 = .ok (.aload_n 0, 1) := by decide +kernel
theorem dX3_scrubStripe_44 : decode cX3_scrubStripe 44 = .ok (.iload_n 1, 1) := by decide +kernel
theorem dX3_scrubStripe_45 : decode cX3_scrubStripe 45 = .ok (.invokevirtual 65, 3) := by decide +kernel
theorem dX3_scrubStripe_48 : decode cX3_scrubStripe 48 = .ok (.goto 8, 3) := by decide +kernel
theorem dX3_scrubStripe_51 : decode cX3_scrubStripe 51 = .ok (.aload_n 0, 1) := by decide +kernel
theorem dX3_scrubStripe_52 : decode cX3_scrubStripe 52 = .ok (.iload_n 1, 1) := by decide +kernel
theorem dX3_scrubStripe_53 : decode cX3_scrubStripe 53 = .ok (.invokevirtual 298, 3) := by decide +kernel
theorem dX3_scrubStripe_56 : decode cX3_scrubStripe 56 = .ok (.iload_n 1, 1) := by decide +kernel
theorem dX3_scrubStripe_57 : decode cX3_scrubStripe 57 = .ok (.invokevirtual 295, 3) := by decide +kernel
theorem dX3_scrubStripe_60 : decode cX3_scrubStripe 60 = .ok (.ifCond .ne 5, 3) := by decide +kernel
theorem dX3_scrubStripe_63 : decode cX3_scrubStripe 63 = .ok (.iconst 0, 1) := by decide +kernel
theorem dX3_scrubStripe_64 : decode cX3_scrubStripe 64 = .ok (.ireturn, 1) := by decide +kernel
theorem dX3_scrubStripe_65 : decode cX3_scrubStripe 65 = .ok (.aload_n 0, 1) := by decide +kernel
theorem dX3_scrubStripe_66 : decode cX3_scrubStripe 66 = .ok (.getfield 9, 3) := by decide +kernel
theorem dX3_scrubStripe_69 : decode cX3_scrubStripe 69 = .ok (.bipush 7, 2) := by decide +kernel
theorem dX3_scrubStripe_71 : decode cX3_scrubStripe 71 = .ok (.dup2, 1) := by decide +kernel
theorem dX3_scrubStripe_72 : decode cX3_scrubStripe 72 = .ok (.iaload, 1) := by decide +kernel
theorem dX3_scrubStripe_73 : decode cX3_scrubStripe 73 = .ok (.iconst 1, 1) := by decide +kernel
theorem dX3_scrubStripe_74 : decode cX3_scrubStripe 74 = .ok (.iadd, 1) := by decide +kernel
theorem dX3_scrubStripe_75 : decode cX3_scrubStripe 75 = .ok (.iastore, 1) := by decide +kernel
theorem dX3_scrubStripe_76 : decode cX3_scrubStripe 76 = .ok (.iconst 1, 1) := by decide +kernel
theorem dX3_scrubStripe_77 : decode cX3_scrubStripe 77 = .ok (.ireturn, 1) := by decide +kernel
set_option maxRecDepth 20000 in
theorem ggX3_firstNotThere_X0_isThere : GoodIn wsX3_firstNotThere wsX0_isThere := goodIn_r _ [6, 7, 8, 9, 10, 11, 12, 4, 13, 14, 15, 16, 17, 28, 29, 30, 31, 32, 33] (by decide +kernel) (by decide +kernel)
set_option maxRecDepth 20000 in
theorem gX3_firstNotThere_X0_isThere_n160 : GoodIn wsX3_firstNotThere (wsX0_isThere) := ggX3_firstNotThere_X0_isThere
theorem dX3_firstNotThere_0 : decode cX3_firstNotThere 0 = .ok (.iconst 0, 1) := by decide +kernel
theorem dX3_firstNotThere_1 : decode cX3_firstNotThere 1 = .ok (.istore_n 2, 1) := by decide +kernel
theorem dX3_firstNotThere_2 : decode cX3_firstNotThere 2 = .ok (.iload_n 2, 1) := by decide +kernel
theorem dX3_firstNotThere_3 : decode cX3_firstNotThere 3 = .ok (.aload_n 0, 1) := by decide +kernel
theorem dX3_firstNotThere_4 : decode cX3_firstNotThere 4 = .ok (.getfield 36, 3) := by decide +kernel
theorem dX3_firstNotThere_7 : decode cX3_firstNotThere 7 = .ok (.iconst 1, 1) := by decide +kernel
theorem dX3_firstNotThere_8 : decode cX3_firstNotThere 8 = .ok (.isub, 1) := by decide +kernel
theorem dX3_firstNotThere_9 : decode cX3_firstNotThere 9 = .ok (.if_icmp .ge 22, 3) := by decide +kernel
theorem dX3_firstNotThere_12 : decode cX3_firstNotThere 12 = .ok (.aload_n 0, 1) := by decide +kernel
theorem dX3_firstNotThere_13 : decode cX3_firstNotThere 13 = .ok (.getfield 44, 3) := by decide +kernel
theorem dX3_firstNotThere_16 : decode cX3_firstNotThere 16 = .ok (.iload_n 2, 1) := by decide +kernel
theorem dX3_firstNotThere_17 : decode cX3_firstNotThere 17 = .ok (.aaload, 1) := by decide +kernel
theorem dX3_firstNotThere_18 : decode cX3_firstNotThere 18 = .ok (.iload_n 1, 1) := by decide +kernel
theorem dX3_firstNotThere_19 : decode cX3_firstNotThere 19 = .ok (.invokevirtual 160, 3) := by decide +kernel
theorem dX3_firstNotThere_22 : decode cX3_firstNotThere 22 = .ok (.ifCond .eq 9, 3) := by decide +kernel
theorem dX3_firstNotThere_25 : decode cX3_firstNotThere 25 = .ok (.iinc 2 1, 3) := by decide +kernel
theorem dX3_firstNotThere_28 : decode cX3_firstNotThere 28 = .ok (.goto (-26), 3) := by decide +kernel
theorem dX3_firstNotThere_31 : decode cX3_firstNotThere 31 = .ok (.iload_n 2, 1) := by decide +kernel
theorem dX3_firstNotThere_32 : decode cX3_firstNotThere 32 = .ok (.ireturn, 1) := by decide +kernel
set_option maxRecDepth 20000 in
theorem ggX3_putOthersXor_X3_clearMixed : GoodIn wsX3_putOthersXor wsX3_clearMixed := goodIn_r _ [6, 1, 46, 47, 48, 49, 50, 51, 52, 53, 54, 55] (by decide +kernel) (by decide +kernel)
set_option maxRecDepth 20000 in
theorem gX3_putOthersXor_X3_clearMixed : GoodIn wsX3_putOthersXor (wsV RX3 96 RX3 yX3_clearMixed wsX3_clearMixed) := goodIn_app (goodIn_of _ (by decide +kernel)) ggX3_putOthersXor_X3_clearMixed
set_option maxRecDepth 20000 in
theorem ggX3_putOthersXor_X3_mixOthers : GoodIn wsX3_putOthersXor wsX3_mixOthers := goodIn_r _ [10, 11, 12, 13, 14, 15, 5, 16, 1, 46, 47, 48, 49, 50, 51, 52, 53, 54, 55, 56, 57, 58, 59, 60, 61] (by decide +kernel) (by decide +kernel)
set_option maxRecDepth 20000 in
theorem gX3_putOthersXor_X3_mixOthers : GoodIn wsX3_putOthersXor (wsV RX3 99 RX3 yX3_mixOthers wsX3_mixOthers) := goodIn_app (goodIn_of _ (by decide +kernel)) ggX3_putOthersXor_X3_mixOthers
set_option maxRecDepth 20000 in
theorem ggX3_putOthersXor_X3_putChunk : GoodIn wsX3_putOthersXor wsX3_putChunk := goodIn_r _ [20, 12, 21, 22, 23, 24, 5, 25, 26, 27, 28, 29, 11, 30, 31, 32, 33, 34, 35, 36, 37, 38, 39, 40, 41, 42, 43, 44, 45, 46, 47, 48, 49, 50, 51, 52, 53, 54, 55, 56, 57, 58, 59, 60, 61] (by decide +kernel) (by decide +kernel)
set_option maxRecDepth 20000 in
theorem gX3_putOthersXor_X3_putChunk : GoodIn wsX3_putOthersXor (wsV RX3 240 RX3 yX3_putChunk wsX3_putChunk) := goodIn_app (goodIn_of _ (by decide +kernel)) ggX3_putOthersXor_X3_putChunk
theorem dX3_putOthersXor_0 : decode cX3_putOthersXor 0 = .ok (.aload_n 0, 1) := by decide +kernel
theorem dX3_putOthersXor_1 : decode cX3_putOthersXor 1 = .ok (.invokevirtual 96, 3) := by decide +kernel
theorem dX3_putOthersXor_4 : decode cX3_putOthersXor 4 = .ok (.aload_n 0, 1) := by decide +kernel
theorem dX3_putOthersXor_5 : decode cX3_putOthersXor 5 = .ok (.iload_n 1, 1) := by decide +kernel
theorem dX3_putOthersXor_6 : decode cX3_putOthersXor 6 = .ok (.iload_n 2, 1) := by decide +kernel
theorem dX3_putOthersXor_7 : decode cX3_putOthersXor 7 = .ok (.invokevirtual 99, 3) := by decide +kernel
theorem dX3_putOthersXor_10 : decode cX3_putOthersXor 10 = .ok (.aload_n 0, 1) := by decide +kernel
theorem dX3_putOthersXor_11 : decode cX3_putOthersXor 11 = .ok (.iload_n 1, 1) := by decide +kernel
theorem dX3_putOthersXor_12 : decode cX3_putOthersXor 12 = .ok (.iload_n 2, 1) := by decide +kernel
theorem dX3_putOthersXor_13 : decode cX3_putOthersXor 13 = .ok (.aload_n 0, 1) := by decide +kernel
theorem dX3_putOthersXor_14 : decode cX3_putOthersXor 14 = .ok (.getfield 13, 3) := by decide +kernel
theorem dX3_putOthersXor_17 : decode cX3_putOthersXor 17 = .ok (.iconst 0, 1) := by decide +kernel
theorem dX3_putOthersXor_18 : decode cX3_putOthersXor 18 = .ok (.invokevirtual 240, 3) := by decide +kernel
theorem dX3_putOthersXor_21 : decode cX3_putOthersXor 21 = .ok (.ireturn, 1) := by decide +kernel
end
section
theorem dX4_thrown_0 : decode cX4_thrown 0 = .ok (.aload_n 0, 1) := by decide +kernel
theorem dX4_thrown_1 : decode cX4_thrown 1 = .ok (.getfield 1, 3) := by decide +kernel
theorem dX4_thrown_4 : decode cX4_thrown 4 = .ok (.ireturn, 1) := by decide +kernel
theorem dX4_init_0 : decode cX4_init 0 = .ok (.aload_n 0, 1) := by decide +kernel
theorem dX4_init_1 : decode cX4_init 1 = .ok (.invokespecial 7, 3) := by decide +kernel
theorem dX4_init_4 : decode cX4_init 4 = .ok (.aload_n 0, 1) := by decide +kernel
theorem dX4_init_5 : decode cX4_init 5 = .ok (.sipush 1152, 3) := by decide +kernel
theorem dX4_init_8 : decode cX4_init 8 = .ok (.newarray .int, 2) := by decide +kernel
theorem dX4_init_10 : decode cX4_init 10 = .ok (.putfield 13, 3) := by decide +kernel
theorem dX4_init_13 : decode cX4_init 13 = .ok (.aload_n 0, 1) := by decide +kernel
theorem dX4_init_14 : decode cX4_init 14 = .ok (.sipush 144, 3) := by decide +kernel
theorem dX4_init_17 : decode cX4_init 17 = .ok (.newarray .int, 2) := by decide +kernel
theorem dX4_init_19 : decode cX4_init 19 = .ok (.putfield 17, 3) := by decide +kernel
theorem dX4_init_22 : decode cX4_init 22 = .ok (.aload_n 0, 1) := by decide +kernel
theorem dX4_init_23 : decode cX4_init 23 = .ok (.sipush 144, 3) := by decide +kernel
theorem dX4_init_26 : decode cX4_init 26 = .ok (.newarray .boolean, 2) := by decide +kernel
theorem dX4_init_28 : decode cX4_init 28 = .ok (.putfield 20, 3) := by decide +kernel
theorem dX4_init_31 : decode cX4_init 31 = .ok (.aload_n 0, 1) := by decide +kernel
theorem dX4_init_32 : decode cX4_init 32 = .ok (.bipush 6, 2) := by decide +kernel
theorem dX4_init_34 : decode cX4_init 34 = .ok (.newarray .int, 2) := by decide +kernel
theorem dX4_init_36 : decode cX4_init 36 = .ok (.putfield 24, 3) := by decide +kernel
theorem dX4_init_39 : decode cX4_init 39 = .ok (.aload_n 0, 1) := by decide +kernel
theorem dX4_init_40 : decode cX4_init 40 = .ok (.bipush 6, 2) := by decide +kernel
theorem dX4_init_42 : decode cX4_init 42 = .ok (.newarray .int, 2) := by decide +kernel
theorem dX4_init_44 : decode cX4_init 44 = .ok (.putfield 27, 3) := by decide +kernel
theorem dX4_init_47 : decode cX4_init 47 = .ok (.aload_n 0, 1) := by decide +kernel
theorem dX4_init_48 : decode cX4_init 48 = .ok (.bipush 6, 2) := by decide +kernel
theorem dX4_init_50 : decode cX4_init 50 = .ok (.newarray .int, 2) := by decide +kernel
theorem dX4_init_52 : decode cX4_init 52 = .ok (.putfield 30, 3) := by decide +kernel
theorem dX4_init_55 : decode cX4_init 55 = .ok (.aload_n 0, 1) := by decide +kernel
theorem dX4_init_56 : decode cX4_init 56 = .ok (.bipush 16, 2) := by decide +kernel
theorem dX4_init_58 : decode cX4_init 58 = .ok (.newarray .int, 2) := by decide +kernel
theorem dX4_init_60 : decode cX4_init 60 = .ok (.putfield 33, 3) := by decide +kernel
theorem dX4_init_63 : decode cX4_init 63 = .ok (.aload_n 0, 1) := by decide +kernel
theorem dX4_init_64 : decode cX4_init 64 = .ok (.bipush 16, 2) := by decide +kernel
theorem dX4_init_66 : decode cX4_init 66 = .ok (.newarray .int, 2) := by decide +kernel
theorem dX4_init_68 : decode cX4_init 68 = .ok (.putfield 36, 3) := by decide +kernel
theorem dX4_init_71 : decode cX4_init 71 = .ok (.aload_n 0, 1) := by decide +kernel
theorem dX4_init_72 : decode cX4_init 72 = .ok (.bipush 16, 2) := by decide +kernel
theorem dX4_init_74 : decode cX4_init 74 = .ok (.newarray .int, 2) := by decide +kernel
theorem dX4_init_76 : decode cX4_init 76 = .ok (.putfield 39, 3) := by decide +kernel
theorem dX4_init_79 : decode cX4_init 79 = .ok (.aload_n 0, 1) := by decide +kernel
theorem dX4_init_80 : decode cX4_init 80 = .ok (.bipush 16, 2) := by decide +kernel
theorem dX4_init_82 : decode cX4_init 82 = .ok (.newarray .boolean, 2) := by decide +kernel
theorem dX4_init_84 : decode cX4_init 84 = .ok (.putfield 42, 3) := by decide +kernel
theorem dX4_init_87 : decode cX4_init 87 = .ok (.aload_n 0, 1) := by decide +kernel
theorem dX4_init_88 : decode cX4_init 88 = .ok (.bipush 16, 2) := by decide +kernel
theorem dX4_init_90 : decode cX4_init 90 = .ok (.newarray .int, 2) := by decide +kernel
theorem dX4_init_92 : decode cX4_init 92 = .ok (.putfield 45, 3) := by decide +kernel
theorem dX4_init_95 : decode cX4_init 95 = .ok (.aload_n 0, 1) := by decide +kernel
theorem dX4_init_96 : decode cX4_init 96 = .ok (.sipush 768, 3) := by decide +kernel
theorem dX4_init_99 : decode cX4_init 99 = .ok (.newarray .int, 2) := by decide +kernel
theorem dX4_init_101 : decode cX4_init 101 = .ok (.putfield 48, 3) := by decide +kernel
theorem dX4_init_104 : decode cX4_init 104 = .ok (.aload_n 0, 1) := by decide +kernel
theorem dX4_init_105 : decode cX4_init 105 = .ok (.iconst 1, 1) := by decide +kernel
theorem dX4_init_106 : decode cX4_init 106 = .ok (.putfield 51, 3) := by decide +kernel
theorem dX4_init_109 : decode cX4_init 109 = .ok (.aload_n 0, 1) := by decide +kernel
theorem dX4_init_110 : decode cX4_init 110 = .ok (.iconst 1, 1) := by decide +kernel
theorem dX4_init_111 : decode cX4_init 111 = .ok (.putfield 54, 3) := by decide +kernel
theorem dX4_init_114 : decode cX4_init 114 = .ok (.aload_n 0, 1) := by decide +kernel
theorem dX4_init_115 : decode cX4_init 115 = .ok (.iconst (-1), 1) := by decide +kernel
theorem dX4_init_116 : decode cX4_init 116 = .ok (.putfield 57, 3) := by decide +kernel
theorem dX4_init_119 : decode cX4_init 119 = .ok (.aload_n 0, 1) := by decide +kernel
theorem dX4_init_120 : decode cX4_init 120 = .ok (.bipush 13, 2) := by decide +kernel
theorem dX4_init_122 : decode cX4_init 122 = .ok (.newarray .int, 2) := by decide +kernel
theorem dX4_init_124 : decode cX4_init 124 = .ok (.putfield 60, 3) := by decide +kernel
theorem dX4_init_127 : decode cX4_init 127 = .ok (.aload_n 0, 1) := by decide +kernel
theorem dX4_init_128 : decode cX4_init 128 = .ok (.bipush 8, 2) := by decide +kernel
theorem dX4_init_130 : decode cX4_init 130 = .ok (.newarray .int, 2) := by decide +kernel
theorem dX4_init_132 : decode cX4_init 132 = .ok (.putfield 63, 3) := by decide +kernel
theorem dX4_init_135 : decode cX4_init 135 = .ok (.aload_n 0, 1) := by decide +kernel
theorem dX4_init_136 : decode cX4_init 136 = .ok (.bipush 48, 2) := by decide +kernel
theorem dX4_init_138 : decode cX4_init 138 = .ok (.newarray .int, 2) := by decide +kernel
theorem dX4_init_140 : decode cX4_init 140 = .ok (.putfield 66, 3) := by decide +kernel
theorem dX4_init_143 : decode cX4_init 143 = .ok (.aload_n 0, 1) := by decide +kernel
theorem dX4_init_144 : decode cX4_init 144 = .ok (.iconst 3, 1) := by decide +kernel
theorem dX4_init_145 : decode cX4_init 145 = .ok (.iload_n 1, 1) := by decide +kernel
theorem dX4_init_146 : decode cX4_init 146 = .ok (.iconst 4, 1) := by decide +kernel
theorem dX4_init_147 : decode cX4_init 147 = .ok (.irem, 1) := by decide +kernel
theorem dX4_init_148 : decode cX4_init 148 = .ok (.iconst 4, 1) := by decide +kernel
theorem dX4_init_149 : decode cX4_init 149 = .ok (.iadd, 1) := by decide +kernel
theorem dX4_init_150 : decode cX4_init 150 = .ok (.iconst 4, 1) := by decide +kernel
theorem dX4_init_151 : decode cX4_init 151 = .ok (.irem, 1) := by decide +kernel
theorem dX4_init_152 : decode cX4_init 152 = .ok (.iadd, 1) := by decide +kernel
theorem dX4_init_153 : decode cX4_init 153 = .ok (.putfield 69, 3) := by decide +kernel
theorem dX4_init_156 : decode cX4_init 156 = .ok (.return_, 1) := by decide +kernel
theorem dX4_in_0 : decode cX4_in 0 = .ok (.lload_n 2, 1) := by decide +kernel
theorem dX4_in_1 : decode cX4_in 1 = .ok (.lload_n 0, 1) := by decide +kernel
theorem dX4_in_2 : decode cX4_in 2 = .ok (.lcmp, 1) := by decide +kernel
theorem dX4_in_3 : decode cX4_in 3 = .ok (.ifCond .gt 14, 3) := by decide +kernel
theorem dX4_in_6 : decode cX4_in 6 = .ok (.lload_n 0, 1) := by decide +kernel
theorem dX4_in_7 : decode cX4_in 7 = .ok (.lload 4, 2) := by decide +kernel
theorem dX4_in_9 : decode cX4_in 9 = .ok (.lcmp, 1) := by decide +kernel
theorem dX4_in_10 : decode cX4_in 10 = .ok (.ifCond .gt 7, 3) := by decide +kernel
theorem dX4_in_13 : decode cX4_in 13 = .ok (.iconst 1, 1) := by decide +kernel
theorem dX4_in_14 : decode cX4_in 14 = .ok (.goto 4, 3) := by decide +kernel
theorem dX4_in_17 : decode cX4_in 17 = .ok (.iconst 0, 1) := by decide +kernel
theorem dX4_in_18 : decode cX4_in 18 = .ok (.ireturn, 1) := by decide +kernel
theorem dX4_members_0 : decode cX4_members 0 = .ok (.aload_n 0, 1) := by decide +kernel
theorem dX4_members_1 : decode cX4_members 1 = .ok (.getfield 69, 3) := by decide +kernel
theorem dX4_members_4 : decode cX4_members 4 = .ok (.ireturn, 1) := by decide +kernel
set_option maxRecDepth 20000 in
theorem ggX4_isBlock_X4_in : GoodIn wsX4_isBlock wsX4_in := goodIn_r _ [6] (by decide +kernel) (by decide +kernel)
set_option maxRecDepth 20000 in
theorem gX4_isBlock_X4_in : GoodIn wsX4_isBlock (va_wsS RX4 74 yX4_in wsX4_in) := goodIn_app (goodIn_of _ (by decide +kernel)) ggX4_isBlock_X4_in
theorem dX4_isBlock_0 : decode cX4_isBlock 0 = .ok (.lload_n 1, 1) := by decide +kernel
theorem dX4_isBlock_1 : decode cX4_isBlock 1 = .ok (.lconst 0, 1) := by decide +kernel
theorem dX4_isBlock_2 : decode cX4_isBlock 2 = .ok (.ldc2_w 72, 3) := by decide +kernel
theorem dX4_isBlock_5 : decode cX4_isBlock 5 = .ok (.aload_n 0, 1) := by decide +kernel
theorem dX4_isBlock_6 : decode cX4_isBlock 6 = .ok (.getfield 69, 3) := by decide +kernel
theorem dX4_isBlock_9 : decode cX4_isBlock 9 = .ok (.i2l, 1) := by decide +kernel
theorem dX4_isBlock_10 : decode cX4_isBlock 10 = .ok (.lconst 1, 1) := by decide +kernel
theorem dX4_isBlock_11 : decode cX4_isBlock 11 = .ok (.lsub, 1) := by decide +kernel
theorem dX4_isBlock_12 : decode cX4_isBlock 12 = .ok (.lmul, 1) := by decide +kernel
theorem dX4_isBlock_13 : decode cX4_isBlock 13 = .ok (.lconst 1, 1) := by decide +kernel
theorem dX4_isBlock_14 : decode cX4_isBlock 14 = .ok (.lsub, 1) := by decide +kernel
theorem dX4_isBlock_15 : decode cX4_isBlock 15 = .ok (.invokestatic 74, 3) := by decide +kernel
theorem dX4_isBlock_18 : decode cX4_isBlock 18 = .ok (.ireturn, 1) := by decide +kernel
theorem dX4_parityOf_0 : decode cX4_parityOf 0 = .ok (.aload_n 0, 1) := by decide +kernel
theorem dX4_parityOf_1 : decode cX4_parityOf 1 = .ok (.getfield 69, 3) := by decide +kernel
theorem dX4_parityOf_4 : decode cX4_parityOf 4 = .ok (.iconst 1, 1) := by decide +kernel
theorem dX4_parityOf_5 : decode cX4_parityOf 5 = .ok (.isub, 1) := by decide +kernel
theorem dX4_parityOf_6 : decode cX4_parityOf 6 = .ok (.iload_n 1, 1) := by decide +kernel
theorem dX4_parityOf_7 : decode cX4_parityOf 7 = .ok (.aload_n 0, 1) := by decide +kernel
theorem dX4_parityOf_8 : decode cX4_parityOf 8 = .ok (.getfield 69, 3) := by decide +kernel
theorem dX4_parityOf_11 : decode cX4_parityOf 11 = .ok (.irem, 1) := by decide +kernel
theorem dX4_parityOf_12 : decode cX4_parityOf 12 = .ok (.isub, 1) := by decide +kernel
theorem dX4_parityOf_13 : decode cX4_parityOf 13 = .ok (.ireturn, 1) := by decide +kernel
set_option maxRecDepth 20000 in
theorem ggX4_memberOf_X4_parityOf : GoodIn wsX4_memberOf wsX4_parityOf := goodIn_r _ [6, 1, 7, 8, 9, 10, 11, 12, 13, 14, 15, 16, 17, 18, 19, 20, 21, 22, 23, 24, 25, 26, 27, 28, 29, 30, 31] (by decide +kernel) (by decide +kernel)
set_option maxRecDepth 20000 in
theorem gX4_memberOf_X4_parityOf : GoodIn wsX4_memberOf (wsV RX4 78 RX4 yX4_parityOf wsX4_parityOf) := goodIn_app (goodIn_of _ (by decide +kernel)) ggX4_memberOf_X4_parityOf
theorem dX4_memberOf_0 : decode cX4_memberOf 0 = .ok (.aload_n 0, 1) := by decide +kernel
theorem dX4_memberOf_1 : decode cX4_memberOf 1 = .ok (.iload_n 1, 1) := by decide +kernel
theorem dX4_memberOf_2 : decode cX4_memberOf 2 = .ok (.invokevirtual 78, 3) := by decide +kernel
theorem dX4_memberOf_5 : decode cX4_memberOf 5 = .ok (.iconst 1, 1) := by decide +kernel
theorem dX4_memberOf_6 : decode cX4_memberOf 6 = .ok (.iadd, 1) := by decide +kernel
theorem dX4_memberOf_7 : decode cX4_memberOf 7 = .ok (.iload_n 2, 1) := by decide +kernel
theorem dX4_memberOf_8 : decode cX4_memberOf 8 = .ok (.iadd, 1) := by decide +kernel
theorem dX4_memberOf_9 : decode cX4_memberOf 9 = .ok (.aload_n 0, 1) := by decide +kernel
theorem dX4_memberOf_10 : decode cX4_memberOf 10 = .ok (.getfield 69, 3) := by decide +kernel
theorem dX4_memberOf_13 : decode cX4_memberOf 13 = .ok (.irem, 1) := by decide +kernel
theorem dX4_memberOf_14 : decode cX4_memberOf 14 = .ok (.ireturn, 1) := by decide +kernel
theorem dX4_at_0 : decode cX4_at 0 = .ok (.bipush 24, 2) := by decide +kernel
theorem dX4_at_2 : decode cX4_at 2 = .ok (.iload_n 1, 1) := by decide +kernel
theorem dX4_at_3 : decode cX4_at 3 = .ok (.imul, 1) := by decide +kernel
theorem dX4_at_4 : decode cX4_at 4 = .ok (.iload_n 2, 1) := by decide +kernel
theorem dX4_at_5 : decode cX4_at 5 = .ok (.iadd, 1) := by decide +kernel
theorem dX4_at_6 : decode cX4_at 6 = .ok (.ireturn, 1) := by decide +kernel
theorem dX4_isOn_0 : decode cX4_isOn 0 = .ok (.aload_n 0, 1) := by decide +kernel
theorem dX4_isOn_1 : decode cX4_isOn 1 = .ok (.getfield 24, 3) := by decide +kernel
theorem dX4_isOn_4 : decode cX4_isOn 4 = .ok (.iload_n 1, 1) := by decide +kernel
theorem dX4_isOn_5 : decode cX4_isOn 5 = .ok (.iaload, 1) := by decide +kernel
theorem dX4_isOn_6 : decode cX4_isOn 6 = .ok (.ifCond .eq 23, 3) := by decide +kernel
theorem dX4_isOn_9 : decode cX4_isOn 9 = .ok (.aload_n 0, 1) := by decide +kernel
theorem dX4_isOn_10 : decode cX4_isOn 10 = .ok (.getfield 24, 3) := by decide +kernel
theorem dX4_isOn_13 : decode cX4_isOn 13 = .ok (.iload_n 1, 1) := by decide +kernel
theorem dX4_isOn_14 : decode cX4_isOn 14 = .ok (.iaload, 1) := by decide +kernel
theorem dX4_isOn_15 : decode cX4_isOn 15 = .ok (.iconst 2, 1) := by decide +kernel
theorem dX4_isOn_16 : decode cX4_isOn 16 = .ok (.if_icmp .ne 17, 3) := by decide +kernel
theorem dX4_isOn_19 : decode cX4_isOn 19 = .ok (.iload_n 2, 1) := by decide +kernel
theorem dX4_isOn_20 : decode cX4_isOn 20 = .ok (.aload_n 0, 1) := by decide +kernel
theorem dX4_isOn_21 : decode cX4_isOn 21 = .ok (.getfield 27, 3) := by decide +kernel
theorem dX4_isOn_24 : decode cX4_isOn 24 = .ok (.iload_n 1, 1) := by decide +kernel
theorem dX4_isOn_25 : decode cX4_isOn 25 = .ok (.iaload, 1) := by decide +kernel
theorem dX4_isOn_26 : decode cX4_isOn 26 = .ok (.if_icmp .ge 7, 3) := by decide +kernel
theorem dX4_isOn_29 : decode cX4_isOn 29 = .ok (.iconst 1, 1) := by decide +kernel
theorem dX4_isOn_30 : decode cX4_isOn 30 = .ok (.goto 4, 3) := by decide +kernel
theorem dX4_isOn_33 : decode cX4_isOn 33 = .ok (.iconst 0, 1) := by decide +kernel
theorem dX4_isOn_34 : decode cX4_isOn 34 = .ok (.ireturn, 1) := by decide +kernel
theorem dX4_sumOf_0 : decode cX4_sumOf 0 = .ok (.iconst 0, 1) := by decide +kernel
theorem dX4_sumOf_1 : decode cX4_sumOf 1 = .ok (.istore_n 2, 1) := by decide +kernel
theorem dX4_sumOf_2 : decode cX4_sumOf 2 = .ok (.iconst 0, 1) := by decide +kernel
theorem dX4_sumOf_3 : decode cX4_sumOf 3 = .ok (.istore_n 3, 1) := by decide +kernel
theorem dX4_sumOf_4 : decode cX4_sumOf 4 = .ok (.iload_n 3, 1) := by decide +kernel
theorem dX4_sumOf_5 : decode cX4_sumOf 5 = .ok (.bipush 8, 2) := by decide +kernel
theorem dX4_sumOf_7 : decode cX4_sumOf 7 = .ok (.if_icmp .ge 29, 3) := by decide +kernel
theorem dX4_sumOf_10 : decode cX4_sumOf 10 = .ok (.iload_n 2, 1) := by decide +kernel
theorem dX4_sumOf_11 : decode cX4_sumOf 11 = .ok (.aload_n 0, 1) := by decide +kernel
theorem dX4_sumOf_12 : decode cX4_sumOf 12 = .ok (.getfield 13, 3) := by decide +kernel
theorem dX4_sumOf_15 : decode cX4_sumOf 15 = .ok (.bipush 8, 2) := by decide +kernel
theorem dX4_sumOf_17 : decode cX4_sumOf 17 = .ok (.iload_n 1, 1) := by decide +kernel
theorem dX4_sumOf_18 : decode cX4_sumOf 18 = .ok (.imul, 1) := by decide +kernel
theorem dX4_sumOf_19 : decode cX4_sumOf 19 = .ok (.iload_n 3, 1) := by decide +kernel
theorem dX4_sumOf_20 : decode cX4_sumOf 20 = .ok (.iadd, 1) := by decide +kernel
theorem dX4_sumOf_21 : decode cX4_sumOf 21 = .ok (.iaload, 1) := by decide +kernel
theorem dX4_sumOf_22 : decode cX4_sumOf 22 = .ok (.iconst 2, 1) := by decide +kernel
theorem dX4_sumOf_23 : decode cX4_sumOf 23 = .ok (.iload_n 3, 1) := by decide +kernel
theorem dX4_sumOf_24 : decode cX4_sumOf 24 = .ok (.imul, 1) := by decide +kernel
theorem dX4_sumOf_25 : decode cX4_sumOf 25 = .ok (.iconst 1, 1) := by decide +kernel
theorem dX4_sumOf_26 : decode cX4_sumOf 26 = .ok (.iadd, 1) := by decide +kernel
theorem dX4_sumOf_27 : decode cX4_sumOf 27 = .ok (.imul, 1) := by decide +kernel
theorem dX4_sumOf_28 : decode cX4_sumOf 28 = .ok (.iadd, 1) := by decide +kernel
theorem dX4_sumOf_29 : decode cX4_sumOf 29 = .ok (.istore_n 2, 1) := by decide +kernel
theorem dX4_sumOf_30 : decode cX4_sumOf 30 = .ok (.iinc 3 1, 3) := by decide +kernel
theorem dX4_sumOf_33 : decode cX4_sumOf 33 = .ok (.goto (-29), 3) := by decide +kernel
theorem dX4_sumOf_36 : decode cX4_sumOf 36 = .ok (.iload_n 2, 1) := by decide +kernel
theorem dX4_sumOf_37 : decode cX4_sumOf 37 = .ok (.ireturn, 1) := by decide +kernel
set_option maxRecDepth 20000 in
theorem ggX4_isThere_X4_at : GoodIn wsX4_isThere wsX4_at := goodIn_r _ [7] (by decide +kernel) (by decide +kernel)
set_option maxRecDepth 20000 in
theorem gX4_isThere_X4_at : GoodIn wsX4_isThere (wsV RX4 82 RX4 yX4_at wsX4_at) := goodIn_app (goodIn_of _ (by decide +kernel)) ggX4_isThere_X4_at
set_option maxRecDepth 20000 in
theorem ggX4_isThere_X4_isOn : GoodIn wsX4_isThere wsX4_isOn := goodIn_r _ [11, 12, 13, 19, 20, 21, 22, 23, 24, 25, 26, 27, 28, 29, 30, 31, 32, 33, 34, 35, 36, 37, 38, 39, 40, 41, 42, 43] (by decide +kernel) (by decide +kernel)
set_option maxRecDepth 20000 in
theorem gX4_isThere_X4_isOn : GoodIn wsX4_isThere (wsV RX4 86 RX4 yX4_isOn wsX4_isOn) := goodIn_app (goodIn_of _ (by decide +kernel)) ggX4_isThere_X4_isOn
set_option maxRecDepth 20000 in
theorem ggX4_isThere_X4_sumOf : GoodIn wsX4_isThere wsX4_sumOf := goodIn_r _ [17, 18, 19, 20, 21, 22, 23, 24, 25, 26, 27, 28, 29, 30, 31, 32, 33, 34, 35, 36, 37, 38, 39, 40, 41, 42, 43] (by decide +kernel) (by decide +kernel)
set_option maxRecDepth 20000 in
theorem gX4_isThere_X4_sumOf : GoodIn wsX4_isThere (wsV RX4 90 RX4 yX4_sumOf wsX4_sumOf) := goodIn_app (goodIn_of _ (by decide +kernel)) ggX4_isThere_X4_sumOf
theorem dX4_isThere_0 : decode cX4_isThere 0 = .ok (.aload_n 0, 1) := by decide +kernel
theorem dX4_isThere_1 : decode cX4_isThere 1 = .ok (.iload_n 1, 1) := by decide +kernel
theorem dX4_isThere_2 : decode cX4_isThere 2 = .ok (.iload_n 2, 1) := by decide +kernel
theorem dX4_isThere_3 : decode cX4_isThere 3 = .ok (.invokevirtual 82, 3) := by decide +kernel
theorem dX4_isThere_6 : decode cX4_isThere 6 = .ok (.istore_n 3, 1) := by decide +kernel
theorem dX4_isThere_7 : decode cX4_isThere 7 = .ok (.aload_n 0, 1) := by decide +kernel
theorem dX4_isThere_8 : decode cX4_isThere 8 = .ok (.iload_n 1, 1) := by decide +kernel
theorem dX4_isThere_9 : decode cX4_isThere 9 = .ok (.iload_n 2, 1) := by decide +kernel
theorem dX4_isThere_10 : decode cX4_isThere 10 = .ok (.invokevirtual 86, 3) := by decide +kernel
theorem dX4_isThere_13 : decode cX4_isThere 13 = .ok (.ifCond .eq 30, 3) := by decide +kernel
theorem dX4_isThere_16 : decode cX4_isThere 16 = .ok (.aload_n 0, 1) := by decide +kernel
theorem dX4_isThere_17 : decode cX4_isThere 17 = .ok (.getfield 20, 3) := by decide +kernel
theorem dX4_isThere_20 : decode cX4_isThere 20 = .ok (.iload_n 3, 1) := by decide +kernel
theorem dX4_isThere_21 : decode cX4_isThere 21 = .ok (.baload, 1) := by decide +kernel
theorem dX4_isThere_22 : decode cX4_isThere 22 = .ok (.ifCond .ne 21, 3) := by decide +kernel
theorem dX4_isThere_25 : decode cX4_isThere 25 = .ok (.aload_n 0, 1) := by decide +kernel
theorem dX4_isThere_26 : decode cX4_isThere 26 = .ok (.getfield 17, 3) := by decide +kernel
theorem dX4_isThere_29 : decode cX4_isThere 29 = .ok (.iload_n 3, 1) := by decide +kernel
theorem dX4_isThere_30 : decode cX4_isThere 30 = .ok (.iaload, 1) := by decide +kernel
theorem dX4_isThere_31 : decode cX4_isThere 31 = .ok (.aload_n 0, 1) := by decide +kernel
theorem dX4_isThere_32 : decode cX4_isThere 32 = .ok (.iload_n 3, 1) := by decide +kernel
theorem dX4_isThere_33 : decode cX4_isThere 33 = .ok (.invokevirtual 90, 3) := by decide +kernel
theorem dX4_isThere_36 : decode cX4_isThere 36 = .ok (.if_icmp .ne 7, 3) := by decide +kernel
theorem dX4_isThere_39 : decode cX4_isThere 39 = .ok (.iconst 1, 1) := by decide +kernel
theorem dX4_isThere_40 : decode cX4_isThere 40 = .ok (.goto 4, 3) := by decide +kernel
theorem dX4_isThere_43 : decode cX4_isThere 43 = .ok (.iconst 0, 1) := by decide +kernel
theorem dX4_isThere_44 : decode cX4_isThere 44 = .ok (.ireturn, 1) := by decide +kernel
set_option maxRecDepth 20000 in
theorem ggX4_othersThere_X4_isThere : GoodIn wsX4_othersThere wsX4_isThere := goodIn_r _ [6, 7, 8, 9, 10, 11, 5, 12, 13, 14, 15, 16, 17, 18, 19, 20, 21, 22, 23, 24, 25, 26, 27, 28, 29, 30, 31, 32, 33, 34, 35, 36, 37, 38, 39, 40, 41, 42, 43, 44, 45, 46, 47, 48] (by decide +kernel) (by decide +kernel)
set_option maxRecDepth 20000 in
theorem gX4_othersThere_X4_isThere : GoodIn wsX4_othersThere (wsV RX4 93 RX4 yX4_isThere wsX4_isThere) := goodIn_app (goodIn_of _ (by decide +kernel)) ggX4_othersThere_X4_isThere
theorem dX4_othersThere_0 : decode cX4_othersThere 0 = .ok (.iconst 1, 1) := by decide +kernel
theorem dX4_othersThere_1 : decode cX4_othersThere 1 = .ok (.istore_n 3, 1) := by decide +kernel
theorem dX4_othersThere_2 : decode cX4_othersThere 2 = .ok (.iconst 0, 1) := by decide +kernel
theorem dX4_othersThere_3 : decode cX4_othersThere 3 = .ok (.istore 4, 2) := by decide +kernel
theorem dX4_othersThere_5 : decode cX4_othersThere 5 = .ok (.iload 4, 2) := by decide +kernel
theorem dX4_othersThere_7 : decode cX4_othersThere 7 = .ok (.aload_n 0, 1) := by decide +kernel
theorem dX4_othersThere_8 : decode cX4_othersThere 8 = .ok (.getfield 69, 3) := by decide +kernel
theorem dX4_othersThere_11 : decode cX4_othersThere 11 = .ok (.if_icmp .ge 35, 3) := by decide +kernel
theorem dX4_othersThere_14 : decode cX4_othersThere 14 = .ok (.iload_n 3, 1) := by decide +kernel
theorem dX4_othersThere_15 : decode cX4_othersThere 15 = .ok (.ifCond .eq 23, 3) := by decide +kernel
theorem dX4_othersThere_18 : decode cX4_othersThere 18 = .ok (.iload 4, 2) := by decide +kernel
theorem dX4_othersThere_20 : decode cX4_othersThere 20 = .ok (.iload_n 1, 1) := by decide +kernel
theorem dX4_othersThere_21 : decode cX4_othersThere 21 = .ok (.if_icmp .eq 13, 3) := by decide +kernel
theorem dX4_othersThere_24 : decode cX4_othersThere 24 = .ok (.aload_n 0, 1) := by decide +kernel
theorem dX4_othersThere_25 : decode cX4_othersThere 25 = .ok (.iload 4, 2) := by decide +kernel
theorem dX4_othersThere_27 : decode cX4_othersThere 27 = .ok (.iload_n 2, 1) := by decide +kernel
theorem dX4_othersThere_28 : decode cX4_othersThere 28 = .ok (.invokevirtual 93, 3) := by decide +kernel
theorem dX4_othersThere_31 : decode cX4_othersThere 31 = .ok (.ifCond .eq 7, 3) := by decide +kernel
theorem dX4_othersThere_34 : decode cX4_othersThere 34 = .ok (.iconst 1, 1) := by decide +kernel
theorem dX4_othersThere_35 : decode cX4_othersThere 35 = .ok (.goto 4, 3) := by decide +kernel
theorem dX4_othersThere_38 : decode cX4_othersThere 38 = .ok (.iconst 0, 1) := by decide +kernel
theorem dX4_othersThere_39 : decode cX4_othersThere 39 = .ok (.istore_n 3, 1) := by decide +kernel
theorem dX4_othersThere_40 : decode cX4_othersThere 40 = .ok (.iinc 4 1, 3) := by decide +kernel
theorem dX4_othersThere_43 : decode cX4_othersThere 43 = .ok (.goto (-38), 3) := by decide +kernel
theorem dX4_othersThere_46 : decode cX4_othersThere 46 = .ok (.iload_n 3, 1) := by decide +kernel
theorem dX4_othersThere_47 : decode cX4_othersThere 47 = .ok (.ireturn, 1) := by decide +kernel
set_option maxRecDepth 20000 in
theorem ggX4_place_X4_isBlock : GoodIn wsX4_place wsX4_isBlock := goodIn_r _ [6, 7, 1, 8, 9, 5, 10, 19, 20, 21, 22, 23, 24, 25, 26, 27, 28, 29, 30, 31, 32, 33, 34, 35, 36, 37, 38, 39, 40, 41, 42, 43] (by decide +kernel) (by decide +kernel)
set_option maxRecDepth 20000 in
theorem gX4_place_X4_isBlock : GoodIn wsX4_place (wsV RX4 96 RX4 yX4_isBlock wsX4_isBlock) := goodIn_app (goodIn_of _ (by decide +kernel)) ggX4_place_X4_isBlock
set_option maxRecDepth 20000 in
theorem ggX4_place_X4_memberOf : GoodIn wsX4_place wsX4_memberOf := goodIn_r _ [14, 1, 15, 16, 17, 5, 18, 19, 20, 21, 22, 23, 24, 25, 26, 27, 28, 29, 30, 31, 32, 33, 34, 35, 36, 37, 38, 39, 40, 41, 42, 43] (by decide +kernel) (by decide +kernel)
set_option maxRecDepth 20000 in
theorem gX4_place_X4_memberOf : GoodIn wsX4_place (wsV RX4 100 RX4 yX4_memberOf wsX4_memberOf) := goodIn_app (goodIn_of _ (by decide +kernel)) ggX4_place_X4_memberOf
set_option maxRecDepth 20000 in
theorem ggX4_place_X4_parityOf : GoodIn wsX4_place wsX4_parityOf := goodIn_r _ [18, 1, 19, 20, 21, 22, 23, 24, 25, 26, 27, 28, 29, 30, 31, 32, 33, 34, 35, 36, 37, 38, 39, 40, 41, 42, 43] (by decide +kernel) (by decide +kernel)
set_option maxRecDepth 20000 in
theorem gX4_place_X4_parityOf : GoodIn wsX4_place (wsV RX4 78 RX4 yX4_parityOf wsX4_parityOf) := goodIn_app (goodIn_of _ (by decide +kernel)) ggX4_place_X4_parityOf
theorem dX4_place_0 : decode cX4_place 0 = .ok (.aload_n 0, 1) := by decide +kernel
theorem dX4_place_1 : decode cX4_place 1 = .ok (.iload_n 1, 1) := by decide +kernel
theorem dX4_place_2 : decode cX4_place 2 = .ok (.i2l, 1) := by decide +kernel
theorem dX4_place_3 : decode cX4_place 3 = .ok (.invokevirtual 96, 3) := by decide +kernel
theorem dX4_place_6 : decode cX4_place 6 = .ok (.ifCond .ne 6, 3) := by decide +kernel
theorem dX4_place_9 : decode cX4_place 9 = .ok (.bipush (-101), 2) := by decide +kernel
theorem dX4_place_11 : decode cX4_place 11 = .ok (.ireturn, 1) := by decide +kernel
theorem dX4_place_12 : decode cX4_place 12 = .ok (.iload_n 1, 1) := by decide +kernel
theorem dX4_place_13 : decode cX4_place 13 = .ok (.aload_n 0, 1) := by decide +kernel
theorem dX4_place_14 : decode cX4_place 14 = .ok (.getfield 69, 3) := by decide +kernel
theorem dX4_place_17 : decode cX4_place 17 = .ok (.iconst 1, 1) := by decide +kernel
theorem dX4_place_18 : decode cX4_place 18 = .ok (.isub, 1) := by decide +kernel
theorem dX4_place_19 : decode cX4_place 19 = .ok (.idiv, 1) := by decide +kernel
theorem dX4_place_20 : decode cX4_place 20 = .ok (.istore_n 3, 1) := by decide +kernel
theorem dX4_place_21 : decode cX4_place 21 = .ok (.iload_n 2, 1) := by decide +kernel
theorem dX4_place_22 : decode cX4_place 22 = .ok (.ifCond .ne 7, 3) := by decide +kernel
theorem dX4_place_25 : decode cX4_place 25 = .ok (.iload_n 3, 1) := by decide +kernel
theorem dX4_place_26 : decode cX4_place 26 = .ok (.goto 39, 3) := by decide +kernel
theorem dX4_place_29 : decode cX4_place 29 = .ok (.iload_n 2, 1) := by decide +kernel
theorem dX4_place_30 : decode cX4_place 30 = .ok (.iconst 1, 1) := by decide +kernel
theorem dX4_place_31 : decode cX4_place 31 = .ok (.if_icmp .ne 19, 3) := by decide +kernel
theorem dX4_place_34 : decode cX4_place 34 = .ok (.aload_n 0, 1) := by decide +kernel
theorem dX4_place_35 : decode cX4_place 35 = .ok (.iload_n 3, 1) := by decide +kernel
theorem dX4_place_36 : decode cX4_place 36 = .ok (.iload_n 1, 1) := by decide +kernel
theorem dX4_place_37 : decode cX4_place 37 = .ok (.aload_n 0, 1) := by decide +kernel
theorem dX4_place_38 : decode cX4_place 38 = .ok (.getfield 69, 3) := by decide +kernel
theorem dX4_place_41 : decode cX4_place 41 = .ok (.iconst 1, 1) := by decide +kernel
theorem dX4_place_42 : decode cX4_place 42 = .ok (.isub, 1) := by decide +kernel
theorem dX4_place_43 : decode cX4_place 43 = .ok (.irem, 1) := by decide +kernel
theorem dX4_place_44 : decode cX4_place 44 = .ok (.invokevirtual 100, 3) := by decide +kernel
theorem dX4_place_47 : decode cX4_place 47 = .ok (.goto 18, 3) := by decide +kernel
theorem dX4_place_50 : decode cX4_place 50 = .ok (.iload_n 2, 1) := by decide +kernel
theorem dX4_place_51 : decode cX4_place 51 = .ok (.iconst 2, 1) := by decide +kernel
theorem dX4_place_52 : decode cX4_place 52 = .ok (.if_icmp .ne 11, 3) := by decide +kernel
theorem dX4_place_55 : decode cX4_place 55 = .ok (.aload_n 0, 1) := by decide +kernel
theorem dX4_place_56 : decode cX4_place 56 = .ok (.iload_n 3, 1) := by decide +kernel
theorem dX4_place_57 : decode cX4_place 57 = .ok (.invokevirtual 78, 3) := by decide +kernel
theorem dX4_place_60 : decode cX4_place 60 = .ok (.goto 5, 3) := by decide +kernel
theorem dX4_place_63 : decode cX4_place 63 = .ok (.bipush (-102), 2) := by decide +kernel
theorem dX4_place_65 : decode cX4_place 65 = .ok (.ireturn, 1) := by decide +kernel
theorem dX4_goes_0 : decode cX4_goes 0 = .ok (.aload_n 0, 1) := by decide +kernel
theorem dX4_goes_1 : decode cX4_goes 1 = .ok (.getfield 60, 3) := by decide +kernel
theorem dX4_goes_4 : decode cX4_goes 4 = .ok (.iconst 0, 1) := by decide +kernel
theorem dX4_goes_5 : decode cX4_goes 5 = .ok (.dup2, 1) := by decide +kernel
theorem dX4_goes_6 : decode cX4_goes 6 = .ok (.iaload, 1) := by decide +kernel
theorem dX4_goes_7 : decode cX4_goes 7 = .ok (.iconst 1, 1) := by decide +kernel
theorem dX4_goes_8 : decode cX4_goes 8 = .ok (.iadd, 1) := by decide +kernel
theorem dX4_goes_9 : decode cX4_goes 9 = .ok (.iastore, 1) := by decide +kernel
theorem dX4_goes_10 : decode cX4_goes 10 = .ok (.aload_n 0, 1) := by decide +kernel
theorem dX4_goes_11 : decode cX4_goes 11 = .ok (.getfield 57, 3) := by decide +kernel
theorem dX4_goes_14 : decode cX4_goes 14 = .ok (.ifCond .ne 7, 3) := by decide +kernel
theorem dX4_goes_17 : decode cX4_goes 17 = .ok (.iconst 1, 1) := by decide +kernel
theorem dX4_goes_18 : decode cX4_goes 18 = .ok (.goto 4, 3) := by decide +kernel
theorem dX4_goes_21 : decode cX4_goes 21 = .ok (.iconst 0, 1) := by decide +kernel
theorem dX4_goes_22 : decode cX4_goes 22 = .ok (.istore_n 1, 1) := by decide +kernel
theorem dX4_goes_23 : decode cX4_goes 23 = .ok (.aload_n 0, 1) := by decide +kernel
theorem dX4_goes_24 : decode cX4_goes 24 = .ok (.aload_n 0, 1) := by decide +kernel
theorem dX4_goes_25 : decode cX4_goes 25 = .ok (.getfield 57, 3) := by decide +kernel
theorem dX4_goes_28 : decode cX4_goes 28 = .ok (.iconst (-1), 1) := by decide +kernel
theorem dX4_goes_29 : decode cX4_goes 29 = .ok (.if_icmp .le 12, 3) := by decide +kernel
theorem dX4_goes_32 : decode cX4_goes 32 = .ok (.aload_n 0, 1) := by decide +kernel
theorem dX4_goes_33 : decode cX4_goes 33 = .ok (.getfield 57, 3) := by decide +kernel
theorem dX4_goes_36 : decode cX4_goes 36 = .ok (.iconst 1, 1) := by decide +kernel
theorem dX4_goes_37 : decode cX4_goes 37 = .ok (.isub, 1) := by decide +kernel
theorem dX4_goes_38 : decode cX4_goes 38 = .ok (.goto 4, 3) := by decide +kernel
theorem dX4_goes_41 : decode cX4_goes 41 = .ok (.iconst (-1), 1) := by decide +kernel
theorem dX4_goes_42 : decode cX4_goes 42 = .ok (.putfield 57, 3) := by decide +kernel
theorem dX4_goes_45 : decode cX4_goes 45 = .ok (.iload_n 1, 1) := by decide +kernel
theorem dX4_goes_46 : decode cX4_goes 46 = .ok (.ifCond .eq 41, 3) := by decide +kernel
theorem dX4_goes_49 : decode cX4_goes 49 = .ok (.aload_n 0, 1) := by decide +kernel
theorem dX4_goes_50 : decode cX4_goes 50 = .ok (.iconst 1, 1) := by decide +kernel
theorem dX4_goes_51 : decode cX4_goes 51 = .ok (.putfield 103, 3) := by decide +kernel
theorem dX4_goes_54 : decode cX4_goes 54 = .ok (.aload_n 0, 1) := by decide +kernel
theorem dX4_goes_55 : decode cX4_goes 55 = .ok (.iconst (-1), 1) := by decide +kernel
theorem dX4_goes_56 : decode cX4_goes 56 = .ok (.putfield 57, 3) := by decide +kernel
theorem dX4_goes_59 : decode cX4_goes 59 = .ok (.aload_n 0, 1) := by decide +kernel
theorem dX4_goes_60 : decode cX4_goes 60 = .ok (.iconst 0, 1) := by decide +kernel
theorem dX4_goes_61 : decode cX4_goes 61 = .ok (.putfield 107, 3) := by decide +kernel
theorem dX4_goes_64 : decode cX4_goes 64 = .ok (.iconst 0, 1) := by decide +kernel
theorem dX4_goes_65 : decode cX4_goes 65 = .ok (.istore_n 2, 1) := by decide +kernel
theorem dX4_goes_66 : decode cX4_goes 66 = .ok (.iload_n 2, 1) := by decide +kernel
theorem dX4_goes_67 : decode cX4_goes 67 = .ok (.aload_n 0, 1) := by decide +kernel
theorem dX4_goes_68 : decode cX4_goes 68 = .ok (.getfield 69, 3) := by decide +kernel
theorem dX4_goes_71 : decode cX4_goes 71 = .ok (.if_icmp .ge 16, 3) := by decide +kernel
theorem dX4_goes_74 : decode cX4_goes 74 = .ok (.aload_n 0, 1) := by decide +kernel
theorem dX4_goes_75 : decode cX4_goes 75 = .ok (.getfield 27, 3) := by decide +kernel
theorem dX4_goes_78 : decode cX4_goes 78 = .ok (.iload_n 2, 1) := by decide +kernel
theorem dX4_goes_79 : decode cX4_goes 79 = .ok (.iconst 0, 1) := by decide +kernel
theorem dX4_goes_80 : decode cX4_goes 80 = .ok (.iastore, 1) := by decide +kernel
theorem dX4_goes_81 : decode cX4_goes 81 = .ok (.iinc 2 1, 3) := by decide +kernel
theorem dX4_goes_84 : decode cX4_goes 84 = .ok (.goto (-18), 3) := by decide +kernel
theorem dX4_goes_87 : decode cX4_goes 87 = .ok (.iload_n 1, 1) := by decide +kernel
theorem dX4_goes_88 : decode cX4_goes 88 = .ok (.ireturn, 1) := by decide +kernel
set_option maxRecDepth 20000 in
theorem ggX4_chunkIs_X4_at : GoodIn wsX4_chunkIs wsX4_at := goodIn_r _ [11] (by decide +kernel) (by decide +kernel)
set_option maxRecDepth 20000 in
theorem gX4_chunkIs_X4_at : GoodIn wsX4_chunkIs (wsV RX4 82 RX4 yX4_at wsX4_at) := goodIn_app (goodIn_of _ (by decide +kernel)) ggX4_chunkIs_X4_at
set_option maxRecDepth 20000 in
theorem ggX4_chunkIs_X4_goes : GoodIn wsX4_chunkIs wsX4_goes := goodIn_r _ [15, 16, 17, 18, 19, 20, 21, 26, 27, 28, 29, 30, 31, 32, 33, 34, 35, 36, 37, 38, 39, 40, 41, 42, 43, 44, 45, 46, 47, 48, 49, 50] (by decide +kernel) (by decide +kernel)
set_option maxRecDepth 20000 in
theorem gX4_chunkIs_X4_goes : GoodIn wsX4_chunkIs (wsV RX4 110 RX4 yX4_goes wsX4_goes) := goodIn_app (goodIn_of _ (by decide +kernel)) ggX4_chunkIs_X4_goes
set_option maxRecDepth 20000 in
theorem ggX4_chunkIs_X4_sumOf : GoodIn wsX4_chunkIs wsX4_sumOf := goodIn_r _ [25, 3, 26, 27, 28, 29, 30, 31, 32, 33, 34, 35, 36, 37, 38, 39, 40, 41, 42, 43, 44, 45, 46, 47, 48, 49, 50] (by decide +kernel) (by decide +kernel)
set_option maxRecDepth 20000 in
theorem gX4_chunkIs_X4_sumOf : GoodIn wsX4_chunkIs (wsV RX4 90 RX4 yX4_sumOf wsX4_sumOf) := goodIn_app (goodIn_of _ (by decide +kernel)) ggX4_chunkIs_X4_sumOf
theorem dX4_chunkIs_0 : decode cX4_chunkIs 0 = .ok (.aload_n 0, 1) := by decide +kernel
theorem dX4_chunkIs_1 : decode cX4_chunkIs 1 = .ok (.iload_n 1, 1) := by decide +kernel
theorem dX4_chunkIs_2 : decode cX4_chunkIs 2 = .ok (.iload_n 2, 1) := by decide +kernel
theorem dX4_chunkIs_3 : decode cX4_chunkIs 3 = .ok (.invokevirtual 82, 3) := by decide +kernel
theorem dX4_chunkIs_6 : decode cX4_chunkIs 6 = .ok (.istore_n 3, 1) := by decide +kernel
theorem dX4_chunkIs_7 : decode cX4_chunkIs 7 = .ok (.aload_n 0, 1) := by decide +kernel
theorem dX4_chunkIs_8 : decode cX4_chunkIs 8 = .ok (.getfield 30, 3) := by decide +kernel
theorem dX4_chunkIs_11 : decode cX4_chunkIs 11 = .ok (.iload_n 1, 1) := by decide +kernel
theorem dX4_chunkIs_12 : decode cX4_chunkIs 12 = .ok (.dup2, 1) := by decide +kernel
theorem dX4_chunkIs_13 : decode cX4_chunkIs 13 = .ok (.iaload, 1) := by decide +kernel
theorem dX4_chunkIs_14 : decode cX4_chunkIs 14 = .ok (.iconst 1, 1) := by decide +kernel
theorem dX4_chunkIs_15 : decode cX4_chunkIs 15 = .ok (.iadd, 1) := by decide +kernel
theorem dX4_chunkIs_16 : decode cX4_chunkIs 16 = .ok (.iastore, 1) := by decide +kernel
theorem dX4_chunkIs_17 : decode cX4_chunkIs 17 = .ok (.aload_n 0, 1) := by decide +kernel
theorem dX4_chunkIs_18 : decode cX4_chunkIs 18 = .ok (.invokevirtual 110, 3) := by decide +kernel
theorem dX4_chunkIs_21 : decode cX4_chunkIs 21 = .ok (.istore 4, 2) := by decide +kernel
theorem dX4_chunkIs_23 : decode cX4_chunkIs 23 = .ok (.iload 4, 2) := by decide +kernel
theorem dX4_chunkIs_25 : decode cX4_chunkIs 25 = .ok (.ifCond .eq 10, 3) := by decide +kernel
theorem dX4_chunkIs_28 : decode cX4_chunkIs 28 = .ok (.aload_n 0, 1) := by decide +kernel
theorem dX4_chunkIs_29 : decode cX4_chunkIs 29 = .ok (.getfield 114, 3) := by decide +kernel
theorem dX4_chunkIs_32 : decode cX4_chunkIs 32 = .ok (.goto 5, 3) := by decide +kernel
theorem dX4_chunkIs_35 : decode cX4_chunkIs 35 = .ok (.bipush 8, 2) := by decide +kernel
theorem dX4_chunkIs_37 : decode cX4_chunkIs 37 = .ok (.istore 5, 2) := by decide +kernel
theorem dX4_chunkIs_39 : decode cX4_chunkIs 39 = .ok (.iconst 0, 1) := by decide +kernel
theorem dX4_chunkIs_40 : decode cX4_chunkIs 40 = .ok (.istore 6, 2) := by decide +kernel
theorem dX4_chunkIs_42 : decode cX4_chunkIs 42 = .ok (.iload 6, 2) := by decide +kernel
theorem dX4_chunkIs_44 : decode cX4_chunkIs 44 = .ok (.iload 5, 2) := by decide +kernel
theorem dX4_chunkIs_46 : decode cX4_chunkIs 46 = .ok (.if_icmp .ge 28, 3) := by decide +kernel
theorem dX4_chunkIs_49 : decode cX4_chunkIs 49 = .ok (.aload_n 0, 1) := by decide +kernel
theorem dX4_chunkIs_50 : decode cX4_chunkIs 50 = .ok (.getfield 13, 3) := by decide +kernel
theorem dX4_chunkIs_53 : decode cX4_chunkIs 53 = .ok (.bipush 8, 2) := by decide +kernel
theorem dX4_chunkIs_55 : decode cX4_chunkIs 55 = .ok (.iload_n 3, 1) := by decide +kernel
theorem dX4_chunkIs_56 : decode cX4_chunkIs 56 = .ok (.imul, 1) := by decide +kernel
theorem dX4_chunkIs_57 : decode cX4_chunkIs 57 = .ok (.iload 6, 2) := by decide +kernel
theorem dX4_chunkIs_59 : decode cX4_chunkIs 59 = .ok (.iadd, 1) := by decide +kernel
theorem dX4_chunkIs_60 : decode cX4_chunkIs 60 = .ok (.aload_n 0, 1) := by decide +kernel
theorem dX4_chunkIs_61 : decode cX4_chunkIs 61 = .ok (.getfield 63, 3) := by decide +kernel
theorem dX4_chunkIs_64 : decode cX4_chunkIs 64 = .ok (.iload 6, 2) := by decide +kernel
theorem dX4_chunkIs_66 : decode cX4_chunkIs 66 = .ok (.iaload, 1) := by decide +kernel
theorem dX4_chunkIs_67 : decode cX4_chunkIs 67 = .ok (.iastore, 1) := by decide +kernel
theorem dX4_chunkIs_68 : decode cX4_chunkIs 68 = .ok (.iinc 6 1, 3) := by decide +kernel
theorem dX4_chunkIs_71 : decode cX4_chunkIs 71 = .ok (.goto (-29), 3) := by decide +kernel
theorem dX4_chunkIs_74 : decode cX4_chunkIs 74 = .ok (.aload_n 0, 1) := by decide +kernel
theorem dX4_chunkIs_75 : decode cX4_chunkIs 75 = .ok (.getfield 20, 3) := by decide +kernel
theorem dX4_chunkIs_78 : decode cX4_chunkIs 78 = .ok (.iload_n 3, 1) := by decide +kernel
theorem dX4_chunkIs_79 : decode cX4_chunkIs 79 = .ok (.iload 4, 2) := by decide +kernel
theorem dX4_chunkIs_81 : decode cX4_chunkIs 81 = .ok (.bastore, 1) := by decide +kernel
theorem dX4_chunkIs_82 : decode cX4_chunkIs 82 = .ok (.iload 4, 2) := by decide +kernel
theorem dX4_chunkIs_84 : decode cX4_chunkIs 84 = .ok (.ifCond .ne 14, 3) := by decide +kernel
theorem dX4_chunkIs_87 : decode cX4_chunkIs 87 = .ok (.aload_n 0, 1) := by decide +kernel
theorem dX4_chunkIs_88 : decode cX4_chunkIs 88 = .ok (.getfield 17, 3) := by decide +kernel
theorem dX4_chunkIs_91 : decode cX4_chunkIs 91 = .ok (.iload_n 3, 1) := by decide +kernel
theorem dX4_chunkIs_92 : decode cX4_chunkIs 92 = .ok (.aload_n 0, 1) := by decide +kernel
theorem dX4_chunkIs_93 : decode cX4_chunkIs 93 = .ok (.iload_n 3, 1) := by decide +kernel
theorem dX4_chunkIs_94 : decode cX4_chunkIs 94 = .ok (.invokevirtual 90, 3) := by decide +kernel
theorem dX4_chunkIs_97 : decode cX4_chunkIs 97 = .ok (.iastore, 1) := by decide +kernel
theorem dX4_chunkIs_98 : decode cX4_chunkIs 98 = .ok (.iload 4, 2) := by decide +kernel
theorem dX4_chunkIs_100 : decode cX4_chunkIs 100 = .ok (.ifCond .ne 7, 3) := by decide +kernel
theorem dX4_chunkIs_103 : decode cX4_chunkIs 103 = .ok (.iconst 1, 1) := by decide +kernel
theorem dX4_chunkIs_104 : decode cX4_chunkIs 104 = .ok (.goto 4, 3) := by decide +kernel
theorem dX4_chunkIs_107 : decode cX4_chunkIs 107 = .ok (.iconst 0, 1) := by decide +kernel
theorem dX4_chunkIs_108 : decode cX4_chunkIs 108 = .ok (.ireturn, 1) := by decide +kernel
set_option maxRecDepth 20000 in
theorem ggX4_markIs_X4_goes : GoodIn wsX4_markIs wsX4_goes := goodIn_r _ [8, 1, 9, 10, 11, 12, 13, 14, 15, 16, 17, 18, 19, 20, 21, 22, 23, 24, 25, 26, 27, 28, 29, 30, 31, 32, 33, 34, 35, 36, 37, 38] (by decide +kernel) (by decide +kernel)
set_option maxRecDepth 20000 in
theorem gX4_markIs_X4_goes : GoodIn wsX4_markIs (wsV RX4 110 RX4 yX4_goes wsX4_goes) := goodIn_app (goodIn_of _ (by decide +kernel)) ggX4_markIs_X4_goes
theorem dX4_markIs_0 : decode cX4_markIs 0 = .ok (.aload_n 0, 1) := by decide +kernel
theorem dX4_markIs_1 : decode cX4_markIs 1 = .ok (.getfield 60, 3) := by decide +kernel
theorem dX4_markIs_4 : decode cX4_markIs 4 = .ok (.iconst 2, 1) := by decide +kernel
theorem dX4_markIs_5 : decode cX4_markIs 5 = .ok (.dup2, 1) := by decide +kernel
theorem dX4_markIs_6 : decode cX4_markIs 6 = .ok (.iaload, 1) := by decide +kernel
theorem dX4_markIs_7 : decode cX4_markIs 7 = .ok (.iconst 1, 1) := by decide +kernel
theorem dX4_markIs_8 : decode cX4_markIs 8 = .ok (.iadd, 1) := by decide +kernel
theorem dX4_markIs_9 : decode cX4_markIs 9 = .ok (.iastore, 1) := by decide +kernel
theorem dX4_markIs_10 : decode cX4_markIs 10 = .ok (.aload_n 0, 1) := by decide +kernel
theorem dX4_markIs_11 : decode cX4_markIs 11 = .ok (.invokevirtual 110, 3) := by decide +kernel
theorem dX4_markIs_14 : decode cX4_markIs 14 = .ok (.ifCond .eq 5, 3) := by decide +kernel
theorem dX4_markIs_17 : decode cX4_markIs 17 = .ok (.iconst 0, 1) := by decide +kernel
theorem dX4_markIs_18 : decode cX4_markIs 18 = .ok (.ireturn, 1) := by decide +kernel
theorem dX4_markIs_19 : decode cX4_markIs 19 = .ok (.aload_n 0, 1) := by decide +kernel
theorem dX4_markIs_20 : decode cX4_markIs 20 = .ok (.iload_n 1, 1) := by decide +kernel
theorem dX4_markIs_21 : decode cX4_markIs 21 = .ok (.putfield 117, 3) := by decide +kernel
theorem dX4_markIs_24 : decode cX4_markIs 24 = .ok (.aload_n 0, 1) := by decide +kernel
theorem dX4_markIs_25 : decode cX4_markIs 25 = .ok (.iload_n 2, 1) := by decide +kernel
theorem dX4_markIs_26 : decode cX4_markIs 26 = .ok (.putfield 51, 3) := by decide +kernel
theorem dX4_markIs_29 : decode cX4_markIs 29 = .ok (.iconst 1, 1) := by decide +kernel
theorem dX4_markIs_30 : decode cX4_markIs 30 = .ok (.ireturn, 1) := by decide +kernel
theorem dX4_cellsOf_0 : decode cX4_cellsOf 0 = .ok (.aload_n 0, 1) := by decide +kernel
theorem dX4_cellsOf_1 : decode cX4_cellsOf 1 = .ok (.getfield 42, 3) := by decide +kernel
theorem dX4_cellsOf_4 : decode cX4_cellsOf 4 = .ok (.iload_n 1, 1) := by decide +kernel
theorem dX4_cellsOf_5 : decode cX4_cellsOf 5 = .ok (.baload, 1) := by decide +kernel
theorem dX4_cellsOf_6 : decode cX4_cellsOf 6 = .ok (.ifCond .eq 7, 3) := by decide +kernel
theorem dX4_cellsOf_9 : decode cX4_cellsOf 9 = .ok (.iconst 3, 1) := by decide +kernel
theorem dX4_cellsOf_10 : decode cX4_cellsOf 10 = .ok (.goto 4, 3) := by decide +kernel
theorem dX4_cellsOf_13 : decode cX4_cellsOf 13 = .ok (.iconst 2, 1) := by decide +kernel
theorem dX4_cellsOf_14 : decode cX4_cellsOf 14 = .ok (.istore_n 2, 1) := by decide +kernel
theorem dX4_cellsOf_15 : decode cX4_cellsOf 15 = .ok (.iconst 0, 1) := by decide +kernel
theorem dX4_cellsOf_16 : decode cX4_cellsOf 16 = .ok (.istore_n 3, 1) := by decide +kernel
theorem dX4_cellsOf_17 : decode cX4_cellsOf 17 = .ok (.iload_n 3, 1) := by decide +kernel
theorem dX4_cellsOf_18 : decode cX4_cellsOf 18 = .ok (.aload_n 0, 1) := by decide +kernel
theorem dX4_cellsOf_19 : decode cX4_cellsOf 19 = .ok (.getfield 69, 3) := by decide +kernel
theorem dX4_cellsOf_22 : decode cX4_cellsOf 22 = .ok (.iconst 1, 1) := by decide +kernel
theorem dX4_cellsOf_23 : decode cX4_cellsOf 23 = .ok (.isub, 1) := by decide +kernel
theorem dX4_cellsOf_24 : decode cX4_cellsOf 24 = .ok (.if_icmp .ge 22, 3) := by decide +kernel
theorem dX4_cellsOf_27 : decode cX4_cellsOf 27 = .ok (.iload_n 2, 1) := by decide +kernel
theorem dX4_cellsOf_28 : decode cX4_cellsOf 28 = .ok (.aload_n 0, 1) := by decide +kernel
theorem dX4_cellsOf_29 : decode cX4_cellsOf 29 = .ok (.getfield 39, 3) := by decide +kernel
theorem dX4_cellsOf_32 : decode cX4_cellsOf 32 = .ok (.iload_n 1, 1) := by decide +kernel
theorem dX4_cellsOf_33 : decode cX4_cellsOf 33 = .ok (.iaload, 1) := by decide +kernel
theorem dX4_cellsOf_34 : decode cX4_cellsOf 34 = .ok (.iload_n 3, 1) := by decide +kernel
theorem dX4_cellsOf_35 : decode cX4_cellsOf 35 = .ok (.ishr, 1) := by decide +kernel
theorem dX4_cellsOf_36 : decode cX4_cellsOf 36 = .ok (.iconst 1, 1) := by decide +kernel
theorem dX4_cellsOf_37 : decode cX4_cellsOf 37 = .ok (.iand, 1) := by decide +kernel
theorem dX4_cellsOf_38 : decode cX4_cellsOf 38 = .ok (.iadd, 1) := by decide +kernel
theorem dX4_cellsOf_39 : decode cX4_cellsOf 39 = .ok (.istore_n 2, 1) := by decide +kernel
theorem dX4_cellsOf_40 : decode cX4_cellsOf 40 = .ok (.iinc 3 1, 3) := by decide +kernel
theorem dX4_cellsOf_43 : decode cX4_cellsOf 43 = .ok (.goto (-26), 3) := by decide +kernel
theorem dX4_cellsOf_46 : decode cX4_cellsOf 46 = .ok (.iload_n 2, 1) := by decide +kernel
theorem dX4_cellsOf_47 : decode cX4_cellsOf 47 = .ok (.ireturn, 1) := by decide +kernel
set_option maxRecDepth 20000 in
theorem ggX4_free_X4_cellsOf : GoodIn wsX4_free wsX4_cellsOf := goodIn_r _ [6, 7, 8, 9, 10, 11, 12, 13, 14, 15, 16, 17, 18, 19, 20, 21, 22, 23, 24, 25, 26, 27, 28, 29, 30, 31, 32, 33, 34] (by decide +kernel) (by decide +kernel)
set_option maxRecDepth 20000 in
theorem gX4_free_X4_cellsOf : GoodIn wsX4_free (wsV RX4 123 RX4 yX4_cellsOf wsX4_cellsOf) := goodIn_app (goodIn_of _ (by decide +kernel)) ggX4_free_X4_cellsOf
theorem dX4_free_0 : decode cX4_free 0 = .ok (.bipush 32, 2) := by decide +kernel
theorem dX4_free_2 : decode cX4_free 2 = .ok (.istore_n 1, 1) := by decide +kernel
theorem dX4_free_3 : decode cX4_free 3 = .ok (.iconst 0, 1) := by decide +kernel
theorem dX4_free_4 : decode cX4_free 4 = .ok (.istore_n 2, 1) := by decide +kernel
theorem dX4_free_5 : decode cX4_free 5 = .ok (.iload_n 2, 1) := by decide +kernel
theorem dX4_free_6 : decode cX4_free 6 = .ok (.aload_n 0, 1) := by decide +kernel
theorem dX4_free_7 : decode cX4_free 7 = .ok (.getfield 120, 3) := by decide +kernel
theorem dX4_free_10 : decode cX4_free 10 = .ok (.if_icmp .ge 17, 3) := by decide +kernel
theorem dX4_free_13 : decode cX4_free 13 = .ok (.iload_n 1, 1) := by decide +kernel
theorem dX4_free_14 : decode cX4_free 14 = .ok (.aload_n 0, 1) := by decide +kernel
theorem dX4_free_15 : decode cX4_free 15 = .ok (.iload_n 2, 1) := by decide +kernel
theorem dX4_free_16 : decode cX4_free 16 = .ok (.invokevirtual 123, 3) := by decide +kernel
theorem dX4_free_19 : decode cX4_free 19 = .ok (.isub, 1) := by decide +kernel
theorem dX4_free_20 : decode cX4_free 20 = .ok (.istore_n 1, 1) := by decide +kernel
theorem dX4_free_21 : decode cX4_free 21 = .ok (.iinc 2 1, 3) := by decide +kernel
theorem dX4_free_24 : decode cX4_free 24 = .ok (.goto (-19), 3) := by decide +kernel
theorem dX4_free_27 : decode cX4_free 27 = .ok (.iload_n 1, 1) := by decide +kernel
theorem dX4_free_28 : decode cX4_free 28 = .ok (.ireturn, 1) := by decide +kernel
theorem dX4_freshFrom_0 : decode cX4_freshFrom 0 = .ok (.iconst 0, 1) := by decide +kernel
theorem dX4_freshFrom_1 : decode cX4_freshFrom 1 = .ok (.istore_n 3, 1) := by decide +kernel
theorem dX4_freshFrom_2 : decode cX4_freshFrom 2 = .ok (.iload_n 3, 1) := by decide +kernel
theorem dX4_freshFrom_3 : decode cX4_freshFrom 3 = .ok (.bipush 8, 2) := by decide +kernel
theorem dX4_freshFrom_5 : decode cX4_freshFrom 5 = .ok (.if_icmp .ge 31, 3) := by decide +kernel
theorem dX4_freshFrom_8 : decode cX4_freshFrom 8 = .ok (.aload_n 0, 1) := by decide +kernel
theorem dX4_freshFrom_9 : decode cX4_freshFrom 9 = .ok (.getfield 63, 3) := by decide +kernel
theorem dX4_freshFrom_12 : decode cX4_freshFrom 12 = .ok (.iload_n 3, 1) := by decide +kernel
theorem dX4_freshFrom_13 : decode cX4_freshFrom 13 = .ok (.aload_n 0, 1) := by decide +kernel
theorem dX4_freshFrom_14 : decode cX4_freshFrom 14 = .ok (.getfield 48, 3) := by decide +kernel
theorem dX4_freshFrom_17 : decode cX4_freshFrom 17 = .ok (.bipush 8, 2) := by decide +kernel
theorem dX4_freshFrom_19 : decode cX4_freshFrom 19 = .ok (.bipush 6, 2) := by decide +kernel
theorem dX4_freshFrom_21 : decode cX4_freshFrom 21 = .ok (.iload_n 1, 1) := by decide +kernel
theorem dX4_freshFrom_22 : decode cX4_freshFrom 22 = .ok (.imul, 1) := by decide +kernel
theorem dX4_freshFrom_23 : decode cX4_freshFrom 23 = .ok (.iload_n 2, 1) := by decide +kernel
theorem dX4_freshFrom_24 : decode cX4_freshFrom 24 = .ok (.iadd, 1) := by decide +kernel
theorem dX4_freshFrom_25 : decode cX4_freshFrom 25 = .ok (.imul, 1) := by decide +kernel
theorem dX4_freshFrom_26 : decode cX4_freshFrom 26 = .ok (.iload_n 3, 1) := by decide +kernel
theorem dX4_freshFrom_27 : decode cX4_freshFrom 27 = .ok (.iadd, 1) := by decide +kernel
theorem dX4_freshFrom_28 : decode cX4_freshFrom 28 = .ok (.iaload, 1) := by decide +kernel
theorem dX4_freshFrom_29 : decode cX4_freshFrom 29 = .ok (.iastore, 1) := by decide +kernel
theorem dX4_freshFrom_30 : decode cX4_freshFrom 30 = .ok (.iinc 3 1, 3) := by decide +kernel
theorem dX4_freshFrom_33 : decode cX4_freshFrom 33 = .ok (.goto (-31), 3) := by decide +kernel
theorem dX4_freshFrom_36 : decode cX4_freshFrom 36 = .ok (.return_, 1) := by decide +kernel
set_option maxRecDepth 20000 in
theorem ggX4_done_X4_memberOf : GoodIn wsX4_done wsX4_memberOf := goodIn_r _ [9, 2, 10, 11, 12, 8, 13, 51, 52, 53, 54, 55, 56, 57, 58, 59, 60, 61, 62, 63, 64, 65, 66, 67, 68, 69, 70, 71, 72, 73, 74, 75] (by decide +kernel) (by decide +kernel)
set_option maxRecDepth 20000 in
theorem gX4_done_X4_memberOf : GoodIn wsX4_done (wsV RX4 100 RX4 yX4_memberOf wsX4_memberOf) := goodIn_app (goodIn_of _ (by decide +kernel)) ggX4_done_X4_memberOf
set_option maxRecDepth 20000 in
theorem ggX4_done_X4_isOn : GoodIn wsX4_done wsX4_isOn := goodIn_r _ [17, 18, 19, 51, 52, 53, 54, 55, 56, 57, 58, 59, 60, 61, 62, 63, 64, 65, 66, 67, 68, 69, 70, 71, 72, 73, 74, 75] (by decide +kernel) (by decide +kernel)
set_option maxRecDepth 20000 in
theorem gX4_done_X4_isOn : GoodIn wsX4_done (wsV RX4 86 RX4 yX4_isOn wsX4_isOn) := goodIn_app (goodIn_of _ (by decide +kernel)) ggX4_done_X4_isOn
set_option maxRecDepth 20000 in
theorem ggX4_done_X4_freshFrom : GoodIn wsX4_done wsX4_freshFrom := goodIn_r _ [23, 24, 25, 51, 52, 53, 54, 55, 56, 57, 58, 59, 60, 61, 62, 63, 64, 65, 66, 67, 68, 69, 70, 71, 72, 73, 74, 75] (by decide +kernel) (by decide +kernel)
set_option maxRecDepth 20000 in
theorem gX4_done_X4_freshFrom : GoodIn wsX4_done (wsV RX4 126 RX4 yX4_freshFrom wsX4_freshFrom) := goodIn_app (goodIn_of _ (by decide +kernel)) ggX4_done_X4_freshFrom
set_option maxRecDepth 20000 in
theorem ggX4_done_X4_chunkIs : GoodIn wsX4_done wsX4_chunkIs := goodIn_r _ [29, 30, 31, 32, 24, 33, 34, 35, 36, 37, 8, 38, 39, 40, 41, 42, 43, 44, 45, 46, 2, 19, 47, 48, 49, 50, 51, 52, 53, 54, 55, 56, 57, 58, 59, 60, 61, 62, 63, 64, 65, 66, 67, 68, 69, 70, 71, 72, 73, 74, 75] (by decide +kernel) (by decide +kernel)
set_option maxRecDepth 20000 in
theorem gX4_done_X4_chunkIs : GoodIn wsX4_done (wsV RX4 130 RX4 yX4_chunkIs wsX4_chunkIs) := goodIn_app (goodIn_of _ (by decide +kernel)) ggX4_done_X4_chunkIs
set_option maxRecDepth 20000 in
theorem ggX4_done_X4_parityOf : GoodIn wsX4_done wsX4_parityOf := goodIn_r _ [13, 2, 51, 52, 53, 54, 55, 56, 57, 58, 59, 60, 61, 62, 63, 64, 65, 66, 67, 68, 69, 70, 71, 72, 73, 74, 75] (by decide +kernel) (by decide +kernel)
set_option maxRecDepth 20000 in
theorem gX4_done_X4_parityOf : GoodIn wsX4_done (wsV RX4 78 RX4 yX4_parityOf wsX4_parityOf) := goodIn_app (goodIn_of _ (by decide +kernel)) ggX4_done_X4_parityOf
theorem dX4_done_0 : decode cX4_done 0 = .ok (.aload_n 0, 1) := by decide +kernel
theorem dX4_done_1 : decode cX4_done 1 = .ok (.getfield 33, 3) := by decide +kernel
theorem dX4_done_4 : decode cX4_done 4 = .ok (.iload_n 1, 1) := by decide +kernel
theorem dX4_done_5 : decode cX4_done 5 = .ok (.iaload, 1) := by decide +kernel
theorem dX4_done_6 : decode cX4_done 6 = .ok (.istore_n 2, 1) := by decide +kernel
theorem dX4_done_7 : decode cX4_done 7 = .ok (.iconst 0, 1) := by decide +kernel
theorem dX4_done_8 : decode cX4_done 8 = .ok (.istore_n 3, 1) := by decide +kernel
theorem dX4_done_9 : decode cX4_done 9 = .ok (.iload_n 3, 1) := by decide +kernel
theorem dX4_done_10 : decode cX4_done 10 = .ok (.aload_n 0, 1) := by decide +kernel
theorem dX4_done_11 : decode cX4_done 11 = .ok (.getfield 69, 3) := by decide +kernel
theorem dX4_done_14 : decode cX4_done 14 = .ok (.iconst 1, 1) := by decide +kernel
theorem dX4_done_15 : decode cX4_done 15 = .ok (.isub, 1) := by decide +kernel
theorem dX4_done_16 : decode cX4_done 16 = .ok (.if_icmp .ge 59, 3) := by decide +kernel
theorem dX4_done_19 : decode cX4_done 19 = .ok (.aload_n 0, 1) := by decide +kernel
theorem dX4_done_20 : decode cX4_done 20 = .ok (.iload_n 2, 1) := by decide +kernel
theorem dX4_done_21 : decode cX4_done 21 = .ok (.iload_n 3, 1) := by decide +kernel
theorem dX4_done_22 : decode cX4_done 22 = .ok (.invokevirtual 100, 3) := by decide +kernel
theorem dX4_done_25 : decode cX4_done 25 = .ok (.istore 4, 2) := by decide +kernel
theorem dX4_done_27 : decode cX4_done 27 = .ok (.aload_n 0, 1) := by decide +kernel
theorem dX4_done_28 : decode cX4_done 28 = .ok (.getfield 39, 3) := by decide +kernel
theorem dX4_done_31 : decode cX4_done 31 = .ok (.iload_n 1, 1) := by decide +kernel
theorem dX4_done_32 : decode cX4_done 32 = .ok (.iaload, 1) := by decide +kernel
theorem dX4_done_33 : decode cX4_done 33 = .ok (.iload_n 3, 1) := by decide +kernel
theorem dX4_done_34 : decode cX4_done 34 = .ok (.ishr, 1) := by decide +kernel
theorem dX4_done_35 : decode cX4_done 35 = .ok (.iconst 1, 1) := by decide +kernel
theorem dX4_done_36 : decode cX4_done 36 = .ok (.iand, 1) := by decide +kernel
theorem dX4_done_37 : decode cX4_done 37 = .ok (.iconst 1, 1) := by decide +kernel
theorem dX4_done_38 : decode cX4_done 38 = .ok (.if_icmp .ne 31, 3) := by decide +kernel
theorem dX4_done_41 : decode cX4_done 41 = .ok (.aload_n 0, 1) := by decide +kernel
theorem dX4_done_42 : decode cX4_done 42 = .ok (.iload 4, 2) := by decide +kernel
theorem dX4_done_44 : decode cX4_done 44 = .ok (.iload_n 2, 1) := by decide +kernel
theorem dX4_done_45 : decode cX4_done 45 = .ok (.invokevirtual 86, 3) := by decide +kernel
theorem dX4_done_48 : decode cX4_done 48 = .ok (.ifCond .eq 21, 3) := by decide +kernel
theorem dX4_done_51 : decode cX4_done 51 = .ok (.aload_n 0, 1) := by decide +kernel
theorem dX4_done_52 : decode cX4_done 52 = .ok (.iload_n 1, 1) := by decide +kernel
theorem dX4_done_53 : decode cX4_done 53 = .ok (.iload_n 3, 1) := by decide +kernel
theorem dX4_done_54 : decode cX4_done 54 = .ok (.invokevirtual 126, 3) := by decide +kernel
theorem dX4_done_57 : decode cX4_done 57 = .ok (.aload_n 0, 1) := by decide +kernel
theorem dX4_done_58 : decode cX4_done 58 = .ok (.iload 4, 2) := by decide +kernel
theorem dX4_done_60 : decode cX4_done 60 = .ok (.iload_n 2, 1) := by decide +kernel
theorem dX4_done_61 : decode cX4_done 61 = .ok (.invokevirtual 130, 3) := by decide +kernel
theorem dX4_done_64 : decode cX4_done 64 = .ok (.ifCond .ne 5, 3) := by decide +kernel
theorem dX4_done_67 : decode cX4_done 67 = .ok (.iconst 0, 1) := by decide +kernel
theorem dX4_done_68 : decode cX4_done 68 = .ok (.ireturn, 1) := by decide +kernel
theorem dX4_done_69 : decode cX4_done 69 = .ok (.iinc 3 1, 3) := by decide +kernel
theorem dX4_done_72 : decode cX4_done 72 = .ok (.goto (-63), 3) := by decide +kernel
theorem dX4_done_75 : decode cX4_done 75 = .ok (.aload_n 0, 1) := by decide +kernel
theorem dX4_done_76 : decode cX4_done 76 = .ok (.getfield 42, 3) := by decide +kernel
theorem dX4_done_79 : decode cX4_done 79 = .ok (.iload_n 1, 1) := by decide +kernel
theorem dX4_done_80 : decode cX4_done 80 = .ok (.baload, 1) := by decide +kernel
theorem dX4_done_81 : decode cX4_done 81 = .ok (.ifCond .eq 33, 3) := by decide +kernel
theorem dX4_done_84 : decode cX4_done 84 = .ok (.aload_n 0, 1) := by decide +kernel
theorem dX4_done_85 : decode cX4_done 85 = .ok (.aload_n 0, 1) := by decide +kernel
theorem dX4_done_86 : decode cX4_done 86 = .ok (.iload_n 2, 1) := by decide +kernel
theorem dX4_done_87 : decode cX4_done 87 = .ok (.invokevirtual 78, 3) := by decide +kernel
theorem dX4_done_90 : decode cX4_done 90 = .ok (.iload_n 2, 1) := by decide +kernel
theorem dX4_done_91 : decode cX4_done 91 = .ok (.invokevirtual 86, 3) := by decide +kernel
theorem dX4_done_94 : decode cX4_done 94 = .ok (.ifCond .eq 20, 3) := by decide +kernel
theorem dX4_done_97 : decode cX4_done 97 = .ok (.aload_n 0, 1) := by decide +kernel
theorem dX4_done_98 : decode cX4_done 98 = .ok (.iload_n 1, 1) := by decide +kernel
theorem dX4_done_99 : decode cX4_done 99 = .ok (.iconst 5, 1) := by decide +kernel
theorem dX4_done_100 : decode cX4_done 100 = .ok (.invokevirtual 126, 3) := by decide +kernel
theorem dX4_done_103 : decode cX4_done 103 = .ok (.aload_n 0, 1) := by decide +kernel
theorem dX4_done_104 : decode cX4_done 104 = .ok (.aload_n 0, 1) := by decide +kernel
theorem dX4_done_105 : decode cX4_done 105 = .ok (.iload_n 2, 1) := by decide +kernel
theorem dX4_done_106 : decode cX4_done 106 = .ok (.invokevirtual 78, 3) := by decide +kernel
theorem dX4_done_109 : decode cX4_done 109 = .ok (.iload_n 2, 1) := by decide +kernel
theorem dX4_done_110 : decode cX4_done 110 = .ok (.invokevirtual 130, 3) := by decide +kernel
theorem dX4_done_113 : decode cX4_done 113 = .ok (.ireturn, 1) := by decide +kernel
theorem dX4_done_114 : decode cX4_done 114 = .ok (.iconst 1, 1) := by decide +kernel
theorem dX4_done_115 : decode cX4_done 115 = .ok (.ireturn, 1) := by decide +kernel
set_option maxRecDepth 20000 in
theorem ggX4_drained_X4_cellsOf : GoodIn wsX4_drained wsX4_cellsOf := goodIn_r _ [14, 7, 15, 6, 68, 69, 70, 71, 72, 73, 74, 75, 76, 77, 78, 79, 80, 81, 82, 83, 84, 85, 86, 87, 88, 89, 90, 91, 92] (by decide +kernel) (by decide +kernel)
set_option maxRecDepth 20000 in
theorem gX4_drained_X4_cellsOf : GoodIn wsX4_drained (wsV RX4 123 RX4 yX4_cellsOf wsX4_cellsOf) := goodIn_app (goodIn_of _ (by decide +kernel)) ggX4_drained_X4_cellsOf
set_option maxRecDepth 20000 in
theorem ggX4_drained_X4_done : GoodIn wsX4_drained wsX4_done := goodIn_r _ [19, 5, 15, 6, 7, 20, 21, 22, 13, 23, 24, 25, 26, 27, 28, 29, 30, 31, 32, 33, 34, 35, 36, 37, 38, 9, 39, 40, 41, 42, 43, 44, 45, 46, 47, 48, 49, 50, 51, 52, 53, 54, 55, 3, 56, 57, 58, 59, 60, 61, 62, 68, 69, 70, 71, 72, 73, 74, 75, 76, 77, 78, 79, 80, 81, 82, 83, 84, 85, 86, 87, 88, 89, 90, 91, 92] (by decide +kernel) (by decide +kernel)
set_option maxRecDepth 20000 in
theorem gX4_drained_X4_done : GoodIn wsX4_drained (wsV RX4 133 RX4 yX4_done wsX4_done) := goodIn_app (goodIn_of _ (by decide +kernel)) ggX4_drained_X4_done
set_option maxRecDepth 20000 in
theorem ggX4_drained_X4_markIs : GoodIn wsX4_drained wsX4_markIs := goodIn_r _ [66, 3, 1, 67, 52, 53, 54, 13, 55, 56, 57, 58, 15, 33, 68, 69, 70, 71, 72, 73, 74, 75, 76, 77, 78, 79, 80, 81, 82, 83, 84, 85, 86, 87, 88, 89, 90, 91, 92] (by decide +kernel) (by decide +kernel)
set_option maxRecDepth 20000 in
theorem gX4_drained_X4_markIs : GoodIn wsX4_drained (wsV RX4 137 RX4 yX4_markIs wsX4_markIs) := goodIn_app (goodIn_of _ (by decide +kernel)) ggX4_drained_X4_markIs
theorem dX4_drained_0 : decode cX4_drained 0 = .ok (.aload_n 0, 1) := by decide +kernel
theorem dX4_drained_1 : decode cX4_drained 1 = .ok (.getfield 117, 3) := by decide +kernel
theorem dX4_drained_4 : decode cX4_drained 4 = .ok (.aload_n 0, 1) := by decide +kernel
theorem dX4_drained_5 : decode cX4_drained 5 = .ok (.iconst 0, 1) := by decide +kernel
theorem dX4_drained_6 : decode cX4_drained 6 = .ok (.invokevirtual 123, 3) := by decide +kernel
theorem dX4_drained_9 : decode cX4_drained 9 = .ok (.iadd, 1) := by decide +kernel
theorem dX4_drained_10 : decode cX4_drained 10 = .ok (.bipush 32, 2) := by decide +kernel
theorem dX4_drained_12 : decode cX4_drained 12 = .ok (.irem, 1) := by decide +kernel
theorem dX4_drained_13 : decode cX4_drained 13 = .ok (.istore_n 1, 1) := by decide +kernel
theorem dX4_drained_14 : decode cX4_drained 14 = .ok (.aload_n 0, 1) := by decide +kernel
theorem dX4_drained_15 : decode cX4_drained 15 = .ok (.iconst 0, 1) := by decide +kernel
theorem dX4_drained_16 : decode cX4_drained 16 = .ok (.invokevirtual 133, 3) := by decide +kernel
theorem dX4_drained_19 : decode cX4_drained 19 = .ok (.ifCond .eq 19, 3) := by decide +kernel
theorem dX4_drained_22 : decode cX4_drained 22 = .ok (.aload_n 0, 1) := by decide +kernel
theorem dX4_drained_23 : decode cX4_drained 23 = .ok (.iload_n 1, 1) := by decide +kernel
theorem dX4_drained_24 : decode cX4_drained 24 = .ok (.aload_n 0, 1) := by decide +kernel
theorem dX4_drained_25 : decode cX4_drained 25 = .ok (.getfield 36, 3) := by decide +kernel
theorem dX4_drained_28 : decode cX4_drained 28 = .ok (.iconst 0, 1) := by decide +kernel
theorem dX4_drained_29 : decode cX4_drained 29 = .ok (.iaload, 1) := by decide +kernel
theorem dX4_drained_30 : decode cX4_drained 30 = .ok (.iconst 1, 1) := by decide +kernel
theorem dX4_drained_31 : decode cX4_drained 31 = .ok (.iadd, 1) := by decide +kernel
theorem dX4_drained_32 : decode cX4_drained 32 = .ok (.invokevirtual 137, 3) := by decide +kernel
theorem dX4_drained_35 : decode cX4_drained 35 = .ok (.ifCond .ne 5, 3) := by decide +kernel
theorem dX4_drained_38 : decode cX4_drained 38 = .ok (.iconst 0, 1) := by decide +kernel
theorem dX4_drained_39 : decode cX4_drained 39 = .ok (.ireturn, 1) := by decide +kernel
theorem dX4_drained_40 : decode cX4_drained 40 = .ok (.aload_n 0, 1) := by decide +kernel
theorem dX4_drained_41 : decode cX4_drained 41 = .ok (.getfield 60, 3) := by decide +kernel
theorem dX4_drained_44 : decode cX4_drained 44 = .ok (.iconst 5, 1) := by decide +kernel
theorem dX4_drained_45 : decode cX4_drained 45 = .ok (.dup2, 1) := by decide +kernel
theorem dX4_drained_46 : decode cX4_drained 46 = .ok (.iaload, 1) := by decide +kernel
theorem dX4_drained_47 : decode cX4_drained 47 = .ok (.iconst 1, 1) := by decide +kernel
theorem dX4_drained_48 : decode cX4_drained 48 = .ok (.iadd, 1) := by decide +kernel
theorem dX4_drained_49 : decode cX4_drained 49 = .ok (.iastore, 1) := by decide +kernel
theorem dX4_drained_50 : decode cX4_drained 50 = .ok (.iconst 1, 1) := by decide +kernel
theorem dX4_drained_51 : decode cX4_drained 51 = .ok (.istore_n 2, 1) := by decide +kernel
theorem dX4_drained_52 : decode cX4_drained 52 = .ok (.iload_n 2, 1) := by decide +kernel
theorem dX4_drained_53 : decode cX4_drained 53 = .ok (.aload_n 0, 1) := by decide +kernel
theorem dX4_drained_54 : decode cX4_drained 54 = .ok (.getfield 120, 3) := by decide +kernel
theorem dX4_drained_57 : decode cX4_drained 57 = .ok (.if_icmp .ge 117, 3) := by decide +kernel
theorem dX4_drained_60 : decode cX4_drained 60 = .ok (.aload_n 0, 1) := by decide +kernel
theorem dX4_drained_61 : decode cX4_drained 61 = .ok (.getfield 33, 3) := by decide +kernel
theorem dX4_drained_64 : decode cX4_drained 64 = .ok (.iload_n 2, 1) := by decide +kernel
theorem dX4_drained_65 : decode cX4_drained 65 = .ok (.iconst 1, 1) := by decide +kernel
theorem dX4_drained_66 : decode cX4_drained 66 = .ok (.isub, 1) := by decide +kernel
theorem dX4_drained_67 : decode cX4_drained 67 = .ok (.aload_n 0, 1) := by decide +kernel
theorem dX4_drained_68 : decode cX4_drained 68 = .ok (.getfield 33, 3) := by decide +kernel
theorem dX4_drained_71 : decode cX4_drained 71 = .ok (.iload_n 2, 1) := by decide +kernel
theorem dX4_drained_72 : decode cX4_drained 72 = .ok (.iaload, 1) := by decide +kernel
theorem dX4_drained_73 : decode cX4_drained 73 = .ok (.iastore, 1) := by decide +kernel
theorem dX4_drained_74 : decode cX4_drained 74 = .ok (.aload_n 0, 1) := by decide +kernel
theorem dX4_drained_75 : decode cX4_drained 75 = .ok (.getfield 36, 3) := by decide +kernel
theorem dX4_drained_78 : decode cX4_drained 78 = .ok (.iload_n 2, 1) := by decide +kernel
theorem dX4_drained_79 : decode cX4_drained 79 = .ok (.iconst 1, 1) := by decide +kernel
theorem dX4_drained_80 : decode cX4_drained 80 = .ok (.isub, 1) := by decide +kernel
theorem dX4_drained_81 : decode cX4_drained 81 = .ok (.aload_n 0, 1) := by decide +kernel
theorem dX4_drained_82 : decode cX4_drained 82 = .ok (.getfield 36, 3) := by decide +kernel
theorem dX4_drained_85 : decode cX4_drained 85 = .ok (.iload_n 2, 1) := by decide +kernel
theorem dX4_drained_86 : decode cX4_drained 86 = .ok (.iaload, 1) := by decide +kernel
theorem dX4_drained_87 : decode cX4_drained 87 = .ok (.iastore, 1) := by decide +kernel
theorem dX4_drained_88 : decode cX4_drained 88 = .ok (.aload_n 0, 1) := by decide +kernel
theorem dX4_drained_89 : decode cX4_drained 89 = .ok (.getfield 39, 3) := by decide +kernel
theorem dX4_drained_92 : decode cX4_drained 92 = .ok (.iload_n 2, 1) := by decide +kernel
theorem dX4_drained_93 : decode cX4_drained 93 = .ok (.iconst 1, 1) := by decide +kernel
theorem dX4_drained_94 : decode cX4_drained 94 = .ok (.isub, 1) := by decide +kernel
theorem dX4_drained_95 : decode cX4_drained 95 = .ok (.aload_n 0, 1) := by decide +kernel
theorem dX4_drained_96 : decode cX4_drained 96 = .ok (.getfield 39, 3) := by decide +kernel
theorem dX4_drained_99 : decode cX4_drained 99 = .ok (.iload_n 2, 1) := by decide +kernel
theorem dX4_drained_100 : decode cX4_drained 100 = .ok (.iaload, 1) := by decide +kernel
theorem dX4_drained_101 : decode cX4_drained 101 = .ok (.iastore, 1) := by decide +kernel
theorem dX4_drained_102 : decode cX4_drained 102 = .ok (.aload_n 0, 1) := by decide +kernel
theorem dX4_drained_103 : decode cX4_drained 103 = .ok (.getfield 42, 3) := by decide +kernel
theorem dX4_drained_106 : decode cX4_drained 106 = .ok (.iload_n 2, 1) := by decide +kernel
theorem dX4_drained_107 : decode cX4_drained 107 = .ok (.iconst 1, 1) := by decide +kernel
theorem dX4_drained_108 : decode cX4_drained 108 = .ok (.isub, 1) := by decide +kernel
theorem dX4_drained_109 : decode cX4_drained 109 = .ok (.aload_n 0, 1) := by decide +kernel
theorem dX4_drained_110 : decode cX4_drained 110 = .ok (.getfield 42, 3) := by decide +kernel
theorem dX4_drained_113 : decode cX4_drained 113 = .ok (.iload_n 2, 1) := by decide +kernel
theorem dX4_drained_114 : decode cX4_drained 114 = .ok (.baload, 1) := by decide +kernel
theorem dX4_drained_115 : decode cX4_drained 115 = .ok (.bastore, 1) := by decide +kernel
theorem dX4_drained_116 : decode cX4_drained 116 = .ok (.aload_n 0, 1) := by decide +kernel
theorem dX4_drained_117 : decode cX4_drained 117 = .ok (.getfield 45, 3) := by decide +kernel
theorem dX4_drained_120 : decode cX4_drained 120 = .ok (.iload_n 2, 1) := by decide +kernel
theorem dX4_drained_121 : decode cX4_drained 121 = .ok (.iconst 1, 1) := by decide +kernel
theorem dX4_drained_122 : decode cX4_drained 122 = .ok (.isub, 1) := by decide +kernel
theorem dX4_drained_123 : decode cX4_drained 123 = .ok (.aload_n 0, 1) := by decide +kernel
theorem dX4_drained_124 : decode cX4_drained 124 = .ok (.getfield 45, 3) := by decide +kernel
theorem dX4_drained_127 : decode cX4_drained 127 = .ok (.iload_n 2, 1) := by decide +kernel
theorem dX4_drained_128 : decode cX4_drained 128 = .ok (.iaload, 1) := by decide +kernel
theorem dX4_drained_129 : decode cX4_drained 129 = .ok (.iastore, 1) := by decide +kernel
theorem dX4_drained_130 : decode cX4_drained 130 = .ok (.iconst 0, 1) := by decide +kernel
theorem dX4_drained_131 : decode cX4_drained 131 = .ok (.istore_n 3, 1) := by decide +kernel
theorem dX4_drained_132 : decode cX4_drained 132 = .ok (.iload_n 3, 1) := by decide +kernel
theorem dX4_drained_133 : decode cX4_drained 133 = .ok (.bipush 48, 2) := by decide +kernel
theorem dX4_drained_135 : decode cX4_drained 135 = .ok (.if_icmp .ge 33, 3) := by decide +kernel
theorem dX4_drained_138 : decode cX4_drained 138 = .ok (.aload_n 0, 1) := by decide +kernel
theorem dX4_drained_139 : decode cX4_drained 139 = .ok (.getfield 48, 3) := by decide +kernel
theorem dX4_drained_142 : decode cX4_drained 142 = .ok (.bipush 48, 2) := by decide +kernel
theorem dX4_drained_144 : decode cX4_drained 144 = .ok (.iload_n 2, 1) := by decide +kernel
theorem dX4_drained_145 : decode cX4_drained 145 = .ok (.iconst 1, 1) := by decide +kernel
theorem dX4_drained_146 : decode cX4_drained 146 = .ok (.isub, 1) := by decide +kernel
theorem dX4_drained_147 : decode cX4_drained 147 = .ok (.imul, 1) := by decide +kernel
theorem dX4_drained_148 : decode cX4_drained 148 = .ok (.iload_n 3, 1) := by decide +kernel
theorem dX4_drained_149 : decode cX4_drained 149 = .ok (.iadd, 1) := by decide +kernel
theorem dX4_drained_150 : decode cX4_drained 150 = .ok (.aload_n 0, 1) := by decide +kernel
theorem dX4_drained_151 : decode cX4_drained 151 = .ok (.getfield 48, 3) := by decide +kernel
theorem dX4_drained_154 : decode cX4_drained 154 = .ok (.bipush 48, 2) := by decide +kernel
theorem dX4_drained_156 : decode cX4_drained 156 = .ok (.iload_n 2, 1) := by decide +kernel
theorem dX4_drained_157 : decode cX4_drained 157 = .ok (.imul, 1) := by decide +kernel
theorem dX4_drained_158 : decode cX4_drained 158 = .ok (.iload_n 3, 1) := by decide +kernel
theorem dX4_drained_159 : decode cX4_drained 159 = .ok (.iadd, 1) := by decide +kernel
theorem dX4_drained_160 : decode cX4_drained 160 = .ok (.iaload, 1) := by decide +kernel
theorem dX4_drained_161 : decode cX4_drained 161 = .ok (.iastore, 1) := by decide +kernel
theorem dX4_drained_162 : decode cX4_drained 162 = .ok (.iinc 3 1, 3) := by decide +kernel
theorem dX4_drained_165 : decode cX4_drained 165 = .ok (.goto (-33), 3) := by decide +kernel
theorem dX4_drained_168 : decode cX4_drained 168 = .ok (.iinc 2 1, 3) := by decide +kernel
theorem dX4_drained_171 : decode cX4_drained 171 = .ok (.goto (-119), 3) := by decide +kernel
theorem dX4_drained_174 : decode cX4_drained 174 = .ok (.aload_n 0, 1) := by decide +kernel
theorem dX4_drained_175 : decode cX4_drained 175 = .ok (.dup, 1) := by decide +kernel
theorem dX4_drained_176 : decode cX4_drained 176 = .ok (.getfield 120, 3) := by decide +kernel
theorem dX4_drained_179 : decode cX4_drained 179 = .ok (.iconst 1, 1) := by decide +kernel
theorem dX4_drained_180 : decode cX4_drained 180 = .ok (.isub, 1) := by decide +kernel
theorem dX4_drained_181 : decode cX4_drained 181 = .ok (.putfield 120, 3) := by decide +kernel
theorem dX4_drained_184 : decode cX4_drained 184 = .ok (.iconst 1, 1) := by decide +kernel
theorem dX4_drained_185 : decode cX4_drained 185 = .ok (.ireturn, 1) := by decide +kernel
theorem dX4_latest_0 : decode cX4_latest 0 = .ok (.aload_n 0, 1) := by decide +kernel
theorem dX4_latest_1 : decode cX4_latest 1 = .ok (.getfield 120, 3) := by decide +kernel
theorem dX4_latest_4 : decode cX4_latest 4 = .ok (.iconst 1, 1) := by decide +kernel
theorem dX4_latest_5 : decode cX4_latest 5 = .ok (.isub, 1) := by decide +kernel
theorem dX4_latest_6 : decode cX4_latest 6 = .ok (.istore_n 3, 1) := by decide +kernel
theorem dX4_latest_7 : decode cX4_latest 7 = .ok (.iload_n 3, 1) := by decide +kernel
theorem dX4_latest_8 : decode cX4_latest 8 = .ok (.ifCond .lt 61, 3) := by decide +kernel
theorem dX4_latest_11 : decode cX4_latest 11 = .ok (.iload_n 2, 1) := by decide +kernel
theorem dX4_latest_12 : decode cX4_latest 12 = .ok (.iconst 5, 1) := by decide +kernel
theorem dX4_latest_13 : decode cX4_latest 13 = .ok (.if_icmp .ne 12, 3) := by decide +kernel
theorem dX4_latest_16 : decode cX4_latest 16 = .ok (.aload_n 0, 1) := by decide +kernel
theorem dX4_latest_17 : decode cX4_latest 17 = .ok (.getfield 42, 3) := by decide +kernel
theorem dX4_latest_20 : decode cX4_latest 20 = .ok (.iload_n 3, 1) := by decide +kernel
theorem dX4_latest_21 : decode cX4_latest 21 = .ok (.baload, 1) := by decide +kernel
theorem dX4_latest_22 : decode cX4_latest 22 = .ok (.goto 22, 3) := by decide +kernel
theorem dX4_latest_25 : decode cX4_latest 25 = .ok (.aload_n 0, 1) := by decide +kernel
theorem dX4_latest_26 : decode cX4_latest 26 = .ok (.getfield 39, 3) := by decide +kernel
theorem dX4_latest_29 : decode cX4_latest 29 = .ok (.iload_n 3, 1) := by decide +kernel
theorem dX4_latest_30 : decode cX4_latest 30 = .ok (.iaload, 1) := by decide +kernel
theorem dX4_latest_31 : decode cX4_latest 31 = .ok (.iload_n 2, 1) := by decide +kernel
theorem dX4_latest_32 : decode cX4_latest 32 = .ok (.ishr, 1) := by decide +kernel
theorem dX4_latest_33 : decode cX4_latest 33 = .ok (.iconst 1, 1) := by decide +kernel
theorem dX4_latest_34 : decode cX4_latest 34 = .ok (.iand, 1) := by decide +kernel
theorem dX4_latest_35 : decode cX4_latest 35 = .ok (.iconst 1, 1) := by decide +kernel
theorem dX4_latest_36 : decode cX4_latest 36 = .ok (.if_icmp .ne 7, 3) := by decide +kernel
theorem dX4_latest_39 : decode cX4_latest 39 = .ok (.iconst 1, 1) := by decide +kernel
theorem dX4_latest_40 : decode cX4_latest 40 = .ok (.goto 4, 3) := by decide +kernel
theorem dX4_latest_43 : decode cX4_latest 43 = .ok (.iconst 0, 1) := by decide +kernel
theorem dX4_latest_44 : decode cX4_latest 44 = .ok (.istore 4, 2) := by decide +kernel
theorem dX4_latest_46 : decode cX4_latest 46 = .ok (.aload_n 0, 1) := by decide +kernel
theorem dX4_latest_47 : decode cX4_latest 47 = .ok (.getfield 33, 3) := by decide +kernel
theorem dX4_latest_50 : decode cX4_latest 50 = .ok (.iload_n 3, 1) := by decide +kernel
theorem dX4_latest_51 : decode cX4_latest 51 = .ok (.iaload, 1) := by decide +kernel
theorem dX4_latest_52 : decode cX4_latest 52 = .ok (.iload_n 1, 1) := by decide +kernel
theorem dX4_latest_53 : decode cX4_latest 53 = .ok (.if_icmp .ne 10, 3) := by decide +kernel
theorem dX4_latest_56 : decode cX4_latest 56 = .ok (.iload 4, 2) := by decide +kernel
theorem dX4_latest_58 : decode cX4_latest 58 = .ok (.ifCond .eq 5, 3) := by decide +kernel
theorem dX4_latest_61 : decode cX4_latest 61 = .ok (.iload_n 3, 1) := by decide +kernel
theorem dX4_latest_62 : decode cX4_latest 62 = .ok (.ireturn, 1) := by decide +kernel
theorem dX4_latest_63 : decode cX4_latest 63 = .ok (.iinc 3 (-1), 3) := by decide +kernel
theorem dX4_latest_66 : decode cX4_latest 66 = .ok (.goto (-59), 3) := by decide +kernel
theorem dX4_latest_69 : decode cX4_latest 69 = .ok (.iconst (-1), 1) := by decide +kernel
theorem dX4_latest_70 : decode cX4_latest 70 = .ok (.ireturn, 1) := by decide +kernel
set_option maxRecDepth 20000 in
theorem ggX4_memberOfRow_X4_parityOf : GoodIn wsX4_memberOfRow wsX4_parityOf := goodIn_r _ [5, 6, 11, 12, 13, 14, 15, 16, 17, 18, 19, 20, 21, 22, 23, 24, 25, 26, 27, 28, 29, 30, 31, 32, 33, 34, 35] (by decide +kernel) (by decide +kernel)
set_option maxRecDepth 20000 in
theorem gX4_memberOfRow_X4_parityOf : GoodIn wsX4_memberOfRow (wsV RX4 78 RX4 yX4_parityOf wsX4_parityOf) := goodIn_app (goodIn_of _ (by decide +kernel)) ggX4_memberOfRow_X4_parityOf
set_option maxRecDepth 20000 in
theorem ggX4_memberOfRow_X4_memberOf : GoodIn wsX4_memberOfRow wsX4_memberOf := goodIn_r _ [10, 6, 1, 2, 3, 4, 5, 11, 12, 13, 14, 15, 16, 17, 18, 19, 20, 21, 22, 23, 24, 25, 26, 27, 28, 29, 30, 31, 32, 33, 34, 35] (by decide +kernel) (by decide +kernel)
set_option maxRecDepth 20000 in
theorem gX4_memberOfRow_X4_memberOf : GoodIn wsX4_memberOfRow (wsV RX4 100 RX4 yX4_memberOf wsX4_memberOf) := goodIn_app (goodIn_of _ (by decide +kernel)) ggX4_memberOfRow_X4_memberOf
theorem dX4_memberOfRow_0 : decode cX4_memberOfRow 0 = .ok (.iload_n 2, 1) := by decide +kernel
theorem dX4_memberOfRow_1 : decode cX4_memberOfRow 1 = .ok (.iconst 5, 1) := by decide +kernel
theorem dX4_memberOfRow_2 : decode cX4_memberOfRow 2 = .ok (.if_icmp .ne 11, 3) := by decide +kernel
theorem dX4_memberOfRow_5 : decode cX4_memberOfRow 5 = .ok (.aload_n 0, 1) := by decide +kernel
theorem dX4_memberOfRow_6 : decode cX4_memberOfRow 6 = .ok (.iload_n 1, 1) := by decide +kernel
theorem dX4_memberOfRow_7 : decode cX4_memberOfRow 7 = .ok (.invokevirtual 78, 3) := by decide +kernel
theorem dX4_memberOfRow_10 : decode cX4_memberOfRow 10 = .ok (.goto 9, 3) := by decide +kernel
theorem dX4_memberOfRow_13 : decode cX4_memberOfRow 13 = .ok (.aload_n 0, 1) := by decide +kernel
theorem dX4_memberOfRow_14 : decode cX4_memberOfRow 14 = .ok (.iload_n 1, 1) := by decide +kernel
theorem dX4_memberOfRow_15 : decode cX4_memberOfRow 15 = .ok (.iload_n 2, 1) := by decide +kernel
theorem dX4_memberOfRow_16 : decode cX4_memberOfRow 16 = .ok (.invokevirtual 100, 3) := by decide +kernel
theorem dX4_memberOfRow_19 : decode cX4_memberOfRow 19 = .ok (.ireturn, 1) := by decide +kernel
set_option maxRecDepth 20000 in
theorem ggX4_hasNewest_X4_latest : GoodIn wsX4_hasNewest wsX4_latest := goodIn_r _ [5, 6, 7, 8, 9, 44, 45, 46, 47, 48, 49, 50, 51, 52, 53, 54, 55, 56, 57, 58, 59, 60, 61, 62, 63, 64, 65, 66, 67, 68] (by decide +kernel) (by decide +kernel)
set_option maxRecDepth 20000 in
theorem gX4_hasNewest_X4_latest : GoodIn wsX4_hasNewest (wsV RX4 140 RX4 yX4_latest wsX4_latest) := goodIn_app (goodIn_of _ (by decide +kernel)) ggX4_hasNewest_X4_latest
set_option maxRecDepth 20000 in
theorem ggX4_hasNewest_X4_memberOfRow : GoodIn wsX4_hasNewest wsX4_memberOfRow := goodIn_r _ [13, 14, 15, 16, 4, 17, 18, 19, 20, 21, 22, 44, 45, 46, 47, 48, 49, 50, 51, 52, 53, 54, 55, 56, 57, 58, 59, 60, 61, 62, 63, 64, 65, 66, 67, 68] (by decide +kernel) (by decide +kernel)
set_option maxRecDepth 20000 in
theorem gX4_hasNewest_X4_memberOfRow : GoodIn wsX4_hasNewest (wsV RX4 143 RX4 yX4_memberOfRow wsX4_memberOfRow) := goodIn_app (goodIn_of _ (by decide +kernel)) ggX4_hasNewest_X4_memberOfRow
set_option maxRecDepth 20000 in
theorem ggX4_hasNewest_X4_isThere : GoodIn wsX4_hasNewest wsX4_isThere := goodIn_r _ [26, 27, 28, 29, 30, 31, 4, 32, 33, 34, 35, 36, 37, 38, 39, 40, 41, 42, 43, 44, 45, 46, 47, 48, 49, 50, 51, 52, 53, 54, 55, 56, 57, 58, 59, 60, 61, 62, 63, 64, 65, 66, 67, 68] (by decide +kernel) (by decide +kernel)
set_option maxRecDepth 20000 in
theorem gX4_hasNewest_X4_isThere : GoodIn wsX4_hasNewest (wsV RX4 93 RX4 yX4_isThere wsX4_isThere) := goodIn_app (goodIn_of _ (by decide +kernel)) ggX4_hasNewest_X4_isThere
theorem dX4_hasNewest_0 : decode cX4_hasNewest 0 = .ok (.aload_n 0, 1) := by decide +kernel
theorem dX4_hasNewest_1 : decode cX4_hasNewest 1 = .ok (.iload_n 1, 1) := by decide +kernel
theorem dX4_hasNewest_2 : decode cX4_hasNewest 2 = .ok (.iload_n 2, 1) := by decide +kernel
theorem dX4_hasNewest_3 : decode cX4_hasNewest 3 = .ok (.invokevirtual 140, 3) := by decide +kernel
theorem dX4_hasNewest_6 : decode cX4_hasNewest 6 = .ok (.iconst (-1), 1) := by decide +kernel
theorem dX4_hasNewest_7 : decode cX4_hasNewest 7 = .ok (.if_icmp .ne 17, 3) := by decide +kernel
theorem dX4_hasNewest_10 : decode cX4_hasNewest 10 = .ok (.aload_n 0, 1) := by decide +kernel
theorem dX4_hasNewest_11 : decode cX4_hasNewest 11 = .ok (.aload_n 0, 1) := by decide +kernel
theorem dX4_hasNewest_12 : decode cX4_hasNewest 12 = .ok (.iload_n 1, 1) := by decide +kernel
theorem dX4_hasNewest_13 : decode cX4_hasNewest 13 = .ok (.iload_n 2, 1) := by decide +kernel
theorem dX4_hasNewest_14 : decode cX4_hasNewest 14 = .ok (.invokevirtual 143, 3) := by decide +kernel
theorem dX4_hasNewest_17 : decode cX4_hasNewest 17 = .ok (.iload_n 1, 1) := by decide +kernel
theorem dX4_hasNewest_18 : decode cX4_hasNewest 18 = .ok (.invokevirtual 93, 3) := by decide +kernel
theorem dX4_hasNewest_21 : decode cX4_hasNewest 21 = .ok (.ifCond .eq 7, 3) := by decide +kernel
theorem dX4_hasNewest_24 : decode cX4_hasNewest 24 = .ok (.iconst 1, 1) := by decide +kernel
theorem dX4_hasNewest_25 : decode cX4_hasNewest 25 = .ok (.goto 4, 3) := by decide +kernel
theorem dX4_hasNewest_28 : decode cX4_hasNewest 28 = .ok (.iconst 0, 1) := by decide +kernel
theorem dX4_hasNewest_29 : decode cX4_hasNewest 29 = .ok (.ireturn, 1) := by decide +kernel
set_option maxRecDepth 20000 in
theorem ggX4_newest_X4_latest : GoodIn wsX4_newest wsX4_latest := goodIn_r _ [7, 8, 9, 10, 11, 29, 30, 31, 32, 33, 34, 35, 36, 37, 38, 39, 40, 41, 42, 43, 44, 45, 46, 47, 48, 49, 50, 51, 52, 53] (by decide +kernel) (by decide +kernel)
set_option maxRecDepth 20000 in
theorem gX4_newest_X4_latest : GoodIn wsX4_newest (wsV RX4 140 RX4 yX4_latest wsX4_latest) := goodIn_app (goodIn_of _ (by decide +kernel)) ggX4_newest_X4_latest
set_option maxRecDepth 20000 in
theorem ggX4_newest_X4_memberOfRow : GoodIn wsX4_newest wsX4_memberOfRow := goodIn_r _ [15, 16, 17, 18, 6, 19, 20, 21, 22, 23, 24, 29, 30, 31, 32, 33, 34, 35, 36, 37, 38, 39, 40, 41, 42, 43, 44, 45, 46, 47, 48, 49, 50, 51, 52, 53] (by decide +kernel) (by decide +kernel)
set_option maxRecDepth 20000 in
theorem gX4_newest_X4_memberOfRow : GoodIn wsX4_newest (wsV RX4 143 RX4 yX4_memberOfRow wsX4_memberOfRow) := goodIn_app (goodIn_of _ (by decide +kernel)) ggX4_newest_X4_memberOfRow
set_option maxRecDepth 20000 in
theorem ggX4_newest_X4_at : GoodIn wsX4_newest wsX4_at := goodIn_r _ [28] (by decide +kernel) (by decide +kernel)
set_option maxRecDepth 20000 in
theorem gX4_newest_X4_at : GoodIn wsX4_newest (wsV RX4 82 RX4 yX4_at wsX4_at) := goodIn_app (goodIn_of _ (by decide +kernel)) ggX4_newest_X4_at
theorem dX4_newest_0 : decode cX4_newest 0 = .ok (.aload_n 0, 1) := by decide +kernel
theorem dX4_newest_1 : decode cX4_newest 1 = .ok (.iload_n 1, 1) := by decide +kernel
theorem dX4_newest_2 : decode cX4_newest 2 = .ok (.iload_n 2, 1) := by decide +kernel
theorem dX4_newest_3 : decode cX4_newest 3 = .ok (.invokevirtual 140, 3) := by decide +kernel
theorem dX4_newest_6 : decode cX4_newest 6 = .ok (.istore 4, 2) := by decide +kernel
theorem dX4_newest_8 : decode cX4_newest 8 = .ok (.iload 4, 2) := by decide +kernel
theorem dX4_newest_10 : decode cX4_newest 10 = .ok (.iconst (-1), 1) := by decide +kernel
theorem dX4_newest_11 : decode cX4_newest 11 = .ok (.if_icmp .eq 23, 3) := by decide +kernel
theorem dX4_newest_14 : decode cX4_newest 14 = .ok (.aload_n 0, 1) := by decide +kernel
theorem dX4_newest_15 : decode cX4_newest 15 = .ok (.getfield 48, 3) := by decide +kernel
theorem dX4_newest_18 : decode cX4_newest 18 = .ok (.bipush 8, 2) := by decide +kernel
theorem dX4_newest_20 : decode cX4_newest 20 = .ok (.bipush 6, 2) := by decide +kernel
theorem dX4_newest_22 : decode cX4_newest 22 = .ok (.iload 4, 2) := by decide +kernel
theorem dX4_newest_24 : decode cX4_newest 24 = .ok (.imul, 1) := by decide +kernel
theorem dX4_newest_25 : decode cX4_newest 25 = .ok (.iload_n 2, 1) := by decide +kernel
theorem dX4_newest_26 : decode cX4_newest 26 = .ok (.iadd, 1) := by decide +kernel
theorem dX4_newest_27 : decode cX4_newest 27 = .ok (.imul, 1) := by decide +kernel
theorem dX4_newest_28 : decode cX4_newest 28 = .ok (.iload_n 3, 1) := by decide +kernel
theorem dX4_newest_29 : decode cX4_newest 29 = .ok (.iadd, 1) := by decide +kernel
theorem dX4_newest_30 : decode cX4_newest 30 = .ok (.iaload, 1) := by decide +kernel
theorem dX4_newest_31 : decode cX4_newest 31 = .ok (.goto 24, 3) := by decide +kernel
theorem dX4_newest_34 : decode cX4_newest 34 = .ok (.aload_n 0, 1) := by decide +kernel
theorem dX4_newest_35 : decode cX4_newest 35 = .ok (.getfield 13, 3) := by decide +kernel
theorem dX4_newest_38 : decode cX4_newest 38 = .ok (.bipush 8, 2) := by decide +kernel
theorem dX4_newest_40 : decode cX4_newest 40 = .ok (.aload_n 0, 1) := by decide +kernel
theorem dX4_newest_41 : decode cX4_newest 41 = .ok (.aload_n 0, 1) := by decide +kernel
theorem dX4_newest_42 : decode cX4_newest 42 = .ok (.iload_n 1, 1) := by decide +kernel
theorem dX4_newest_43 : decode cX4_newest 43 = .ok (.iload_n 2, 1) := by decide +kernel
theorem dX4_newest_44 : decode cX4_newest 44 = .ok (.invokevirtual 143, 3) := by decide +kernel
theorem dX4_newest_47 : decode cX4_newest 47 = .ok (.iload_n 1, 1) := by decide +kernel
theorem dX4_newest_48 : decode cX4_newest 48 = .ok (.invokevirtual 82, 3) := by decide +kernel
theorem dX4_newest_51 : decode cX4_newest 51 = .ok (.imul, 1) := by decide +kernel
theorem dX4_newest_52 : decode cX4_newest 52 = .ok (.iload_n 3, 1) := by decide +kernel
theorem dX4_newest_53 : decode cX4_newest 53 = .ok (.iadd, 1) := by decide +kernel
theorem dX4_newest_54 : decode cX4_newest 54 = .ok (.iaload, 1) := by decide +kernel
theorem dX4_newest_55 : decode cX4_newest 55 = .ok (.ireturn, 1) := by decide +kernel
set_option maxRecDepth 20000 in
theorem ggX4_can_X4_hasNewest : GoodIn wsX4_can wsX4_hasNewest := goodIn_r _ [6, 7, 8, 9, 5, 10, 11, 12, 13, 14, 15, 16, 17, 18, 19, 20, 21, 22, 1, 23, 24, 25, 26, 27, 28, 29, 30, 31, 32, 33, 34, 35, 36, 37, 38, 39, 40, 41, 42, 43, 44, 45, 46, 47, 48, 49, 50, 51, 52, 53, 54, 55, 56, 57, 58, 59, 60, 61, 62, 63, 64, 65, 66, 67, 68, 69, 70, 71, 72] (by decide +kernel) (by decide +kernel)
set_option maxRecDepth 20000 in
theorem gX4_can_X4_hasNewest : GoodIn wsX4_can (wsV RX4 146 RX4 yX4_hasNewest wsX4_hasNewest) := goodIn_app (goodIn_of _ (by decide +kernel)) ggX4_can_X4_hasNewest
theorem dX4_can_0 : decode cX4_can 0 = .ok (.iload_n 3, 1) := by decide +kernel
theorem dX4_can_1 : decode cX4_can 1 = .ok (.iconst 3, 1) := by decide +kernel
theorem dX4_can_2 : decode cX4_can 2 = .ok (.if_icmp .eq 12, 3) := by decide +kernel
theorem dX4_can_5 : decode cX4_can 5 = .ok (.aload_n 0, 1) := by decide +kernel
theorem dX4_can_6 : decode cX4_can 6 = .ok (.iload_n 1, 1) := by decide +kernel
theorem dX4_can_7 : decode cX4_can 7 = .ok (.iconst 5, 1) := by decide +kernel
theorem dX4_can_8 : decode cX4_can 8 = .ok (.invokevirtual 146, 3) := by decide +kernel
theorem dX4_can_11 : decode cX4_can 11 = .ok (.ifCond .eq 7, 3) := by decide +kernel
theorem dX4_can_14 : decode cX4_can 14 = .ok (.iconst 1, 1) := by decide +kernel
theorem dX4_can_15 : decode cX4_can 15 = .ok (.goto 4, 3) := by decide +kernel
theorem dX4_can_18 : decode cX4_can 18 = .ok (.iconst 0, 1) := by decide +kernel
theorem dX4_can_19 : decode cX4_can 19 = .ok (.istore 4, 2) := by decide +kernel
theorem dX4_can_21 : decode cX4_can 21 = .ok (.iconst 0, 1) := by decide +kernel
theorem dX4_can_22 : decode cX4_can 22 = .ok (.istore 5, 2) := by decide +kernel
theorem dX4_can_24 : decode cX4_can 24 = .ok (.iload 5, 2) := by decide +kernel
theorem dX4_can_26 : decode cX4_can 26 = .ok (.aload_n 0, 1) := by decide +kernel
theorem dX4_can_27 : decode cX4_can 27 = .ok (.getfield 69, 3) := by decide +kernel
theorem dX4_can_30 : decode cX4_can 30 = .ok (.iconst 1, 1) := by decide +kernel
theorem dX4_can_31 : decode cX4_can 31 = .ok (.isub, 1) := by decide +kernel
theorem dX4_can_32 : decode cX4_can 32 = .ok (.if_icmp .ge 63, 3) := by decide +kernel
theorem dX4_can_35 : decode cX4_can 35 = .ok (.iload_n 2, 1) := by decide +kernel
theorem dX4_can_36 : decode cX4_can 36 = .ok (.iload 5, 2) := by decide +kernel
theorem dX4_can_38 : decode cX4_can 38 = .ok (.ishr, 1) := by decide +kernel
theorem dX4_can_39 : decode cX4_can 39 = .ok (.iconst 1, 1) := by decide +kernel
theorem dX4_can_40 : decode cX4_can 40 = .ok (.iand, 1) := by decide +kernel
theorem dX4_can_41 : decode cX4_can 41 = .ok (.iconst 1, 1) := by decide +kernel
theorem dX4_can_42 : decode cX4_can 42 = .ok (.if_icmp .ne 7, 3) := by decide +kernel
theorem dX4_can_45 : decode cX4_can 45 = .ok (.iconst 1, 1) := by decide +kernel
theorem dX4_can_46 : decode cX4_can 46 = .ok (.goto 4, 3) := by decide +kernel
theorem dX4_can_49 : decode cX4_can 49 = .ok (.iconst 0, 1) := by decide +kernel
theorem dX4_can_50 : decode cX4_can 50 = .ok (.istore 6, 2) := by decide +kernel
theorem dX4_can_52 : decode cX4_can 52 = .ok (.iload 4, 2) := by decide +kernel
theorem dX4_can_54 : decode cX4_can 54 = .ok (.ifCond .eq 32, 3) := by decide +kernel
theorem dX4_can_57 : decode cX4_can 57 = .ok (.iload 6, 2) := by decide +kernel
theorem dX4_can_59 : decode cX4_can 59 = .ok (.iload_n 3, 1) := by decide +kernel
theorem dX4_can_60 : decode cX4_can 60 = .ok (.iconst 2, 1) := by decide +kernel
theorem dX4_can_61 : decode cX4_can 61 = .ok (.if_icmp .ne 7, 3) := by decide +kernel
theorem dX4_can_64 : decode cX4_can 64 = .ok (.iconst 1, 1) := by decide +kernel
theorem dX4_can_65 : decode cX4_can 65 = .ok (.goto 4, 3) := by decide +kernel
theorem dX4_can_68 : decode cX4_can 68 = .ok (.iconst 0, 1) := by decide +kernel
theorem dX4_can_69 : decode cX4_can 69 = .ok (.if_icmp .ne 13, 3) := by decide +kernel
theorem dX4_can_72 : decode cX4_can 72 = .ok (.aload_n 0, 1) := by decide +kernel
theorem dX4_can_73 : decode cX4_can 73 = .ok (.iload_n 1, 1) := by decide +kernel
theorem dX4_can_74 : decode cX4_can 74 = .ok (.iload 5, 2) := by decide +kernel
theorem dX4_can_76 : decode cX4_can 76 = .ok (.invokevirtual 146, 3) := by decide +kernel
theorem dX4_can_79 : decode cX4_can 79 = .ok (.ifCond .eq 7, 3) := by decide +kernel
theorem dX4_can_82 : decode cX4_can 82 = .ok (.iconst 1, 1) := by decide +kernel
theorem dX4_can_83 : decode cX4_can 83 = .ok (.goto 4, 3) := by decide +kernel
theorem dX4_can_86 : decode cX4_can 86 = .ok (.iconst 0, 1) := by decide +kernel
theorem dX4_can_87 : decode cX4_can 87 = .ok (.istore 4, 2) := by decide +kernel
theorem dX4_can_89 : decode cX4_can 89 = .ok (.iinc 5 1, 3) := by decide +kernel
theorem dX4_can_92 : decode cX4_can 92 = .ok (.goto (-68), 3) := by decide +kernel
theorem dX4_can_95 : decode cX4_can 95 = .ok (.iload 4, 2) := by decide +kernel
theorem dX4_can_97 : decode cX4_can 97 = .ok (.ireturn, 1) := by decide +kernel
set_option maxRecDepth 20000 in
theorem ggX4_wayOf_X4_parityOf : GoodIn wsX4_wayOf wsX4_parityOf := goodIn_r _ [6, 1, 52, 53, 54, 55, 56, 57, 58, 59, 60, 61, 62, 63, 64, 65, 66, 67, 68, 69, 70, 71, 72, 73, 74, 75, 76] (by decide +kernel) (by decide +kernel)
set_option maxRecDepth 20000 in
theorem gX4_wayOf_X4_parityOf : GoodIn wsX4_wayOf (wsV RX4 78 RX4 yX4_parityOf wsX4_parityOf) := goodIn_app (goodIn_of _ (by decide +kernel)) ggX4_wayOf_X4_parityOf
set_option maxRecDepth 20000 in
theorem ggX4_wayOf_X4_isOn : GoodIn wsX4_wayOf wsX4_isOn := goodIn_r _ [10, 11, 12, 52, 53, 54, 55, 56, 57, 58, 59, 60, 61, 62, 63, 64, 65, 66, 67, 68, 69, 70, 71, 72, 73, 74, 75, 76] (by decide +kernel) (by decide +kernel)
set_option maxRecDepth 20000 in
theorem gX4_wayOf_X4_isOn : GoodIn wsX4_wayOf (wsV RX4 86 RX4 yX4_isOn wsX4_isOn) := goodIn_app (goodIn_of _ (by decide +kernel)) ggX4_wayOf_X4_isOn
set_option maxRecDepth 20000 in
theorem ggX4_wayOf_X4_can : GoodIn wsX4_wayOf wsX4_can := goodIn_r _ [16, 1, 17, 18, 19, 5, 20, 21, 22, 23, 24, 25, 26, 27, 28, 29, 30, 31, 32, 2, 3, 4, 6, 33, 34, 35, 36, 37, 38, 39, 40, 41, 42, 43, 44, 45, 46, 7, 8, 9, 10, 11, 12, 47, 48, 49, 50, 51, 52, 53, 54, 55, 56, 57, 58, 59, 60, 61, 62, 63, 64, 65, 66, 67, 68, 69, 70, 71, 72, 73, 74, 75, 76] (by decide +kernel) (by decide +kernel)
set_option maxRecDepth 20000 in
theorem gX4_wayOf_X4_can : GoodIn wsX4_wayOf (wsV RX4 149 RX4 yX4_can wsX4_can) := goodIn_app (goodIn_of _ (by decide +kernel)) ggX4_wayOf_X4_can
theorem dX4_wayOf_0 : decode cX4_wayOf 0 = .ok (.iconst 0, 1) := by decide +kernel
theorem dX4_wayOf_1 : decode cX4_wayOf 1 = .ok (.istore_n 3, 1) := by decide +kernel
theorem dX4_wayOf_2 : decode cX4_wayOf 2 = .ok (.iconst 0, 1) := by decide +kernel
theorem dX4_wayOf_3 : decode cX4_wayOf 3 = .ok (.istore 4, 2) := by decide +kernel
theorem dX4_wayOf_5 : decode cX4_wayOf 5 = .ok (.iload 4, 2) := by decide +kernel
theorem dX4_wayOf_7 : decode cX4_wayOf 7 = .ok (.aload_n 0, 1) := by decide +kernel
theorem dX4_wayOf_8 : decode cX4_wayOf 8 = .ok (.getfield 69, 3) := by decide +kernel
theorem dX4_wayOf_11 : decode cX4_wayOf 11 = .ok (.iconst 1, 1) := by decide +kernel
theorem dX4_wayOf_12 : decode cX4_wayOf 12 = .ok (.isub, 1) := by decide +kernel
theorem dX4_wayOf_13 : decode cX4_wayOf 13 = .ok (.if_icmp .ge 18, 3) := by decide +kernel
theorem dX4_wayOf_16 : decode cX4_wayOf 16 = .ok (.iload_n 3, 1) := by decide +kernel
theorem dX4_wayOf_17 : decode cX4_wayOf 17 = .ok (.iload_n 2, 1) := by decide +kernel
theorem dX4_wayOf_18 : decode cX4_wayOf 18 = .ok (.iload 4, 2) := by decide +kernel
theorem dX4_wayOf_20 : decode cX4_wayOf 20 = .ok (.ishr, 1) := by decide +kernel
theorem dX4_wayOf_21 : decode cX4_wayOf 21 = .ok (.iconst 1, 1) := by decide +kernel
theorem dX4_wayOf_22 : decode cX4_wayOf 22 = .ok (.iand, 1) := by decide +kernel
theorem dX4_wayOf_23 : decode cX4_wayOf 23 = .ok (.iadd, 1) := by decide +kernel
theorem dX4_wayOf_24 : decode cX4_wayOf 24 = .ok (.istore_n 3, 1) := by decide +kernel
theorem dX4_wayOf_25 : decode cX4_wayOf 25 = .ok (.iinc 4 1, 3) := by decide +kernel
theorem dX4_wayOf_28 : decode cX4_wayOf 28 = .ok (.goto (-23), 3) := by decide +kernel
theorem dX4_wayOf_31 : decode cX4_wayOf 31 = .ok (.iload_n 3, 1) := by decide +kernel
theorem dX4_wayOf_32 : decode cX4_wayOf 32 = .ok (.aload_n 0, 1) := by decide +kernel
theorem dX4_wayOf_33 : decode cX4_wayOf 33 = .ok (.getfield 69, 3) := by decide +kernel
theorem dX4_wayOf_36 : decode cX4_wayOf 36 = .ok (.iconst 1, 1) := by decide +kernel
theorem dX4_wayOf_37 : decode cX4_wayOf 37 = .ok (.isub, 1) := by decide +kernel
theorem dX4_wayOf_38 : decode cX4_wayOf 38 = .ok (.if_icmp .ne 5, 3) := by decide +kernel
theorem dX4_wayOf_41 : decode cX4_wayOf 41 = .ok (.iconst 0, 1) := by decide +kernel
theorem dX4_wayOf_42 : decode cX4_wayOf 42 = .ok (.ireturn, 1) := by decide +kernel
theorem dX4_wayOf_43 : decode cX4_wayOf 43 = .ok (.aload_n 0, 1) := by decide +kernel
theorem dX4_wayOf_44 : decode cX4_wayOf 44 = .ok (.aload_n 0, 1) := by decide +kernel
theorem dX4_wayOf_45 : decode cX4_wayOf 45 = .ok (.iload_n 1, 1) := by decide +kernel
theorem dX4_wayOf_46 : decode cX4_wayOf 46 = .ok (.invokevirtual 78, 3) := by decide +kernel
theorem dX4_wayOf_49 : decode cX4_wayOf 49 = .ok (.iload_n 1, 1) := by decide +kernel
theorem dX4_wayOf_50 : decode cX4_wayOf 50 = .ok (.invokevirtual 86, 3) := by decide +kernel
theorem dX4_wayOf_53 : decode cX4_wayOf 53 = .ok (.ifCond .ne 5, 3) := by decide +kernel
theorem dX4_wayOf_56 : decode cX4_wayOf 56 = .ok (.iconst 1, 1) := by decide +kernel
theorem dX4_wayOf_57 : decode cX4_wayOf 57 = .ok (.ireturn, 1) := by decide +kernel
theorem dX4_wayOf_58 : decode cX4_wayOf 58 = .ok (.iload_n 3, 1) := by decide +kernel
theorem dX4_wayOf_59 : decode cX4_wayOf 59 = .ok (.iconst 1, 1) := by decide +kernel
theorem dX4_wayOf_60 : decode cX4_wayOf 60 = .ok (.iadd, 1) := by decide +kernel
theorem dX4_wayOf_61 : decode cX4_wayOf 61 = .ok (.aload_n 0, 1) := by decide +kernel
theorem dX4_wayOf_62 : decode cX4_wayOf 62 = .ok (.getfield 69, 3) := by decide +kernel
theorem dX4_wayOf_65 : decode cX4_wayOf 65 = .ok (.iconst 1, 1) := by decide +kernel
theorem dX4_wayOf_66 : decode cX4_wayOf 66 = .ok (.isub, 1) := by decide +kernel
theorem dX4_wayOf_67 : decode cX4_wayOf 67 = .ok (.iload_n 3, 1) := by decide +kernel
theorem dX4_wayOf_68 : decode cX4_wayOf 68 = .ok (.isub, 1) := by decide +kernel
theorem dX4_wayOf_69 : decode cX4_wayOf 69 = .ok (.if_icmp .gt 7, 3) := by decide +kernel
theorem dX4_wayOf_72 : decode cX4_wayOf 72 = .ok (.iconst 2, 1) := by decide +kernel
theorem dX4_wayOf_73 : decode cX4_wayOf 73 = .ok (.goto 4, 3) := by decide +kernel
theorem dX4_wayOf_76 : decode cX4_wayOf 76 = .ok (.iconst 3, 1) := by decide +kernel
theorem dX4_wayOf_77 : decode cX4_wayOf 77 = .ok (.istore 4, 2) := by decide +kernel
theorem dX4_wayOf_79 : decode cX4_wayOf 79 = .ok (.aload_n 0, 1) := by decide +kernel
theorem dX4_wayOf_80 : decode cX4_wayOf 80 = .ok (.iload_n 1, 1) := by decide +kernel
theorem dX4_wayOf_81 : decode cX4_wayOf 81 = .ok (.iload_n 2, 1) := by decide +kernel
theorem dX4_wayOf_82 : decode cX4_wayOf 82 = .ok (.iload 4, 2) := by decide +kernel
theorem dX4_wayOf_84 : decode cX4_wayOf 84 = .ok (.invokevirtual 149, 3) := by decide +kernel
theorem dX4_wayOf_87 : decode cX4_wayOf 87 = .ok (.ifCond .eq 8, 3) := by decide +kernel
theorem dX4_wayOf_90 : decode cX4_wayOf 90 = .ok (.iload 4, 2) := by decide +kernel
theorem dX4_wayOf_92 : decode cX4_wayOf 92 = .ok (.goto 24, 3) := by decide +kernel
theorem dX4_wayOf_95 : decode cX4_wayOf 95 = .ok (.aload_n 0, 1) := by decide +kernel
theorem dX4_wayOf_96 : decode cX4_wayOf 96 = .ok (.iload_n 1, 1) := by decide +kernel
theorem dX4_wayOf_97 : decode cX4_wayOf 97 = .ok (.iload_n 2, 1) := by decide +kernel
theorem dX4_wayOf_98 : decode cX4_wayOf 98 = .ok (.iconst 5, 1) := by decide +kernel
theorem dX4_wayOf_99 : decode cX4_wayOf 99 = .ok (.iload 4, 2) := by decide +kernel
theorem dX4_wayOf_101 : decode cX4_wayOf 101 = .ok (.isub, 1) := by decide +kernel
theorem dX4_wayOf_102 : decode cX4_wayOf 102 = .ok (.invokevirtual 149, 3) := by decide +kernel
theorem dX4_wayOf_105 : decode cX4_wayOf 105 = .ok (.ifCond .eq 10, 3) := by decide +kernel
theorem dX4_wayOf_108 : decode cX4_wayOf 108 = .ok (.iconst 5, 1) := by decide +kernel
theorem dX4_wayOf_109 : decode cX4_wayOf 109 = .ok (.iload 4, 2) := by decide +kernel
theorem dX4_wayOf_111 : decode cX4_wayOf 111 = .ok (.isub, 1) := by decide +kernel
theorem dX4_wayOf_112 : decode cX4_wayOf 112 = .ok (.goto 4, 3) := by decide +kernel
theorem dX4_wayOf_115 : decode cX4_wayOf 115 = .ok (.iconst (-1), 1) := by decide +kernel
theorem dX4_wayOf_116 : decode cX4_wayOf 116 = .ok (.ireturn, 1) := by decide +kernel
set_option maxRecDepth 20000 in
theorem ggX4_reads_X4_latest : GoodIn wsX4_reads wsX4_latest := goodIn_r _ [6, 7, 8, 9, 10, 11, 12, 13, 14, 15, 16, 17, 18, 19, 20, 21, 22, 23, 24, 25, 26, 27, 28, 29, 30, 31, 32, 33, 34, 35] (by decide +kernel) (by decide +kernel)
set_option maxRecDepth 20000 in
theorem gX4_reads_X4_latest : GoodIn wsX4_reads (wsV RX4 140 RX4 yX4_latest wsX4_latest) := goodIn_app (goodIn_of _ (by decide +kernel)) ggX4_reads_X4_latest
theorem dX4_reads_0 : decode cX4_reads 0 = .ok (.iload_n 3, 1) := by decide +kernel
theorem dX4_reads_1 : decode cX4_reads 1 = .ok (.iconst 2, 1) := by decide +kernel
theorem dX4_reads_2 : decode cX4_reads 2 = .ok (.if_icmp .ne 17, 3) := by decide +kernel
theorem dX4_reads_5 : decode cX4_reads 5 = .ok (.aload_n 0, 1) := by decide +kernel
theorem dX4_reads_6 : decode cX4_reads 6 = .ok (.iload_n 1, 1) := by decide +kernel
theorem dX4_reads_7 : decode cX4_reads 7 = .ok (.iconst 5, 1) := by decide +kernel
theorem dX4_reads_8 : decode cX4_reads 8 = .ok (.invokevirtual 140, 3) := by decide +kernel
theorem dX4_reads_11 : decode cX4_reads 11 = .ok (.iconst (-1), 1) := by decide +kernel
theorem dX4_reads_12 : decode cX4_reads 12 = .ok (.if_icmp .ne 7, 3) := by decide +kernel
theorem dX4_reads_15 : decode cX4_reads 15 = .ok (.iconst 1, 1) := by decide +kernel
theorem dX4_reads_16 : decode cX4_reads 16 = .ok (.goto 4, 3) := by decide +kernel
theorem dX4_reads_19 : decode cX4_reads 19 = .ok (.iconst 0, 1) := by decide +kernel
theorem dX4_reads_20 : decode cX4_reads 20 = .ok (.istore 4, 2) := by decide +kernel
theorem dX4_reads_22 : decode cX4_reads 22 = .ok (.iconst 0, 1) := by decide +kernel
theorem dX4_reads_23 : decode cX4_reads 23 = .ok (.istore 5, 2) := by decide +kernel
theorem dX4_reads_25 : decode cX4_reads 25 = .ok (.iload 5, 2) := by decide +kernel
theorem dX4_reads_27 : decode cX4_reads 27 = .ok (.aload_n 0, 1) := by decide +kernel
theorem dX4_reads_28 : decode cX4_reads 28 = .ok (.getfield 69, 3) := by decide +kernel
theorem dX4_reads_31 : decode cX4_reads 31 = .ok (.iconst 1, 1) := by decide +kernel
theorem dX4_reads_32 : decode cX4_reads 32 = .ok (.isub, 1) := by decide +kernel
theorem dX4_reads_33 : decode cX4_reads 33 = .ok (.if_icmp .ge 67, 3) := by decide +kernel
theorem dX4_reads_36 : decode cX4_reads 36 = .ok (.iload_n 3, 1) := by decide +kernel
theorem dX4_reads_37 : decode cX4_reads 37 = .ok (.iconst 1, 1) := by decide +kernel
theorem dX4_reads_38 : decode cX4_reads 38 = .ok (.if_icmp .le 62, 3) := by decide +kernel
theorem dX4_reads_41 : decode cX4_reads 41 = .ok (.iload_n 2, 1) := by decide +kernel
theorem dX4_reads_42 : decode cX4_reads 42 = .ok (.iload 5, 2) := by decide +kernel
theorem dX4_reads_44 : decode cX4_reads 44 = .ok (.ishr, 1) := by decide +kernel
theorem dX4_reads_45 : decode cX4_reads 45 = .ok (.iconst 1, 1) := by decide +kernel
theorem dX4_reads_46 : decode cX4_reads 46 = .ok (.iand, 1) := by decide +kernel
theorem dX4_reads_47 : decode cX4_reads 47 = .ok (.iconst 1, 1) := by decide +kernel
theorem dX4_reads_48 : decode cX4_reads 48 = .ok (.if_icmp .ne 7, 3) := by decide +kernel
theorem dX4_reads_51 : decode cX4_reads 51 = .ok (.iconst 1, 1) := by decide +kernel
theorem dX4_reads_52 : decode cX4_reads 52 = .ok (.goto 4, 3) := by decide +kernel
theorem dX4_reads_55 : decode cX4_reads 55 = .ok (.iconst 0, 1) := by decide +kernel
theorem dX4_reads_56 : decode cX4_reads 56 = .ok (.istore 6, 2) := by decide +kernel
theorem dX4_reads_58 : decode cX4_reads 58 = .ok (.iload 4, 2) := by decide +kernel
theorem dX4_reads_60 : decode cX4_reads 60 = .ok (.iload 6, 2) := by decide +kernel
theorem dX4_reads_62 : decode cX4_reads 62 = .ok (.iload_n 3, 1) := by decide +kernel
theorem dX4_reads_63 : decode cX4_reads 63 = .ok (.iconst 2, 1) := by decide +kernel
theorem dX4_reads_64 : decode cX4_reads 64 = .ok (.if_icmp .ne 7, 3) := by decide +kernel
theorem dX4_reads_67 : decode cX4_reads 67 = .ok (.iconst 1, 1) := by decide +kernel
theorem dX4_reads_68 : decode cX4_reads 68 = .ok (.goto 4, 3) := by decide +kernel
theorem dX4_reads_71 : decode cX4_reads 71 = .ok (.iconst 0, 1) := by decide +kernel
theorem dX4_reads_72 : decode cX4_reads 72 = .ok (.if_icmp .ne 18, 3) := by decide +kernel
theorem dX4_reads_75 : decode cX4_reads 75 = .ok (.aload_n 0, 1) := by decide +kernel
theorem dX4_reads_76 : decode cX4_reads 76 = .ok (.iload_n 1, 1) := by decide +kernel
theorem dX4_reads_77 : decode cX4_reads 77 = .ok (.iload 5, 2) := by decide +kernel
theorem dX4_reads_79 : decode cX4_reads 79 = .ok (.invokevirtual 140, 3) := by decide +kernel
theorem dX4_reads_82 : decode cX4_reads 82 = .ok (.iconst (-1), 1) := by decide +kernel
theorem dX4_reads_83 : decode cX4_reads 83 = .ok (.if_icmp .ne 7, 3) := by decide +kernel
theorem dX4_reads_86 : decode cX4_reads 86 = .ok (.iconst 1, 1) := by decide +kernel
theorem dX4_reads_87 : decode cX4_reads 87 = .ok (.goto 4, 3) := by decide +kernel
theorem dX4_reads_90 : decode cX4_reads 90 = .ok (.iconst 0, 1) := by decide +kernel
theorem dX4_reads_91 : decode cX4_reads 91 = .ok (.iadd, 1) := by decide +kernel
theorem dX4_reads_92 : decode cX4_reads 92 = .ok (.istore 4, 2) := by decide +kernel
theorem dX4_reads_94 : decode cX4_reads 94 = .ok (.iinc 5 1, 3) := by decide +kernel
theorem dX4_reads_97 : decode cX4_reads 97 = .ok (.goto (-72), 3) := by decide +kernel
theorem dX4_reads_100 : decode cX4_reads 100 = .ok (.iload 4, 2) := by decide +kernel
theorem dX4_reads_102 : decode cX4_reads 102 = .ok (.ireturn, 1) := by decide +kernel
set_option maxRecDepth 20000 in
theorem ggX4_stripeIs_X4_wayOf : GoodIn wsX4_stripeIs wsX4_wayOf := goodIn_r _ [16, 2, 17, 18, 19, 15, 20, 21, 22, 23, 24, 25, 26, 27, 28, 29, 30, 31, 32, 33, 34, 35, 36, 37, 38, 5, 9, 8, 4, 39, 40, 41, 42, 43, 44, 45, 46, 47, 48, 49, 50, 51, 52, 53, 54, 55, 56, 57, 58, 59, 60, 61, 110, 111, 112, 113, 114, 115, 116, 117, 118, 119, 120, 121, 122, 123, 124, 125, 126, 127, 128, 129, 130, 131, 132, 133, 134] (by decide +kernel) (by decide +kernel)
set_option maxRecDepth 20000 in
theorem gX4_stripeIs_X4_wayOf : GoodIn wsX4_stripeIs (wsV RX4 153 RX4 yX4_wayOf wsX4_wayOf) := goodIn_app (goodIn_of _ (by decide +kernel)) ggX4_stripeIs_X4_wayOf
set_option maxRecDepth 20000 in
theorem ggX4_stripeIs_X4_reads : GoodIn wsX4_stripeIs wsX4_reads := goodIn_r _ [65, 2, 35, 36, 37, 15, 38, 5, 9, 8, 4, 110, 111, 112, 113, 114, 115, 116, 117, 118, 119, 120, 121, 122, 123, 124, 125, 126, 127, 128, 129, 130, 131, 132, 133, 134] (by decide +kernel) (by decide +kernel)
set_option maxRecDepth 20000 in
theorem gX4_stripeIs_X4_reads : GoodIn wsX4_stripeIs (wsV RX4 156 RX4 yX4_reads wsX4_reads) := goodIn_app (goodIn_of _ (by decide +kernel)) ggX4_stripeIs_X4_reads
set_option maxRecDepth 20000 in
theorem ggX4_stripeIs_X4_newest : GoodIn wsX4_stripeIs wsX4_newest := goodIn_r _ [69, 11, 61, 35, 36, 37, 15, 38, 5, 9, 8, 4, 39, 40, 41, 42, 17, 18, 19, 20, 2, 43, 44, 45, 46, 53, 54, 55, 56, 110, 111, 112, 113, 114, 115, 116, 117, 118, 119, 120, 121, 122, 123, 124, 125, 126, 127, 128, 129, 130, 131, 132, 133, 134] (by decide +kernel) (by decide +kernel)
set_option maxRecDepth 20000 in
theorem gX4_stripeIs_X4_newest : GoodIn wsX4_stripeIs (wsV RX4 160 RX4 yX4_newest wsX4_newest) := goodIn_app (goodIn_of _ (by decide +kernel)) ggX4_stripeIs_X4_newest
set_option maxRecDepth 20000 in
theorem ggX4_stripeIs_X4_free : GoodIn wsX4_stripeIs wsX4_free := goodIn_r _ [73, 5, 74, 75, 76, 15, 77, 9, 2, 8, 110, 111, 112, 113, 114, 115, 116, 117, 118, 119, 120, 121, 122, 123, 124, 125, 126, 127, 128, 129, 130, 131, 132, 133, 134] (by decide +kernel) (by decide +kernel)
set_option maxRecDepth 20000 in
theorem gX4_stripeIs_X4_free : GoodIn wsX4_stripeIs (wsV RX4 163 RX4 yX4_free wsX4_free) := goodIn_app (goodIn_of _ (by decide +kernel)) ggX4_stripeIs_X4_free
set_option maxRecDepth 20000 in
theorem ggX4_stripeIs_X4_drained : GoodIn wsX4_stripeIs wsX4_drained := goodIn_r _ [81, 82, 6, 1, 5, 4, 8, 9, 10, 11, 74, 75, 76, 15, 77, 2, 83, 84, 85, 86, 43, 44, 45, 46, 17, 18, 19, 20, 21, 22, 23, 24, 25, 26, 87, 88, 89, 90, 91, 92, 93, 94, 95, 96, 97, 61, 51, 52, 53, 54, 55, 56, 98, 99, 100, 101, 102, 103, 104, 57, 58, 59, 60, 105, 106, 107, 108, 109, 110, 111, 112, 113, 114, 115, 116, 117, 118, 119, 120, 121, 122, 123, 124, 125, 126, 127, 128, 129, 130, 131, 132, 133, 134] (by decide +kernel) (by decide +kernel)
set_option maxRecDepth 20000 in
theorem gX4_stripeIs_X4_drained : GoodIn wsX4_stripeIs (wsV RX4 167 RX4 yX4_drained wsX4_drained) := goodIn_app (goodIn_of _ (by decide +kernel)) ggX4_stripeIs_X4_drained
set_option maxRecDepth 20000 in
theorem ggX4_stripeIs_X4_goes : GoodIn wsX4_stripeIs wsX4_goes := goodIn_r _ [101, 1, 102, 103, 104, 2, 26, 110, 111, 112, 113, 114, 115, 116, 117, 118, 119, 120, 121, 122, 123, 124, 125, 126, 127, 128, 129, 130, 131, 132, 133, 134] (by decide +kernel) (by decide +kernel)
set_option maxRecDepth 20000 in
theorem gX4_stripeIs_X4_goes : GoodIn wsX4_stripeIs (wsV RX4 110 RX4 yX4_goes wsX4_goes) := goodIn_app (goodIn_of _ (by decide +kernel)) ggX4_stripeIs_X4_goes
theorem dX4_stripeIs_0 : decode cX4_stripeIs 0 = .ok (.aload_n 0, 1) := by decide +kernel
theorem dX4_stripeIs_1 : decode cX4_stripeIs 1 = .ok (.iload_n 1, 1) := by decide +kernel
theorem dX4_stripeIs_2 : decode cX4_stripeIs 2 = .ok (.iload_n 2, 1) := by decide +kernel
theorem dX4_stripeIs_3 : decode cX4_stripeIs 3 = .ok (.invokevirtual 153, 3) := by decide +kernel
theorem dX4_stripeIs_6 : decode cX4_stripeIs 6 = .ok (.istore_n 3, 1) := by decide +kernel
theorem dX4_stripeIs_7 : decode cX4_stripeIs 7 = .ok (.iload_n 3, 1) := by decide +kernel
theorem dX4_stripeIs_8 : decode cX4_stripeIs 8 = .ok (.iconst (-1), 1) := by decide +kernel
theorem dX4_stripeIs_9 : decode cX4_stripeIs 9 = .ok (.if_icmp .ne 6, 3) := by decide +kernel
theorem dX4_stripeIs_12 : decode cX4_stripeIs 12 = .ok (.bipush (-105), 2) := by decide +kernel
theorem dX4_stripeIs_14 : decode cX4_stripeIs 14 = .ok (.ireturn, 1) := by decide +kernel
theorem dX4_stripeIs_15 : decode cX4_stripeIs 15 = .ok (.aload_n 0, 1) := by decide +kernel
theorem dX4_stripeIs_16 : decode cX4_stripeIs 16 = .ok (.getfield 60, 3) := by decide +kernel
theorem dX4_stripeIs_19 : decode cX4_stripeIs 19 = .ok (.iconst 3, 1) := by decide +kernel
theorem dX4_stripeIs_20 : decode cX4_stripeIs 20 = .ok (.dup2, 1) := by decide +kernel
theorem dX4_stripeIs_21 : decode cX4_stripeIs 21 = .ok (.iaload, 1) := by decide +kernel
theorem dX4_stripeIs_22 : decode cX4_stripeIs 22 = .ok (.aload_n 0, 1) := by decide +kernel
theorem dX4_stripeIs_23 : decode cX4_stripeIs 23 = .ok (.iload_n 1, 1) := by decide +kernel
theorem dX4_stripeIs_24 : decode cX4_stripeIs 24 = .ok (.iload_n 2, 1) := by decide +kernel
theorem dX4_stripeIs_25 : decode cX4_stripeIs 25 = .ok (.iload_n 3, 1) := by decide +kernel
theorem dX4_stripeIs_26 : decode cX4_stripeIs 26 = .ok (.invokevirtual 156, 3) := by decide +kernel
theorem dX4_stripeIs_29 : decode cX4_stripeIs 29 = .ok (.iadd, 1) := by decide +kernel
theorem dX4_stripeIs_30 : decode cX4_stripeIs 30 = .ok (.iastore, 1) := by decide +kernel
theorem dX4_stripeIs_31 : decode cX4_stripeIs 31 = .ok (.iload_n 3, 1) := by decide +kernel
theorem dX4_stripeIs_32 : decode cX4_stripeIs 32 = .ok (.iconst 1, 1) := by decide +kernel
theorem dX4_stripeIs_33 : decode cX4_stripeIs 33 = .ok (.if_icmp .eq 7, 3) := by decide +kernel
theorem dX4_stripeIs_36 : decode cX4_stripeIs 36 = .ok (.iconst 1, 1) := by decide +kernel
theorem dX4_stripeIs_37 : decode cX4_stripeIs 37 = .ok (.goto 4, 3) := by decide +kernel
theorem dX4_stripeIs_40 : decode cX4_stripeIs 40 = .ok (.iconst 0, 1) := by decide +kernel
theorem dX4_stripeIs_41 : decode cX4_stripeIs 41 = .ok (.istore 4, 2) := by decide +kernel
theorem dX4_stripeIs_43 : decode cX4_stripeIs 43 = .ok (.iconst 0, 1) := by decide +kernel
theorem dX4_stripeIs_44 : decode cX4_stripeIs 44 = .ok (.istore 5, 2) := by decide +kernel
theorem dX4_stripeIs_46 : decode cX4_stripeIs 46 = .ok (.iload 5, 2) := by decide +kernel
theorem dX4_stripeIs_48 : decode cX4_stripeIs 48 = .ok (.bipush 8, 2) := by decide +kernel
theorem dX4_stripeIs_50 : decode cX4_stripeIs 50 = .ok (.if_icmp .ge 142, 3) := by decide +kernel
theorem dX4_stripeIs_53 : decode cX4_stripeIs 53 = .ok (.iload_n 3, 1) := by decide +kernel
theorem dX4_stripeIs_54 : decode cX4_stripeIs 54 = .ok (.iconst 2, 1) := by decide +kernel
theorem dX4_stripeIs_55 : decode cX4_stripeIs 55 = .ok (.if_icmp .ne 14, 3) := by decide +kernel
theorem dX4_stripeIs_58 : decode cX4_stripeIs 58 = .ok (.aload_n 0, 1) := by decide +kernel
theorem dX4_stripeIs_59 : decode cX4_stripeIs 59 = .ok (.iload_n 1, 1) := by decide +kernel
theorem dX4_stripeIs_60 : decode cX4_stripeIs 60 = .ok (.iconst 5, 1) := by decide +kernel
theorem dX4_stripeIs_61 : decode cX4_stripeIs 61 = .ok (.iload 5, 2) := by decide +kernel
theorem dX4_stripeIs_63 : decode cX4_stripeIs 63 = .ok (.invokevirtual 160, 3) := by decide +kernel
theorem dX4_stripeIs_66 : decode cX4_stripeIs 66 = .ok (.goto 4, 3) := by decide +kernel
theorem dX4_stripeIs_69 : decode cX4_stripeIs 69 = .ok (.iconst 0, 1) := by decide +kernel
theorem dX4_stripeIs_70 : decode cX4_stripeIs 70 = .ok (.istore 6, 2) := by decide +kernel
theorem dX4_stripeIs_72 : decode cX4_stripeIs 72 = .ok (.iconst 0, 1) := by decide +kernel
theorem dX4_stripeIs_73 : decode cX4_stripeIs 73 = .ok (.istore 7, 2) := by decide +kernel
theorem dX4_stripeIs_75 : decode cX4_stripeIs 75 = .ok (.iload 7, 2) := by decide +kernel
theorem dX4_stripeIs_77 : decode cX4_stripeIs 77 = .ok (.aload_n 0, 1) := by decide +kernel
theorem dX4_stripeIs_78 : decode cX4_stripeIs 78 = .ok (.getfield 69, 3) := by decide +kernel
theorem dX4_stripeIs_81 : decode cX4_stripeIs 81 = .ok (.iconst 1, 1) := by decide +kernel
theorem dX4_stripeIs_82 : decode cX4_stripeIs 82 = .ok (.isub, 1) := by decide +kernel
theorem dX4_stripeIs_83 : decode cX4_stripeIs 83 = .ok (.if_icmp .ge 91, 3) := by decide +kernel
theorem dX4_stripeIs_86 : decode cX4_stripeIs 86 = .ok (.iload_n 2, 1) := by decide +kernel
theorem dX4_stripeIs_87 : decode cX4_stripeIs 87 = .ok (.iload 7, 2) := by decide +kernel
theorem dX4_stripeIs_89 : decode cX4_stripeIs 89 = .ok (.ishr, 1) := by decide +kernel
theorem dX4_stripeIs_90 : decode cX4_stripeIs 90 = .ok (.iconst 1, 1) := by decide +kernel
theorem dX4_stripeIs_91 : decode cX4_stripeIs 91 = .ok (.iand, 1) := by decide +kernel
theorem dX4_stripeIs_92 : decode cX4_stripeIs 92 = .ok (.iconst 1, 1) := by decide +kernel
theorem dX4_stripeIs_93 : decode cX4_stripeIs 93 = .ok (.if_icmp .ne 7, 3) := by decide +kernel
theorem dX4_stripeIs_96 : decode cX4_stripeIs 96 = .ok (.iconst 1, 1) := by decide +kernel
theorem dX4_stripeIs_97 : decode cX4_stripeIs 97 = .ok (.goto 4, 3) := by decide +kernel
theorem dX4_stripeIs_100 : decode cX4_stripeIs 100 = .ok (.iconst 0, 1) := by decide +kernel
theorem dX4_stripeIs_101 : decode cX4_stripeIs 101 = .ok (.istore 8, 2) := by decide +kernel
theorem dX4_stripeIs_103 : decode cX4_stripeIs 103 = .ok (.iload 6, 2) := by decide +kernel
theorem dX4_stripeIs_105 : decode cX4_stripeIs 105 = .ok (.iload 8, 2) := by decide +kernel
theorem dX4_stripeIs_107 : decode cX4_stripeIs 107 = .ok (.ifCond .eq 19, 3) := by decide +kernel
theorem dX4_stripeIs_110 : decode cX4_stripeIs 110 = .ok (.aload_n 0, 1) := by decide +kernel
theorem dX4_stripeIs_111 : decode cX4_stripeIs 111 = .ok (.getfield 66, 3) := by decide +kernel
theorem dX4_stripeIs_114 : decode cX4_stripeIs 114 = .ok (.bipush 8, 2) := by decide +kernel
theorem dX4_stripeIs_116 : decode cX4_stripeIs 116 = .ok (.iload 7, 2) := by decide +kernel
theorem dX4_stripeIs_118 : decode cX4_stripeIs 118 = .ok (.imul, 1) := by decide +kernel
theorem dX4_stripeIs_119 : decode cX4_stripeIs 119 = .ok (.iload 5, 2) := by decide +kernel
theorem dX4_stripeIs_121 : decode cX4_stripeIs 121 = .ok (.iadd, 1) := by decide +kernel
theorem dX4_stripeIs_122 : decode cX4_stripeIs 122 = .ok (.iaload, 1) := by decide +kernel
theorem dX4_stripeIs_123 : decode cX4_stripeIs 123 = .ok (.goto 4, 3) := by decide +kernel
theorem dX4_stripeIs_126 : decode cX4_stripeIs 126 = .ok (.iconst 0, 1) := by decide +kernel
theorem dX4_stripeIs_127 : decode cX4_stripeIs 127 = .ok (.ixor, 1) := by decide +kernel
theorem dX4_stripeIs_128 : decode cX4_stripeIs 128 = .ok (.istore 6, 2) := by decide +kernel
theorem dX4_stripeIs_130 : decode cX4_stripeIs 130 = .ok (.iload 6, 2) := by decide +kernel
theorem dX4_stripeIs_132 : decode cX4_stripeIs 132 = .ok (.iload_n 3, 1) := by decide +kernel
theorem dX4_stripeIs_133 : decode cX4_stripeIs 133 = .ok (.iconst 1, 1) := by decide +kernel
theorem dX4_stripeIs_134 : decode cX4_stripeIs 134 = .ok (.if_icmp .le 30, 3) := by decide +kernel
theorem dX4_stripeIs_137 : decode cX4_stripeIs 137 = .ok (.iload 8, 2) := by decide +kernel
theorem dX4_stripeIs_139 : decode cX4_stripeIs 139 = .ok (.iload_n 3, 1) := by decide +kernel
theorem dX4_stripeIs_140 : decode cX4_stripeIs 140 = .ok (.iconst 2, 1) := by decide +kernel
theorem dX4_stripeIs_141 : decode cX4_stripeIs 141 = .ok (.if_icmp .ne 7, 3) := by decide +kernel
theorem dX4_stripeIs_144 : decode cX4_stripeIs 144 = .ok (.iconst 1, 1) := by decide +kernel
theorem dX4_stripeIs_145 : decode cX4_stripeIs 145 = .ok (.goto 4, 3) := by decide +kernel
theorem dX4_stripeIs_148 : decode cX4_stripeIs 148 = .ok (.iconst 0, 1) := by decide +kernel
theorem dX4_stripeIs_149 : decode cX4_stripeIs 149 = .ok (.if_icmp .ne 15, 3) := by decide +kernel
theorem dX4_stripeIs_152 : decode cX4_stripeIs 152 = .ok (.aload_n 0, 1) := by decide +kernel
theorem dX4_stripeIs_153 : decode cX4_stripeIs 153 = .ok (.iload_n 1, 1) := by decide +kernel
theorem dX4_stripeIs_154 : decode cX4_stripeIs 154 = .ok (.iload 7, 2) := by decide +kernel
theorem dX4_stripeIs_156 : decode cX4_stripeIs 156 = .ok (.iload 5, 2) := by decide +kernel
theorem dX4_stripeIs_158 : decode cX4_stripeIs 158 = .ok (.invokevirtual 160, 3) := by decide +kernel
theorem dX4_stripeIs_161 : decode cX4_stripeIs 161 = .ok (.goto 4, 3) := by decide +kernel
theorem dX4_stripeIs_164 : decode cX4_stripeIs 164 = .ok (.iconst 0, 1) := by decide +kernel
theorem dX4_stripeIs_165 : decode cX4_stripeIs 165 = .ok (.ixor, 1) := by decide +kernel
theorem dX4_stripeIs_166 : decode cX4_stripeIs 166 = .ok (.istore 6, 2) := by decide +kernel
theorem dX4_stripeIs_168 : decode cX4_stripeIs 168 = .ok (.iinc 7 1, 3) := by decide +kernel
theorem dX4_stripeIs_171 : decode cX4_stripeIs 171 = .ok (.goto (-96), 3) := by decide +kernel
theorem dX4_stripeIs_174 : decode cX4_stripeIs 174 = .ok (.aload_n 0, 1) := by decide +kernel
theorem dX4_stripeIs_175 : decode cX4_stripeIs 175 = .ok (.getfield 66, 3) := by decide +kernel
theorem dX4_stripeIs_178 : decode cX4_stripeIs 178 = .ok (.bipush 40, 2) := by decide +kernel
theorem dX4_stripeIs_180 : decode cX4_stripeIs 180 = .ok (.iload 5, 2) := by decide +kernel
theorem dX4_stripeIs_182 : decode cX4_stripeIs 182 = .ok (.iadd, 1) := by decide +kernel
theorem dX4_stripeIs_183 : decode cX4_stripeIs 183 = .ok (.iload 6, 2) := by decide +kernel
theorem dX4_stripeIs_185 : decode cX4_stripeIs 185 = .ok (.iastore, 1) := by decide +kernel
theorem dX4_stripeIs_186 : decode cX4_stripeIs 186 = .ok (.iinc 5 1, 3) := by decide +kernel
theorem dX4_stripeIs_189 : decode cX4_stripeIs 189 = .ok (.goto (-143), 3) := by decide +kernel
theorem dX4_stripeIs_192 : decode cX4_stripeIs 192 = .ok (.iload 4, 2) := by decide +kernel
theorem dX4_stripeIs_194 : decode cX4_stripeIs 194 = .ok (.ifCond .eq 7, 3) := by decide +kernel
theorem dX4_stripeIs_197 : decode cX4_stripeIs 197 = .ok (.iconst 3, 1) := by decide +kernel
theorem dX4_stripeIs_198 : decode cX4_stripeIs 198 = .ok (.goto 4, 3) := by decide +kernel
theorem dX4_stripeIs_201 : decode cX4_stripeIs 201 = .ok (.iconst 2, 1) := by decide +kernel
theorem dX4_stripeIs_202 : decode cX4_stripeIs 202 = .ok (.istore 5, 2) := by decide +kernel
theorem dX4_stripeIs_204 : decode cX4_stripeIs 204 = .ok (.iconst 0, 1) := by decide +kernel
theorem dX4_stripeIs_205 : decode cX4_stripeIs 205 = .ok (.istore 6, 2) := by decide +kernel
theorem dX4_stripeIs_207 : decode cX4_stripeIs 207 = .ok (.iload 6, 2) := by decide +kernel
theorem dX4_stripeIs_209 : decode cX4_stripeIs 209 = .ok (.aload_n 0, 1) := by decide +kernel
theorem dX4_stripeIs_210 : decode cX4_stripeIs 210 = .ok (.getfield 69, 3) := by decide +kernel
theorem dX4_stripeIs_213 : decode cX4_stripeIs 213 = .ok (.iconst 1, 1) := by decide +kernel
theorem dX4_stripeIs_214 : decode cX4_stripeIs 214 = .ok (.isub, 1) := by decide +kernel
theorem dX4_stripeIs_215 : decode cX4_stripeIs 215 = .ok (.if_icmp .ge 20, 3) := by decide +kernel
theorem dX4_stripeIs_218 : decode cX4_stripeIs 218 = .ok (.iload 5, 2) := by decide +kernel
theorem dX4_stripeIs_220 : decode cX4_stripeIs 220 = .ok (.iload_n 2, 1) := by decide +kernel
theorem dX4_stripeIs_221 : decode cX4_stripeIs 221 = .ok (.iload 6, 2) := by decide +kernel
theorem dX4_stripeIs_223 : decode cX4_stripeIs 223 = .ok (.ishr, 1) := by decide +kernel
theorem dX4_stripeIs_224 : decode cX4_stripeIs 224 = .ok (.iconst 1, 1) := by decide +kernel
theorem dX4_stripeIs_225 : decode cX4_stripeIs 225 = .ok (.iand, 1) := by decide +kernel
theorem dX4_stripeIs_226 : decode cX4_stripeIs 226 = .ok (.iadd, 1) := by decide +kernel
theorem dX4_stripeIs_227 : decode cX4_stripeIs 227 = .ok (.istore 5, 2) := by decide +kernel
theorem dX4_stripeIs_229 : decode cX4_stripeIs 229 = .ok (.iinc 6 1, 3) := by decide +kernel
theorem dX4_stripeIs_232 : decode cX4_stripeIs 232 = .ok (.goto (-25), 3) := by decide +kernel
theorem dX4_stripeIs_235 : decode cX4_stripeIs 235 = .ok (.aload_n 0, 1) := by decide +kernel
theorem dX4_stripeIs_236 : decode cX4_stripeIs 236 = .ok (.invokevirtual 163, 3) := by decide +kernel
theorem dX4_stripeIs_239 : decode cX4_stripeIs 239 = .ok (.iload 5, 2) := by decide +kernel
theorem dX4_stripeIs_241 : decode cX4_stripeIs 241 = .ok (.if_icmp .ge 13, 3) := by decide +kernel
theorem dX4_stripeIs_244 : decode cX4_stripeIs 244 = .ok (.aload_n 0, 1) := by decide +kernel
theorem dX4_stripeIs_245 : decode cX4_stripeIs 245 = .ok (.invokevirtual 167, 3) := by decide +kernel
theorem dX4_stripeIs_248 : decode cX4_stripeIs 248 = .ok (.ifCond .ne (-13), 3) := by decide +kernel
theorem dX4_stripeIs_251 : decode cX4_stripeIs 251 = .ok (.bipush (-106), 2) := by decide +kernel
theorem dX4_stripeIs_253 : decode cX4_stripeIs 253 = .ok (.ireturn, 1) := by decide +kernel
theorem dX4_stripeIs_254 : decode cX4_stripeIs 254 = .ok (.iconst 0, 1) := by decide +kernel
theorem dX4_stripeIs_255 : decode cX4_stripeIs 255 = .ok (.istore 6, 2) := by decide +kernel
theorem dX4_stripeIs_257 : decode cX4_stripeIs 257 = .ok (.iload 6, 2) := by decide +kernel
theorem dX4_stripeIs_259 : decode cX4_stripeIs 259 = .ok (.iload 5, 2) := by decide +kernel
theorem dX4_stripeIs_261 : decode cX4_stripeIs 261 = .ok (.if_icmp .ge 29, 3) := by decide +kernel
theorem dX4_stripeIs_264 : decode cX4_stripeIs 264 = .ok (.aload_n 0, 1) := by decide +kernel
theorem dX4_stripeIs_265 : decode cX4_stripeIs 265 = .ok (.getfield 60, 3) := by decide +kernel
theorem dX4_stripeIs_268 : decode cX4_stripeIs 268 = .ok (.iconst 1, 1) := by decide +kernel
theorem dX4_stripeIs_269 : decode cX4_stripeIs 269 = .ok (.dup2, 1) := by decide +kernel
theorem dX4_stripeIs_270 : decode cX4_stripeIs 270 = .ok (.iaload, 1) := by decide +kernel
theorem dX4_stripeIs_271 : decode cX4_stripeIs 271 = .ok (.iconst 1, 1) := by decide +kernel
theorem dX4_stripeIs_272 : decode cX4_stripeIs 272 = .ok (.iadd, 1) := by decide +kernel
theorem dX4_stripeIs_273 : decode cX4_stripeIs 273 = .ok (.iastore, 1) := by decide +kernel
theorem dX4_stripeIs_274 : decode cX4_stripeIs 274 = .ok (.aload_n 0, 1) := by decide +kernel
theorem dX4_stripeIs_275 : decode cX4_stripeIs 275 = .ok (.invokevirtual 110, 3) := by decide +kernel
theorem dX4_stripeIs_278 : decode cX4_stripeIs 278 = .ok (.ifCond .eq 6, 3) := by decide +kernel
theorem dX4_stripeIs_281 : decode cX4_stripeIs 281 = .ok (.bipush (-106), 2) := by decide +kernel
theorem dX4_stripeIs_283 : decode cX4_stripeIs 283 = .ok (.ireturn, 1) := by decide +kernel
theorem dX4_stripeIs_284 : decode cX4_stripeIs 284 = .ok (.iinc 6 1, 3) := by decide +kernel
theorem dX4_stripeIs_287 : decode cX4_stripeIs 287 = .ok (.goto (-30), 3) := by decide +kernel
theorem dX4_stripeIs_290 : decode cX4_stripeIs 290 = .ok (.aload_n 0, 1) := by decide +kernel
theorem dX4_stripeIs_291 : decode cX4_stripeIs 291 = .ok (.getfield 33, 3) := by decide +kernel
theorem dX4_stripeIs_294 : decode cX4_stripeIs 294 = .ok (.aload_n 0, 1) := by decide +kernel
theorem dX4_stripeIs_295 : decode cX4_stripeIs 295 = .ok (.getfield 120, 3) := by decide +kernel
theorem dX4_stripeIs_298 : decode cX4_stripeIs 298 = .ok (.iload_n 1, 1) := by decide +kernel
theorem dX4_stripeIs_299 : decode cX4_stripeIs 299 = .ok (.iastore, 1) := by decide +kernel
theorem dX4_stripeIs_300 : decode cX4_stripeIs 300 = .ok (.aload_n 0, 1) := by decide +kernel
theorem dX4_stripeIs_301 : decode cX4_stripeIs 301 = .ok (.getfield 36, 3) := by decide +kernel
theorem dX4_stripeIs_304 : decode cX4_stripeIs 304 = .ok (.aload_n 0, 1) := by decide +kernel
theorem dX4_stripeIs_305 : decode cX4_stripeIs 305 = .ok (.getfield 120, 3) := by decide +kernel
theorem dX4_stripeIs_308 : decode cX4_stripeIs 308 = .ok (.aload_n 0, 1) := by decide +kernel
theorem dX4_stripeIs_309 : decode cX4_stripeIs 309 = .ok (.getfield 54, 3) := by decide +kernel
theorem dX4_stripeIs_312 : decode cX4_stripeIs 312 = .ok (.iastore, 1) := by decide +kernel
theorem dX4_stripeIs_313 : decode cX4_stripeIs 313 = .ok (.aload_n 0, 1) := by decide +kernel
theorem dX4_stripeIs_314 : decode cX4_stripeIs 314 = .ok (.getfield 39, 3) := by decide +kernel
theorem dX4_stripeIs_317 : decode cX4_stripeIs 317 = .ok (.aload_n 0, 1) := by decide +kernel
theorem dX4_stripeIs_318 : decode cX4_stripeIs 318 = .ok (.getfield 120, 3) := by decide +kernel
theorem dX4_stripeIs_321 : decode cX4_stripeIs 321 = .ok (.iload_n 2, 1) := by decide +kernel
theorem dX4_stripeIs_322 : decode cX4_stripeIs 322 = .ok (.iastore, 1) := by decide +kernel
theorem dX4_stripeIs_323 : decode cX4_stripeIs 323 = .ok (.aload_n 0, 1) := by decide +kernel
theorem dX4_stripeIs_324 : decode cX4_stripeIs 324 = .ok (.getfield 42, 3) := by decide +kernel
theorem dX4_stripeIs_327 : decode cX4_stripeIs 327 = .ok (.aload_n 0, 1) := by decide +kernel
theorem dX4_stripeIs_328 : decode cX4_stripeIs 328 = .ok (.getfield 120, 3) := by decide +kernel
theorem dX4_stripeIs_331 : decode cX4_stripeIs 331 = .ok (.iload 4, 2) := by decide +kernel
theorem dX4_stripeIs_333 : decode cX4_stripeIs 333 = .ok (.bastore, 1) := by decide +kernel
theorem dX4_stripeIs_334 : decode cX4_stripeIs 334 = .ok (.aload_n 0, 1) := by decide +kernel
theorem dX4_stripeIs_335 : decode cX4_stripeIs 335 = .ok (.getfield 45, 3) := by decide +kernel
theorem dX4_stripeIs_338 : decode cX4_stripeIs 338 = .ok (.aload_n 0, 1) := by decide +kernel
theorem dX4_stripeIs_339 : decode cX4_stripeIs 339 = .ok (.getfield 120, 3) := by decide +kernel
theorem dX4_stripeIs_342 : decode cX4_stripeIs 342 = .ok (.iload_n 3, 1) := by decide +kernel
theorem dX4_stripeIs_343 : decode cX4_stripeIs 343 = .ok (.iastore, 1) := by decide +kernel
theorem dX4_stripeIs_344 : decode cX4_stripeIs 344 = .ok (.iconst 0, 1) := by decide +kernel
theorem dX4_stripeIs_345 : decode cX4_stripeIs 345 = .ok (.istore 6, 2) := by decide +kernel
theorem dX4_stripeIs_347 : decode cX4_stripeIs 347 = .ok (.iload 6, 2) := by decide +kernel
theorem dX4_stripeIs_349 : decode cX4_stripeIs 349 = .ok (.bipush 48, 2) := by decide +kernel
theorem dX4_stripeIs_351 : decode cX4_stripeIs 351 = .ok (.if_icmp .ge 31, 3) := by decide +kernel
theorem dX4_stripeIs_354 : decode cX4_stripeIs 354 = .ok (.aload_n 0, 1) := by decide +kernel
theorem dX4_stripeIs_355 : decode cX4_stripeIs 355 = .ok (.getfield 48, 3) := by decide +kernel
theorem dX4_stripeIs_358 : decode cX4_stripeIs 358 = .ok (.bipush 48, 2) := by decide +kernel
theorem dX4_stripeIs_360 : decode cX4_stripeIs 360 = .ok (.aload_n 0, 1) := by decide +kernel
theorem dX4_stripeIs_361 : decode cX4_stripeIs 361 = .ok (.getfield 120, 3) := by decide +kernel
theorem dX4_stripeIs_364 : decode cX4_stripeIs 364 = .ok (.imul, 1) := by decide +kernel
theorem dX4_stripeIs_365 : decode cX4_stripeIs 365 = .ok (.iload 6, 2) := by decide +kernel
theorem dX4_stripeIs_367 : decode cX4_stripeIs 367 = .ok (.iadd, 1) := by decide +kernel
theorem dX4_stripeIs_368 : decode cX4_stripeIs 368 = .ok (.aload_n 0, 1) := by decide +kernel
theorem dX4_stripeIs_369 : decode cX4_stripeIs 369 = .ok (.getfield 66, 3) := by decide +kernel
theorem dX4_stripeIs_372 : decode cX4_stripeIs 372 = .ok (.iload 6, 2) := by decide +kernel
theorem dX4_stripeIs_374 : decode cX4_stripeIs 374 = .ok (.iaload, 1) := by decide +kernel
theorem dX4_stripeIs_375 : decode cX4_stripeIs 375 = .ok (.iastore, 1) := by decide +kernel
theorem dX4_stripeIs_376 : decode cX4_stripeIs 376 = .ok (.iinc 6 1, 3) := by decide +kernel
theorem dX4_stripeIs_379 : decode cX4_stripeIs 379 = .ok (.goto (-32), 3) := by decide +kernel
theorem dX4_stripeIs_382 : decode cX4_stripeIs 382 = .ok (.aload_n 0, 1) := by decide +kernel
theorem dX4_stripeIs_383 : decode cX4_stripeIs 383 = .ok (.dup, 1) := by decide +kernel
theorem dX4_stripeIs_384 : decode cX4_stripeIs 384 = .ok (.getfield 120, 3) := by decide +kernel
theorem dX4_stripeIs_387 : decode cX4_stripeIs 387 = .ok (.iconst 1, 1) := by decide +kernel
theorem dX4_stripeIs_388 : decode cX4_stripeIs 388 = .ok (.iadd, 1) := by decide +kernel
theorem dX4_stripeIs_389 : decode cX4_stripeIs 389 = .ok (.putfield 120, 3) := by decide +kernel
theorem dX4_stripeIs_392 : decode cX4_stripeIs 392 = .ok (.aload_n 0, 1) := by decide +kernel
theorem dX4_stripeIs_393 : decode cX4_stripeIs 393 = .ok (.dup, 1) := by decide +kernel
theorem dX4_stripeIs_394 : decode cX4_stripeIs 394 = .ok (.getfield 54, 3) := by decide +kernel
theorem dX4_stripeIs_397 : decode cX4_stripeIs 397 = .ok (.iconst 1, 1) := by decide +kernel
theorem dX4_stripeIs_398 : decode cX4_stripeIs 398 = .ok (.iadd, 1) := by decide +kernel
end
section
theorem dX4_stripeIs_399 : decode cX4_stripeIs 399 = .ok (.putfield 54, 3) := by decide +kernel
theorem dX4_stripeIs_402 : decode cX4_stripeIs 402 = .ok (.aload_n 0, 1) := by decide +kernel
theorem dX4_stripeIs_403 : decode cX4_stripeIs 403 = .ok (.getfield 60, 3) := by decide +kernel
theorem dX4_stripeIs_406 : decode cX4_stripeIs 406 = .ok (.iconst 4, 1) := by decide +kernel
theorem dX4_stripeIs_407 : decode cX4_stripeIs 407 = .ok (.dup2, 1) := by decide +kernel
theorem dX4_stripeIs_408 : decode cX4_stripeIs 408 = .ok (.iaload, 1) := by decide +kernel
theorem dX4_stripeIs_409 : decode cX4_stripeIs 409 = .ok (.iconst 1, 1) := by decide +kernel
theorem dX4_stripeIs_410 : decode cX4_stripeIs 410 = .ok (.iadd, 1) := by decide +kernel
theorem dX4_stripeIs_411 : decode cX4_stripeIs 411 = .ok (.iastore, 1) := by decide +kernel
theorem dX4_stripeIs_412 : decode cX4_stripeIs 412 = .ok (.aload_n 0, 1) := by decide +kernel
theorem dX4_stripeIs_413 : decode cX4_stripeIs 413 = .ok (.getfield 60, 3) := by decide +kernel
theorem dX4_stripeIs_416 : decode cX4_stripeIs 416 = .ok (.bipush 9, 2) := by decide +kernel
theorem dX4_stripeIs_418 : decode cX4_stripeIs 418 = .ok (.iload_n 3, 1) := by decide +kernel
theorem dX4_stripeIs_419 : decode cX4_stripeIs 419 = .ok (.iadd, 1) := by decide +kernel
theorem dX4_stripeIs_420 : decode cX4_stripeIs 420 = .ok (.dup2, 1) := by decide +kernel
theorem dX4_stripeIs_421 : decode cX4_stripeIs 421 = .ok (.iaload, 1) := by decide +kernel
theorem dX4_stripeIs_422 : decode cX4_stripeIs 422 = .ok (.iconst 1, 1) := by decide +kernel
theorem dX4_stripeIs_423 : decode cX4_stripeIs 423 = .ok (.iadd, 1) := by decide +kernel
theorem dX4_stripeIs_424 : decode cX4_stripeIs 424 = .ok (.iastore, 1) := by decide +kernel
theorem dX4_stripeIs_425 : decode cX4_stripeIs 425 = .ok (.iconst 0, 1) := by decide +kernel
theorem dX4_stripeIs_426 : decode cX4_stripeIs 426 = .ok (.ireturn, 1) := by decide +kernel
set_option maxRecDepth 20000 in
theorem ggX4_write_X4_isBlock : GoodIn wsX4_write wsX4_isBlock := goodIn_r _ [8, 9, 2, 10, 11, 7, 12, 122, 123, 124, 125, 126, 127, 128, 129, 130, 131, 132, 133, 134, 135, 136, 137, 138, 139, 140, 141, 142, 143, 144, 145, 146] (by decide +kernel) (by decide +kernel)
set_option maxRecDepth 20000 in
theorem gX4_write_X4_isBlock : GoodIn wsX4_write (wsV RX4 96 RX4 yX4_isBlock wsX4_isBlock) := goodIn_app (goodIn_of _ (by decide +kernel)) ggX4_write_X4_isBlock
set_option maxRecDepth 20000 in
theorem ggX4_write_X4_in : GoodIn wsX4_write wsX4_in := goodIn_r _ [12] (by decide +kernel) (by decide +kernel)
set_option maxRecDepth 20000 in
theorem gX4_write_X4_in : GoodIn wsX4_write (va_wsS RX4 74 yX4_in wsX4_in) := goodIn_app (goodIn_of _ (by decide +kernel)) ggX4_write_X4_in
set_option maxRecDepth 20000 in
theorem ggX4_write_X4_stripeIs : GoodIn wsX4_write wsX4_stripeIs := goodIn_r _ [16, 17, 2, 3, 18, 19, 20, 21, 22, 23, 24, 25, 26, 27, 28, 7, 29, 30, 31, 32, 33, 34, 35, 36, 37, 38, 39, 40, 41, 42, 43, 44, 45, 46, 47, 48, 49, 50, 51, 52, 53, 54, 55, 56, 57, 58, 59, 60, 61, 62, 63, 64, 65, 66, 67, 68, 69, 70, 71, 72, 73, 74, 75, 76, 77, 78, 79, 80, 81, 82, 83, 84, 85, 86, 87, 88, 89, 90, 91, 92, 93, 94, 95, 96, 97, 98, 99, 100, 101, 102, 103, 104, 105, 106, 107, 108, 109, 110, 111, 112, 113, 114, 115, 1, 116, 117, 118, 119, 120, 121, 122, 123, 124, 125, 126, 127, 128, 129, 130, 131, 132, 133, 134, 135, 136, 137, 138, 139, 140, 141, 142, 143, 144, 145, 146] (by decide +kernel) (by decide +kernel)
set_option maxRecDepth 20000 in
theorem gX4_write_X4_stripeIs : GoodIn wsX4_write (wsV RX4 170 RX4 yX4_stripeIs wsX4_stripeIs) := goodIn_app (goodIn_of _ (by decide +kernel)) ggX4_write_X4_stripeIs
theorem dX4_write_0 : decode cX4_write 0 = .ok (.aload_n 0, 1) := by decide +kernel
theorem dX4_write_1 : decode cX4_write 1 = .ok (.getfield 103, 3) := by decide +kernel
theorem dX4_write_4 : decode cX4_write 4 = .ok (.ifCond .eq 6, 3) := by decide +kernel
theorem dX4_write_7 : decode cX4_write 7 = .ok (.bipush (-100), 2) := by decide +kernel
theorem dX4_write_9 : decode cX4_write 9 = .ok (.ireturn, 1) := by decide +kernel
theorem dX4_write_10 : decode cX4_write 10 = .ok (.aload_n 0, 1) := by decide +kernel
theorem dX4_write_11 : decode cX4_write 11 = .ok (.iload_n 1, 1) := by decide +kernel
theorem dX4_write_12 : decode cX4_write 12 = .ok (.i2l, 1) := by decide +kernel
theorem dX4_write_13 : decode cX4_write 13 = .ok (.invokevirtual 96, 3) := by decide +kernel
theorem dX4_write_16 : decode cX4_write 16 = .ok (.ifCond .ne 6, 3) := by decide +kernel
theorem dX4_write_19 : decode cX4_write 19 = .ok (.bipush (-101), 2) := by decide +kernel
theorem dX4_write_21 : decode cX4_write 21 = .ok (.ireturn, 1) := by decide +kernel
theorem dX4_write_22 : decode cX4_write 22 = .ok (.iload_n 2, 1) := by decide +kernel
theorem dX4_write_23 : decode cX4_write 23 = .ok (.i2l, 1) := by decide +kernel
theorem dX4_write_24 : decode cX4_write 24 = .ok (.lconst 1, 1) := by decide +kernel
theorem dX4_write_25 : decode cX4_write 25 = .ok (.iconst 2, 1) := by decide +kernel
theorem dX4_write_26 : decode cX4_write 26 = .ok (.aload_n 0, 1) := by decide +kernel
theorem dX4_write_27 : decode cX4_write 27 = .ok (.getfield 69, 3) := by decide +kernel
theorem dX4_write_30 : decode cX4_write 30 = .ok (.iconst 1, 1) := by decide +kernel
theorem dX4_write_31 : decode cX4_write 31 = .ok (.isub, 1) := by decide +kernel
theorem dX4_write_32 : decode cX4_write 32 = .ok (.imul, 1) := by decide +kernel
theorem dX4_write_33 : decode cX4_write 33 = .ok (.i2l, 1) := by decide +kernel
theorem dX4_write_34 : decode cX4_write 34 = .ok (.invokestatic 74, 3) := by decide +kernel
theorem dX4_write_37 : decode cX4_write 37 = .ok (.ifCond .ne 6, 3) := by decide +kernel
theorem dX4_write_40 : decode cX4_write 40 = .ok (.bipush (-102), 2) := by decide +kernel
theorem dX4_write_42 : decode cX4_write 42 = .ok (.ireturn, 1) := by decide +kernel
theorem dX4_write_43 : decode cX4_write 43 = .ok (.aload_n 0, 1) := by decide +kernel
theorem dX4_write_44 : decode cX4_write 44 = .ok (.iload_n 1, 1) := by decide +kernel
theorem dX4_write_45 : decode cX4_write 45 = .ok (.i2l, 1) := by decide +kernel
theorem dX4_write_46 : decode cX4_write 46 = .ok (.iload_n 2, 1) := by decide +kernel
theorem dX4_write_47 : decode cX4_write 47 = .ok (.i2l, 1) := by decide +kernel
theorem dX4_write_48 : decode cX4_write 48 = .ok (.ladd, 1) := by decide +kernel
theorem dX4_write_49 : decode cX4_write 49 = .ok (.lconst 1, 1) := by decide +kernel
theorem dX4_write_50 : decode cX4_write 50 = .ok (.lsub, 1) := by decide +kernel
theorem dX4_write_51 : decode cX4_write 51 = .ok (.invokevirtual 96, 3) := by decide +kernel
theorem dX4_write_54 : decode cX4_write 54 = .ok (.ifCond .ne 6, 3) := by decide +kernel
theorem dX4_write_57 : decode cX4_write 57 = .ok (.bipush (-101), 2) := by decide +kernel
theorem dX4_write_59 : decode cX4_write 59 = .ok (.ireturn, 1) := by decide +kernel
theorem dX4_write_60 : decode cX4_write 60 = .ok (.iconst 0, 1) := by decide +kernel
theorem dX4_write_61 : decode cX4_write 61 = .ok (.istore 4, 2) := by decide +kernel
theorem dX4_write_63 : decode cX4_write 63 = .ok (.iload 4, 2) := by decide +kernel
theorem dX4_write_65 : decode cX4_write 65 = .ok (.iload_n 2, 1) := by decide +kernel
theorem dX4_write_66 : decode cX4_write 66 = .ok (.if_icmp .ge 129, 3) := by decide +kernel
theorem dX4_write_69 : decode cX4_write 69 = .ok (.iload_n 1, 1) := by decide +kernel
theorem dX4_write_70 : decode cX4_write 70 = .ok (.iload 4, 2) := by decide +kernel
theorem dX4_write_72 : decode cX4_write 72 = .ok (.iadd, 1) := by decide +kernel
theorem dX4_write_73 : decode cX4_write 73 = .ok (.aload_n 0, 1) := by decide +kernel
theorem dX4_write_74 : decode cX4_write 74 = .ok (.getfield 69, 3) := by decide +kernel
theorem dX4_write_77 : decode cX4_write 77 = .ok (.iconst 1, 1) := by decide +kernel
theorem dX4_write_78 : decode cX4_write 78 = .ok (.isub, 1) := by decide +kernel
theorem dX4_write_79 : decode cX4_write 79 = .ok (.idiv, 1) := by decide +kernel
theorem dX4_write_80 : decode cX4_write 80 = .ok (.istore 5, 2) := by decide +kernel
theorem dX4_write_82 : decode cX4_write 82 = .ok (.iconst 0, 1) := by decide +kernel
theorem dX4_write_83 : decode cX4_write 83 = .ok (.istore 6, 2) := by decide +kernel
theorem dX4_write_85 : decode cX4_write 85 = .ok (.iload 4, 2) := by decide +kernel
theorem dX4_write_87 : decode cX4_write 87 = .ok (.iload_n 2, 1) := by decide +kernel
theorem dX4_write_88 : decode cX4_write 88 = .ok (.if_icmp .ge 86, 3) := by decide +kernel
theorem dX4_write_91 : decode cX4_write 91 = .ok (.iload_n 1, 1) := by decide +kernel
theorem dX4_write_92 : decode cX4_write 92 = .ok (.iload 4, 2) := by decide +kernel
theorem dX4_write_94 : decode cX4_write 94 = .ok (.iadd, 1) := by decide +kernel
theorem dX4_write_95 : decode cX4_write 95 = .ok (.aload_n 0, 1) := by decide +kernel
theorem dX4_write_96 : decode cX4_write 96 = .ok (.getfield 69, 3) := by decide +kernel
theorem dX4_write_99 : decode cX4_write 99 = .ok (.iconst 1, 1) := by decide +kernel
theorem dX4_write_100 : decode cX4_write 100 = .ok (.isub, 1) := by decide +kernel
theorem dX4_write_101 : decode cX4_write 101 = .ok (.idiv, 1) := by decide +kernel
theorem dX4_write_102 : decode cX4_write 102 = .ok (.iload 5, 2) := by decide +kernel
theorem dX4_write_104 : decode cX4_write 104 = .ok (.if_icmp .ne 70, 3) := by decide +kernel
theorem dX4_write_107 : decode cX4_write 107 = .ok (.iload_n 1, 1) := by decide +kernel
theorem dX4_write_108 : decode cX4_write 108 = .ok (.iload 4, 2) := by decide +kernel
theorem dX4_write_110 : decode cX4_write 110 = .ok (.iadd, 1) := by decide +kernel
theorem dX4_write_111 : decode cX4_write 111 = .ok (.aload_n 0, 1) := by decide +kernel
theorem dX4_write_112 : decode cX4_write 112 = .ok (.getfield 69, 3) := by decide +kernel
theorem dX4_write_115 : decode cX4_write 115 = .ok (.iconst 1, 1) := by decide +kernel
theorem dX4_write_116 : decode cX4_write 116 = .ok (.isub, 1) := by decide +kernel
theorem dX4_write_117 : decode cX4_write 117 = .ok (.irem, 1) := by decide +kernel
theorem dX4_write_118 : decode cX4_write 118 = .ok (.istore 7, 2) := by decide +kernel
theorem dX4_write_120 : decode cX4_write 120 = .ok (.iload 6, 2) := by decide +kernel
theorem dX4_write_122 : decode cX4_write 122 = .ok (.iconst 1, 1) := by decide +kernel
theorem dX4_write_123 : decode cX4_write 123 = .ok (.iload 7, 2) := by decide +kernel
theorem dX4_write_125 : decode cX4_write 125 = .ok (.ishl, 1) := by decide +kernel
theorem dX4_write_126 : decode cX4_write 126 = .ok (.ior, 1) := by decide +kernel
theorem dX4_write_127 : decode cX4_write 127 = .ok (.istore 6, 2) := by decide +kernel
theorem dX4_write_129 : decode cX4_write 129 = .ok (.iconst 0, 1) := by decide +kernel
theorem dX4_write_130 : decode cX4_write 130 = .ok (.istore 8, 2) := by decide +kernel
theorem dX4_write_132 : decode cX4_write 132 = .ok (.iload 8, 2) := by decide +kernel
theorem dX4_write_134 : decode cX4_write 134 = .ok (.bipush 8, 2) := by decide +kernel
theorem dX4_write_136 : decode cX4_write 136 = .ok (.if_icmp .ge 32, 3) := by decide +kernel
theorem dX4_write_139 : decode cX4_write 139 = .ok (.aload_n 0, 1) := by decide +kernel
theorem dX4_write_140 : decode cX4_write 140 = .ok (.getfield 66, 3) := by decide +kernel
theorem dX4_write_143 : decode cX4_write 143 = .ok (.bipush 8, 2) := by decide +kernel
theorem dX4_write_145 : decode cX4_write 145 = .ok (.iload 7, 2) := by decide +kernel
theorem dX4_write_147 : decode cX4_write 147 = .ok (.imul, 1) := by decide +kernel
theorem dX4_write_148 : decode cX4_write 148 = .ok (.iload 8, 2) := by decide +kernel
theorem dX4_write_150 : decode cX4_write 150 = .ok (.iadd, 1) := by decide +kernel
theorem dX4_write_151 : decode cX4_write 151 = .ok (.iload_n 3, 1) := by decide +kernel
theorem dX4_write_152 : decode cX4_write 152 = .ok (.bipush 8, 2) := by decide +kernel
theorem dX4_write_154 : decode cX4_write 154 = .ok (.iload 4, 2) := by decide +kernel
theorem dX4_write_156 : decode cX4_write 156 = .ok (.imul, 1) := by decide +kernel
theorem dX4_write_157 : decode cX4_write 157 = .ok (.iadd, 1) := by decide +kernel
theorem dX4_write_158 : decode cX4_write 158 = .ok (.iload 8, 2) := by decide +kernel
theorem dX4_write_160 : decode cX4_write 160 = .ok (.iadd, 1) := by decide +kernel
theorem dX4_write_161 : decode cX4_write 161 = .ok (.iastore, 1) := by decide +kernel
theorem dX4_write_162 : decode cX4_write 162 = .ok (.iinc 8 1, 3) := by decide +kernel
theorem dX4_write_165 : decode cX4_write 165 = .ok (.goto (-33), 3) := by decide +kernel
theorem dX4_write_168 : decode cX4_write 168 = .ok (.iinc 4 1, 3) := by decide +kernel
theorem dX4_write_171 : decode cX4_write 171 = .ok (.goto (-86), 3) := by decide +kernel
theorem dX4_write_174 : decode cX4_write 174 = .ok (.aload_n 0, 1) := by decide +kernel
theorem dX4_write_175 : decode cX4_write 175 = .ok (.iload 5, 2) := by decide +kernel
theorem dX4_write_177 : decode cX4_write 177 = .ok (.iload 6, 2) := by decide +kernel
theorem dX4_write_179 : decode cX4_write 179 = .ok (.invokevirtual 170, 3) := by decide +kernel
theorem dX4_write_182 : decode cX4_write 182 = .ok (.istore 7, 2) := by decide +kernel
theorem dX4_write_184 : decode cX4_write 184 = .ok (.iload 7, 2) := by decide +kernel
theorem dX4_write_186 : decode cX4_write 186 = .ok (.ifCond .eq 6, 3) := by decide +kernel
theorem dX4_write_189 : decode cX4_write 189 = .ok (.iload 7, 2) := by decide +kernel
theorem dX4_write_191 : decode cX4_write 191 = .ok (.ireturn, 1) := by decide +kernel
theorem dX4_write_192 : decode cX4_write 192 = .ok (.goto (-129), 3) := by decide +kernel
theorem dX4_write_195 : decode cX4_write 195 = .ok (.iload_n 2, 1) := by decide +kernel
theorem dX4_write_196 : decode cX4_write 196 = .ok (.ireturn, 1) := by decide +kernel
set_option maxRecDepth 20000 in
theorem ggX4_from_X4_latest : GoodIn wsX4_from wsX4_latest := goodIn_r _ [6, 7, 8, 9, 10, 44, 45, 46, 47, 48, 49, 50, 51, 52, 53, 54, 55, 56, 57, 58, 59, 60, 61, 62, 63, 64, 65, 66, 67, 68] (by decide +kernel) (by decide +kernel)
set_option maxRecDepth 20000 in
theorem gX4_from_X4_latest : GoodIn wsX4_from (wsV RX4 140 RX4 yX4_latest wsX4_latest) := goodIn_app (goodIn_of _ (by decide +kernel)) ggX4_from_X4_latest
set_option maxRecDepth 20000 in
theorem ggX4_from_X4_memberOf : GoodIn wsX4_from wsX4_memberOf := goodIn_r _ [14, 1, 15, 16, 17, 5, 18, 44, 45, 46, 47, 48, 49, 50, 51, 52, 53, 54, 55, 56, 57, 58, 59, 60, 61, 62, 63, 64, 65, 66, 67, 68] (by decide +kernel) (by decide +kernel)
set_option maxRecDepth 20000 in
theorem gX4_from_X4_memberOf : GoodIn wsX4_from (wsV RX4 100 RX4 yX4_memberOf wsX4_memberOf) := goodIn_app (goodIn_of _ (by decide +kernel)) ggX4_from_X4_memberOf
set_option maxRecDepth 20000 in
theorem ggX4_from_X4_isThere : GoodIn wsX4_from wsX4_isThere := goodIn_r _ [22, 23, 24, 25, 26, 27, 5, 28, 29, 30, 31, 32, 33, 34, 35, 36, 37, 38, 39, 44, 45, 46, 47, 48, 49, 50, 51, 52, 53, 54, 55, 56, 57, 58, 59, 60, 61, 62, 63, 64, 65, 66, 67, 68] (by decide +kernel) (by decide +kernel)
set_option maxRecDepth 20000 in
theorem gX4_from_X4_isThere : GoodIn wsX4_from (wsV RX4 93 RX4 yX4_isThere wsX4_isThere) := goodIn_app (goodIn_of _ (by decide +kernel)) ggX4_from_X4_isThere
set_option maxRecDepth 20000 in
theorem ggX4_from_X4_othersThere : GoodIn wsX4_from wsX4_othersThere := goodIn_r _ [43, 1, 19, 20, 21, 5, 22, 23, 24, 25, 26, 27, 28, 29, 30, 31, 32, 33, 34, 35, 36, 37, 38, 39, 44, 45, 46, 47, 48, 49, 50, 51, 52, 53, 54, 55, 56, 57, 58, 59, 60, 61, 62, 63, 64, 65, 66, 67, 68] (by decide +kernel) (by decide +kernel)
set_option maxRecDepth 20000 in
theorem gX4_from_X4_othersThere : GoodIn wsX4_from (wsV RX4 173 RX4 yX4_othersThere wsX4_othersThere) := goodIn_app (goodIn_of _ (by decide +kernel)) ggX4_from_X4_othersThere
theorem dX4_from_0 : decode cX4_from 0 = .ok (.iload_n 1, 1) := by decide +kernel
theorem dX4_from_1 : decode cX4_from 1 = .ok (.aload_n 0, 1) := by decide +kernel
theorem dX4_from_2 : decode cX4_from 2 = .ok (.getfield 69, 3) := by decide +kernel
theorem dX4_from_5 : decode cX4_from 5 = .ok (.iconst 1, 1) := by decide +kernel
theorem dX4_from_6 : decode cX4_from 6 = .ok (.isub, 1) := by decide +kernel
theorem dX4_from_7 : decode cX4_from 7 = .ok (.idiv, 1) := by decide +kernel
theorem dX4_from_8 : decode cX4_from 8 = .ok (.istore_n 2, 1) := by decide +kernel
theorem dX4_from_9 : decode cX4_from 9 = .ok (.iload_n 1, 1) := by decide +kernel
theorem dX4_from_10 : decode cX4_from 10 = .ok (.aload_n 0, 1) := by decide +kernel
theorem dX4_from_11 : decode cX4_from 11 = .ok (.getfield 69, 3) := by decide +kernel
theorem dX4_from_14 : decode cX4_from 14 = .ok (.iconst 1, 1) := by decide +kernel
theorem dX4_from_15 : decode cX4_from 15 = .ok (.isub, 1) := by decide +kernel
theorem dX4_from_16 : decode cX4_from 16 = .ok (.irem, 1) := by decide +kernel
theorem dX4_from_17 : decode cX4_from 17 = .ok (.istore_n 3, 1) := by decide +kernel
theorem dX4_from_18 : decode cX4_from 18 = .ok (.aload_n 0, 1) := by decide +kernel
theorem dX4_from_19 : decode cX4_from 19 = .ok (.iload_n 2, 1) := by decide +kernel
theorem dX4_from_20 : decode cX4_from 20 = .ok (.iload_n 3, 1) := by decide +kernel
theorem dX4_from_21 : decode cX4_from 21 = .ok (.invokevirtual 140, 3) := by decide +kernel
theorem dX4_from_24 : decode cX4_from 24 = .ok (.iconst (-1), 1) := by decide +kernel
theorem dX4_from_25 : decode cX4_from 25 = .ok (.if_icmp .eq 5, 3) := by decide +kernel
theorem dX4_from_28 : decode cX4_from 28 = .ok (.iconst 1, 1) := by decide +kernel
theorem dX4_from_29 : decode cX4_from 29 = .ok (.ireturn, 1) := by decide +kernel
theorem dX4_from_30 : decode cX4_from 30 = .ok (.aload_n 0, 1) := by decide +kernel
theorem dX4_from_31 : decode cX4_from 31 = .ok (.iload_n 2, 1) := by decide +kernel
theorem dX4_from_32 : decode cX4_from 32 = .ok (.iload_n 3, 1) := by decide +kernel
theorem dX4_from_33 : decode cX4_from 33 = .ok (.invokevirtual 100, 3) := by decide +kernel
theorem dX4_from_36 : decode cX4_from 36 = .ok (.istore 4, 2) := by decide +kernel
theorem dX4_from_38 : decode cX4_from 38 = .ok (.aload_n 0, 1) := by decide +kernel
theorem dX4_from_39 : decode cX4_from 39 = .ok (.iload 4, 2) := by decide +kernel
theorem dX4_from_41 : decode cX4_from 41 = .ok (.iload_n 2, 1) := by decide +kernel
theorem dX4_from_42 : decode cX4_from 42 = .ok (.invokevirtual 93, 3) := by decide +kernel
theorem dX4_from_45 : decode cX4_from 45 = .ok (.ifCond .eq 7, 3) := by decide +kernel
theorem dX4_from_48 : decode cX4_from 48 = .ok (.iconst 0, 1) := by decide +kernel
theorem dX4_from_49 : decode cX4_from 49 = .ok (.goto 18, 3) := by decide +kernel
theorem dX4_from_52 : decode cX4_from 52 = .ok (.aload_n 0, 1) := by decide +kernel
theorem dX4_from_53 : decode cX4_from 53 = .ok (.iload 4, 2) := by decide +kernel
theorem dX4_from_55 : decode cX4_from 55 = .ok (.iload_n 2, 1) := by decide +kernel
theorem dX4_from_56 : decode cX4_from 56 = .ok (.invokevirtual 173, 3) := by decide +kernel
theorem dX4_from_59 : decode cX4_from 59 = .ok (.ifCond .eq 7, 3) := by decide +kernel
theorem dX4_from_62 : decode cX4_from 62 = .ok (.iconst 2, 1) := by decide +kernel
theorem dX4_from_63 : decode cX4_from 63 = .ok (.goto 4, 3) := by decide +kernel
theorem dX4_from_66 : decode cX4_from 66 = .ok (.iconst 3, 1) := by decide +kernel
theorem dX4_from_67 : decode cX4_from 67 = .ok (.ireturn, 1) := by decide +kernel
set_option maxRecDepth 20000 in
theorem ggX4_look_X4_isBlock : GoodIn wsX4_look wsX4_isBlock := goodIn_r _ [6, 7, 8, 9, 10, 5, 11, 57, 58, 59, 60, 61, 62, 63, 64, 65, 66, 67, 68, 69, 70, 71, 72, 73, 74, 75, 76, 77, 78, 79, 80, 81] (by decide +kernel) (by decide +kernel)
set_option maxRecDepth 20000 in
theorem gX4_look_X4_isBlock : GoodIn wsX4_look (wsV RX4 96 RX4 yX4_isBlock wsX4_isBlock) := goodIn_app (goodIn_of _ (by decide +kernel)) ggX4_look_X4_isBlock
set_option maxRecDepth 20000 in
theorem ggX4_look_X4_from : GoodIn wsX4_look wsX4_from := goodIn_r _ [15, 8, 16, 17, 18, 5, 19, 20, 21, 22, 23, 24, 25, 26, 27, 28, 29, 30, 31, 32, 33, 34, 35, 36, 37, 38, 39, 40, 41, 42, 43, 44, 45, 46, 47, 48, 49, 50, 51, 52, 53, 54, 55, 56, 57, 58, 59, 60, 61, 62, 63, 64, 65, 66, 67, 68, 69, 70, 71, 72, 73, 74, 75, 76, 77, 78, 79, 80, 81] (by decide +kernel) (by decide +kernel)
set_option maxRecDepth 20000 in
theorem gX4_look_X4_from : GoodIn wsX4_look (wsV RX4 176 RX4 yX4_from wsX4_from) := goodIn_app (goodIn_of _ (by decide +kernel)) ggX4_look_X4_from
theorem dX4_look_0 : decode cX4_look 0 = .ok (.aload_n 0, 1) := by decide +kernel
theorem dX4_look_1 : decode cX4_look 1 = .ok (.getfield 103, 3) := by decide +kernel
theorem dX4_look_4 : decode cX4_look 4 = .ok (.ifCond .eq 8, 3) := by decide +kernel
theorem dX4_look_7 : decode cX4_look 7 = .ok (.bipush (-100), 2) := by decide +kernel
theorem dX4_look_9 : decode cX4_look 9 = .ok (.goto 22, 3) := by decide +kernel
theorem dX4_look_12 : decode cX4_look 12 = .ok (.aload_n 0, 1) := by decide +kernel
theorem dX4_look_13 : decode cX4_look 13 = .ok (.iload_n 1, 1) := by decide +kernel
theorem dX4_look_14 : decode cX4_look 14 = .ok (.i2l, 1) := by decide +kernel
theorem dX4_look_15 : decode cX4_look 15 = .ok (.invokevirtual 96, 3) := by decide +kernel
theorem dX4_look_18 : decode cX4_look 18 = .ok (.ifCond .eq 11, 3) := by decide +kernel
theorem dX4_look_21 : decode cX4_look 21 = .ok (.aload_n 0, 1) := by decide +kernel
theorem dX4_look_22 : decode cX4_look 22 = .ok (.iload_n 1, 1) := by decide +kernel
theorem dX4_look_23 : decode cX4_look 23 = .ok (.invokevirtual 176, 3) := by decide +kernel
theorem dX4_look_26 : decode cX4_look 26 = .ok (.goto 5, 3) := by decide +kernel
theorem dX4_look_29 : decode cX4_look 29 = .ok (.bipush (-101), 2) := by decide +kernel
theorem dX4_look_31 : decode cX4_look 31 = .ok (.ireturn, 1) := by decide +kernel
set_option maxRecDepth 20000 in
theorem ggX4_word_X4_isBlock : GoodIn wsX4_word wsX4_isBlock := goodIn_r _ [9, 10, 4, 11, 12, 8, 13, 72, 73, 74, 75, 76, 77, 78, 79, 80, 81, 82, 83, 84, 85, 86, 87, 88, 89, 90, 91, 92, 93, 94, 95, 96] (by decide +kernel) (by decide +kernel)
set_option maxRecDepth 20000 in
theorem gX4_word_X4_isBlock : GoodIn wsX4_word (wsV RX4 96 RX4 yX4_isBlock wsX4_isBlock) := goodIn_app (goodIn_of _ (by decide +kernel)) ggX4_word_X4_isBlock
set_option maxRecDepth 20000 in
theorem ggX4_word_X4_in : GoodIn wsX4_word wsX4_in := goodIn_r _ [13] (by decide +kernel) (by decide +kernel)
set_option maxRecDepth 20000 in
theorem gX4_word_X4_in : GoodIn wsX4_word (va_wsS RX4 74 yX4_in wsX4_in) := goodIn_app (goodIn_of _ (by decide +kernel)) ggX4_word_X4_in
set_option maxRecDepth 20000 in
theorem ggX4_word_X4_from : GoodIn wsX4_word wsX4_from := goodIn_r _ [17, 4, 18, 19, 20, 8, 21, 22, 23, 24, 25, 26, 27, 28, 29, 30, 31, 32, 33, 34, 35, 36, 37, 38, 39, 40, 41, 42, 43, 44, 45, 46, 47, 48, 49, 50, 51, 52, 53, 54, 55, 56, 57, 58, 72, 73, 74, 75, 76, 77, 78, 79, 80, 81, 82, 83, 84, 85, 86, 87, 88, 89, 90, 91, 92, 93, 94, 95, 96] (by decide +kernel) (by decide +kernel)
set_option maxRecDepth 20000 in
theorem gX4_word_X4_from : GoodIn wsX4_word (wsV RX4 176 RX4 yX4_from wsX4_from) := goodIn_app (goodIn_of _ (by decide +kernel)) ggX4_word_X4_from
set_option maxRecDepth 20000 in
theorem ggX4_word_X4_memberOf : GoodIn wsX4_word wsX4_memberOf := goodIn_r _ [29, 4, 30, 31, 32, 8, 33, 72, 73, 74, 75, 76, 77, 78, 79, 80, 81, 82, 83, 84, 85, 86, 87, 88, 89, 90, 91, 92, 93, 94, 95, 96] (by decide +kernel) (by decide +kernel)
set_option maxRecDepth 20000 in
theorem gX4_word_X4_memberOf : GoodIn wsX4_word (wsV RX4 100 RX4 yX4_memberOf wsX4_memberOf) := goodIn_app (goodIn_of _ (by decide +kernel)) ggX4_word_X4_memberOf
set_option maxRecDepth 20000 in
theorem ggX4_word_X4_others : GoodIn wsX4_word wsX4_others := goodIn_r _ [62, 4, 54, 40, 41, 42, 8, 43, 72, 73, 74, 75, 76, 77, 78, 79, 80, 81, 82, 83, 84, 85, 86, 87, 88, 89, 90, 91, 92, 93, 94, 95, 96] (by decide +kernel) (by decide +kernel)
set_option maxRecDepth 20000 in
theorem gX4_word_X4_others : GoodIn wsX4_word (wsV RX4 181 RX4 yX4_others wsX4_others) := goodIn_app (goodIn_of _ (by decide +kernel)) ggX4_word_X4_others
set_option maxRecDepth 20000 in
theorem ggX4_word_X4_newest : GoodIn wsX4_word wsX4_newest := goodIn_r _ [66, 67, 54, 18, 19, 20, 8, 21, 22, 23, 24, 25, 68, 69, 70, 71, 30, 31, 32, 33, 4, 26, 27, 28, 29, 40, 41, 42, 43, 72, 73, 74, 75, 76, 77, 78, 79, 80, 81, 82, 83, 84, 85, 86, 87, 88, 89, 90, 91, 92, 93, 94, 95, 96] (by decide +kernel) (by decide +kernel)
set_option maxRecDepth 20000 in
theorem gX4_word_X4_newest : GoodIn wsX4_word (wsV RX4 160 RX4 yX4_newest wsX4_newest) := goodIn_app (goodIn_of _ (by decide +kernel)) ggX4_word_X4_newest
theorem dX4_word_0 : decode cX4_word 0 = .ok (.aload_n 0, 1) := by decide +kernel
theorem dX4_word_1 : decode cX4_word 1 = .ok (.aload_n 0, 1) := by decide +kernel
theorem dX4_word_2 : decode cX4_word 2 = .ok (.iload_n 1, 1) := by decide +kernel
theorem dX4_word_3 : decode cX4_word 3 = .ok (.i2l, 1) := by decide +kernel
theorem dX4_word_4 : decode cX4_word 4 = .ok (.invokevirtual 96, 3) := by decide +kernel
theorem dX4_word_7 : decode cX4_word 7 = .ok (.ifCond .eq 15, 3) := by decide +kernel
theorem dX4_word_10 : decode cX4_word 10 = .ok (.iload_n 2, 1) := by decide +kernel
theorem dX4_word_11 : decode cX4_word 11 = .ok (.i2l, 1) := by decide +kernel
theorem dX4_word_12 : decode cX4_word 12 = .ok (.lconst 0, 1) := by decide +kernel
theorem dX4_word_13 : decode cX4_word 13 = .ok (.ldc2_w 179, 3) := by decide +kernel
theorem dX4_word_16 : decode cX4_word 16 = .ok (.invokestatic 74, 3) := by decide +kernel
theorem dX4_word_19 : decode cX4_word 19 = .ok (.ifCond .ne 7, 3) := by decide +kernel
theorem dX4_word_22 : decode cX4_word 22 = .ok (.iconst 1, 1) := by decide +kernel
theorem dX4_word_23 : decode cX4_word 23 = .ok (.goto 24, 3) := by decide +kernel
theorem dX4_word_26 : decode cX4_word 26 = .ok (.aload_n 0, 1) := by decide +kernel
theorem dX4_word_27 : decode cX4_word 27 = .ok (.getfield 103, 3) := by decide +kernel
theorem dX4_word_30 : decode cX4_word 30 = .ok (.ifCond .ne 12, 3) := by decide +kernel
theorem dX4_word_33 : decode cX4_word 33 = .ok (.aload_n 0, 1) := by decide +kernel
theorem dX4_word_34 : decode cX4_word 34 = .ok (.iload_n 1, 1) := by decide +kernel
theorem dX4_word_35 : decode cX4_word 35 = .ok (.invokevirtual 176, 3) := by decide +kernel
theorem dX4_word_38 : decode cX4_word 38 = .ok (.iconst 3, 1) := by decide +kernel
theorem dX4_word_39 : decode cX4_word 39 = .ok (.if_icmp .ne 7, 3) := by decide +kernel
theorem dX4_word_42 : decode cX4_word 42 = .ok (.iconst 2, 1) := by decide +kernel
theorem dX4_word_43 : decode cX4_word 43 = .ok (.goto 4, 3) := by decide +kernel
theorem dX4_word_46 : decode cX4_word 46 = .ok (.iconst 0, 1) := by decide +kernel
theorem dX4_word_47 : decode cX4_word 47 = .ok (.putfield 1, 3) := by decide +kernel
theorem dX4_word_50 : decode cX4_word 50 = .ok (.aload_n 0, 1) := by decide +kernel
theorem dX4_word_51 : decode cX4_word 51 = .ok (.getfield 1, 3) := by decide +kernel
theorem dX4_word_54 : decode cX4_word 54 = .ok (.ifCond .le 5, 3) := by decide +kernel
theorem dX4_word_57 : decode cX4_word 57 = .ok (.iconst 0, 1) := by decide +kernel
theorem dX4_word_58 : decode cX4_word 58 = .ok (.ireturn, 1) := by decide +kernel
theorem dX4_word_59 : decode cX4_word 59 = .ok (.iload_n 1, 1) := by decide +kernel
theorem dX4_word_60 : decode cX4_word 60 = .ok (.aload_n 0, 1) := by decide +kernel
theorem dX4_word_61 : decode cX4_word 61 = .ok (.getfield 69, 3) := by decide +kernel
theorem dX4_word_64 : decode cX4_word 64 = .ok (.iconst 1, 1) := by decide +kernel
theorem dX4_word_65 : decode cX4_word 65 = .ok (.isub, 1) := by decide +kernel
theorem dX4_word_66 : decode cX4_word 66 = .ok (.idiv, 1) := by decide +kernel
theorem dX4_word_67 : decode cX4_word 67 = .ok (.istore_n 3, 1) := by decide +kernel
theorem dX4_word_68 : decode cX4_word 68 = .ok (.iload_n 1, 1) := by decide +kernel
theorem dX4_word_69 : decode cX4_word 69 = .ok (.aload_n 0, 1) := by decide +kernel
theorem dX4_word_70 : decode cX4_word 70 = .ok (.getfield 69, 3) := by decide +kernel
theorem dX4_word_73 : decode cX4_word 73 = .ok (.iconst 1, 1) := by decide +kernel
theorem dX4_word_74 : decode cX4_word 74 = .ok (.isub, 1) := by decide +kernel
theorem dX4_word_75 : decode cX4_word 75 = .ok (.irem, 1) := by decide +kernel
theorem dX4_word_76 : decode cX4_word 76 = .ok (.istore 4, 2) := by decide +kernel
theorem dX4_word_78 : decode cX4_word 78 = .ok (.aload_n 0, 1) := by decide +kernel
theorem dX4_word_79 : decode cX4_word 79 = .ok (.iload_n 1, 1) := by decide +kernel
theorem dX4_word_80 : decode cX4_word 80 = .ok (.invokevirtual 176, 3) := by decide +kernel
theorem dX4_word_83 : decode cX4_word 83 = .ok (.iconst 2, 1) := by decide +kernel
theorem dX4_word_84 : decode cX4_word 84 = .ok (.if_icmp .ne 19, 3) := by decide +kernel
theorem dX4_word_87 : decode cX4_word 87 = .ok (.aload_n 0, 1) := by decide +kernel
theorem dX4_word_88 : decode cX4_word 88 = .ok (.aload_n 0, 1) := by decide +kernel
theorem dX4_word_89 : decode cX4_word 89 = .ok (.iload_n 3, 1) := by decide +kernel
theorem dX4_word_90 : decode cX4_word 90 = .ok (.iload 4, 2) := by decide +kernel
theorem dX4_word_92 : decode cX4_word 92 = .ok (.invokevirtual 100, 3) := by decide +kernel
theorem dX4_word_95 : decode cX4_word 95 = .ok (.iload_n 3, 1) := by decide +kernel
theorem dX4_word_96 : decode cX4_word 96 = .ok (.iload_n 2, 1) := by decide +kernel
theorem dX4_word_97 : decode cX4_word 97 = .ok (.invokevirtual 181, 3) := by decide +kernel
theorem dX4_word_100 : decode cX4_word 100 = .ok (.goto 11, 3) := by decide +kernel
theorem dX4_word_103 : decode cX4_word 103 = .ok (.aload_n 0, 1) := by decide +kernel
theorem dX4_word_104 : decode cX4_word 104 = .ok (.iload_n 3, 1) := by decide +kernel
theorem dX4_word_105 : decode cX4_word 105 = .ok (.iload 4, 2) := by decide +kernel
theorem dX4_word_107 : decode cX4_word 107 = .ok (.iload_n 2, 1) := by decide +kernel
theorem dX4_word_108 : decode cX4_word 108 = .ok (.invokevirtual 160, 3) := by decide +kernel
theorem dX4_word_111 : decode cX4_word 111 = .ok (.ireturn, 1) := by decide +kernel
set_option maxRecDepth 20000 in
theorem ggX4_others_X4_at : GoodIn wsX4_others wsX4_at := goodIn_r _ [7] (by decide +kernel) (by decide +kernel)
set_option maxRecDepth 20000 in
theorem gX4_others_X4_at : GoodIn wsX4_others (wsV RX4 82 RX4 yX4_at wsX4_at) := goodIn_app (goodIn_of _ (by decide +kernel)) ggX4_others_X4_at
theorem dX4_others_0 : decode cX4_others 0 = .ok (.iconst 0, 1) := by decide +kernel
theorem dX4_others_1 : decode cX4_others 1 = .ok (.istore 4, 2) := by decide +kernel
theorem dX4_others_3 : decode cX4_others 3 = .ok (.iconst 0, 1) := by decide +kernel
theorem dX4_others_4 : decode cX4_others 4 = .ok (.istore 5, 2) := by decide +kernel
theorem dX4_others_6 : decode cX4_others 6 = .ok (.iload 5, 2) := by decide +kernel
theorem dX4_others_8 : decode cX4_others 8 = .ok (.aload_n 0, 1) := by decide +kernel
theorem dX4_others_9 : decode cX4_others 9 = .ok (.getfield 69, 3) := by decide +kernel
theorem dX4_others_12 : decode cX4_others 12 = .ok (.if_icmp .ge 41, 3) := by decide +kernel
theorem dX4_others_15 : decode cX4_others 15 = .ok (.iload 4, 2) := by decide +kernel
theorem dX4_others_17 : decode cX4_others 17 = .ok (.iload 5, 2) := by decide +kernel
theorem dX4_others_19 : decode cX4_others 19 = .ok (.iload_n 1, 1) := by decide +kernel
theorem dX4_others_20 : decode cX4_others 20 = .ok (.if_icmp .ne 7, 3) := by decide +kernel
theorem dX4_others_23 : decode cX4_others 23 = .ok (.iconst 0, 1) := by decide +kernel
theorem dX4_others_24 : decode cX4_others 24 = .ok (.goto 20, 3) := by decide +kernel
theorem dX4_others_27 : decode cX4_others 27 = .ok (.aload_n 0, 1) := by decide +kernel
theorem dX4_others_28 : decode cX4_others 28 = .ok (.getfield 13, 3) := by decide +kernel
theorem dX4_others_31 : decode cX4_others 31 = .ok (.bipush 8, 2) := by decide +kernel
theorem dX4_others_33 : decode cX4_others 33 = .ok (.aload_n 0, 1) := by decide +kernel
theorem dX4_others_34 : decode cX4_others 34 = .ok (.iload 5, 2) := by decide +kernel
theorem dX4_others_36 : decode cX4_others 36 = .ok (.iload_n 2, 1) := by decide +kernel
theorem dX4_others_37 : decode cX4_others 37 = .ok (.invokevirtual 82, 3) := by decide +kernel
theorem dX4_others_40 : decode cX4_others 40 = .ok (.imul, 1) := by decide +kernel
theorem dX4_others_41 : decode cX4_others 41 = .ok (.iload_n 3, 1) := by decide +kernel
theorem dX4_others_42 : decode cX4_others 42 = .ok (.iadd, 1) := by decide +kernel
theorem dX4_others_43 : decode cX4_others 43 = .ok (.iaload, 1) := by decide +kernel
theorem dX4_others_44 : decode cX4_others 44 = .ok (.ixor, 1) := by decide +kernel
theorem dX4_others_45 : decode cX4_others 45 = .ok (.istore 4, 2) := by decide +kernel
theorem dX4_others_47 : decode cX4_others 47 = .ok (.iinc 5 1, 3) := by decide +kernel
theorem dX4_others_50 : decode cX4_others 50 = .ok (.goto (-44), 3) := by decide +kernel
theorem dX4_others_53 : decode cX4_others 53 = .ok (.iload 4, 2) := by decide +kernel
theorem dX4_others_55 : decode cX4_others 55 = .ok (.ireturn, 1) := by decide +kernel
set_option maxRecDepth 20000 in
theorem ggX4_drain_X4_in : GoodIn wsX4_drain wsX4_in := goodIn_r _ [7] (by decide +kernel) (by decide +kernel)
set_option maxRecDepth 20000 in
theorem gX4_drain_X4_in : GoodIn wsX4_drain (va_wsS RX4 74 yX4_in wsX4_in) := goodIn_app (goodIn_of _ (by decide +kernel)) ggX4_drain_X4_in
set_option maxRecDepth 20000 in
theorem ggX4_drain_X4_drained : GoodIn wsX4_drain wsX4_drained := goodIn_r _ [11, 12, 13, 14, 3, 15, 16, 17, 18, 19, 20, 21, 22, 6, 23, 24, 25, 26, 27, 28, 29, 30, 31, 32, 33, 34, 35, 36, 37, 38, 39, 40, 41, 42, 43, 44, 45, 46, 47, 48, 49, 50, 51, 52, 53, 54, 55, 56, 57, 58, 59, 60, 61, 62, 63, 64, 65, 1, 66, 67, 68, 69, 70, 71, 72, 73, 74, 75, 76, 77, 78, 79, 80, 81, 82, 83, 84, 85, 86, 87, 88, 89, 90, 91, 92, 93, 94, 95, 96, 97, 98, 99, 100] (by decide +kernel) (by decide +kernel)
set_option maxRecDepth 20000 in
theorem gX4_drain_X4_drained : GoodIn wsX4_drain (wsV RX4 167 RX4 yX4_drained wsX4_drained) := goodIn_app (goodIn_of _ (by decide +kernel)) ggX4_drain_X4_drained
theorem dX4_drain_0 : decode cX4_drain 0 = .ok (.aload_n 0, 1) := by decide +kernel
theorem dX4_drain_1 : decode cX4_drain 1 = .ok (.getfield 103, 3) := by decide +kernel
theorem dX4_drain_4 : decode cX4_drain 4 = .ok (.ifCond .eq 6, 3) := by decide +kernel
theorem dX4_drain_7 : decode cX4_drain 7 = .ok (.bipush (-100), 2) := by decide +kernel
theorem dX4_drain_9 : decode cX4_drain 9 = .ok (.ireturn, 1) := by decide +kernel
theorem dX4_drain_10 : decode cX4_drain 10 = .ok (.iload_n 1, 1) := by decide +kernel
theorem dX4_drain_11 : decode cX4_drain 11 = .ok (.i2l, 1) := by decide +kernel
theorem dX4_drain_12 : decode cX4_drain 12 = .ok (.lconst 1, 1) := by decide +kernel
theorem dX4_drain_13 : decode cX4_drain 13 = .ok (.ldc2_w 184, 3) := by decide +kernel
theorem dX4_drain_16 : decode cX4_drain 16 = .ok (.invokestatic 74, 3) := by decide +kernel
theorem dX4_drain_19 : decode cX4_drain 19 = .ok (.ifCond .ne 6, 3) := by decide +kernel
theorem dX4_drain_22 : decode cX4_drain 22 = .ok (.bipush (-102), 2) := by decide +kernel
theorem dX4_drain_24 : decode cX4_drain 24 = .ok (.ireturn, 1) := by decide +kernel
theorem dX4_drain_25 : decode cX4_drain 25 = .ok (.iconst 0, 1) := by decide +kernel
theorem dX4_drain_26 : decode cX4_drain 26 = .ok (.istore_n 2, 1) := by decide +kernel
theorem dX4_drain_27 : decode cX4_drain 27 = .ok (.iload_n 2, 1) := by decide +kernel
theorem dX4_drain_28 : decode cX4_drain 28 = .ok (.iload_n 1, 1) := by decide +kernel
theorem dX4_drain_29 : decode cX4_drain 29 = .ok (.if_icmp .ge 26, 3) := by decide +kernel
theorem dX4_drain_32 : decode cX4_drain 32 = .ok (.aload_n 0, 1) := by decide +kernel
theorem dX4_drain_33 : decode cX4_drain 33 = .ok (.getfield 120, 3) := by decide +kernel
theorem dX4_drain_36 : decode cX4_drain 36 = .ok (.ifCond .le 19, 3) := by decide +kernel
theorem dX4_drain_39 : decode cX4_drain 39 = .ok (.aload_n 0, 1) := by decide +kernel
theorem dX4_drain_40 : decode cX4_drain 40 = .ok (.invokevirtual 167, 3) := by decide +kernel
theorem dX4_drain_43 : decode cX4_drain 43 = .ok (.ifCond .ne 6, 3) := by decide +kernel
theorem dX4_drain_46 : decode cX4_drain 46 = .ok (.bipush (-106), 2) := by decide +kernel
theorem dX4_drain_48 : decode cX4_drain 48 = .ok (.ireturn, 1) := by decide +kernel
theorem dX4_drain_49 : decode cX4_drain 49 = .ok (.iinc 2 1, 3) := by decide +kernel
theorem dX4_drain_52 : decode cX4_drain 52 = .ok (.goto (-25), 3) := by decide +kernel
theorem dX4_drain_55 : decode cX4_drain 55 = .ok (.aload_n 0, 1) := by decide +kernel
theorem dX4_drain_56 : decode cX4_drain 56 = .ok (.getfield 120, 3) := by decide +kernel
theorem dX4_drain_59 : decode cX4_drain 59 = .ok (.ireturn, 1) := by decide +kernel
theorem dX4_notOn_0 : decode cX4_notOn 0 = .ok (.iconst 0, 1) := by decide +kernel
theorem dX4_notOn_1 : decode cX4_notOn 1 = .ok (.istore_n 1, 1) := by decide +kernel
theorem dX4_notOn_2 : decode cX4_notOn 2 = .ok (.iload_n 1, 1) := by decide +kernel
theorem dX4_notOn_3 : decode cX4_notOn 3 = .ok (.aload_n 0, 1) := by decide +kernel
theorem dX4_notOn_4 : decode cX4_notOn 4 = .ok (.getfield 69, 3) := by decide +kernel
theorem dX4_notOn_7 : decode cX4_notOn 7 = .ok (.if_icmp .ge 20, 3) := by decide +kernel
theorem dX4_notOn_10 : decode cX4_notOn 10 = .ok (.aload_n 0, 1) := by decide +kernel
theorem dX4_notOn_11 : decode cX4_notOn 11 = .ok (.getfield 24, 3) := by decide +kernel
theorem dX4_notOn_14 : decode cX4_notOn 14 = .ok (.iload_n 1, 1) := by decide +kernel
theorem dX4_notOn_15 : decode cX4_notOn 15 = .ok (.iaload, 1) := by decide +kernel
theorem dX4_notOn_16 : decode cX4_notOn 16 = .ok (.ifCond .eq 5, 3) := by decide +kernel
theorem dX4_notOn_19 : decode cX4_notOn 19 = .ok (.iload_n 1, 1) := by decide +kernel
theorem dX4_notOn_20 : decode cX4_notOn 20 = .ok (.ireturn, 1) := by decide +kernel
theorem dX4_notOn_21 : decode cX4_notOn 21 = .ok (.iinc 1 1, 3) := by decide +kernel
theorem dX4_notOn_24 : decode cX4_notOn 24 = .ok (.goto (-22), 3) := by decide +kernel
theorem dX4_notOn_27 : decode cX4_notOn 27 = .ok (.iconst (-1), 1) := by decide +kernel
theorem dX4_notOn_28 : decode cX4_notOn 28 = .ok (.ireturn, 1) := by decide +kernel
set_option maxRecDepth 20000 in
theorem ggX4_lose_X4_in : GoodIn wsX4_lose wsX4_in := goodIn_r _ [7] (by decide +kernel) (by decide +kernel)
set_option maxRecDepth 20000 in
theorem gX4_lose_X4_in : GoodIn wsX4_lose (va_wsS RX4 74 yX4_in wsX4_in) := goodIn_app (goodIn_of _ (by decide +kernel)) ggX4_lose_X4_in
set_option maxRecDepth 20000 in
theorem ggX4_lose_X4_notOn : GoodIn wsX4_lose wsX4_notOn := goodIn_r _ [11, 2, 3, 12, 13, 14, 15, 16, 17, 18, 19, 20, 21, 22, 23, 24, 25, 26, 27, 28, 29, 30, 31, 32, 33, 34, 35, 36] (by decide +kernel) (by decide +kernel)
set_option maxRecDepth 20000 in
theorem gX4_lose_X4_notOn : GoodIn wsX4_lose (wsV RX4 186 RX4 yX4_notOn wsX4_notOn) := goodIn_app (goodIn_of _ (by decide +kernel)) ggX4_lose_X4_notOn
theorem dX4_lose_0 : decode cX4_lose 0 = .ok (.aload_n 0, 1) := by decide +kernel
theorem dX4_lose_1 : decode cX4_lose 1 = .ok (.getfield 103, 3) := by decide +kernel
theorem dX4_lose_4 : decode cX4_lose 4 = .ok (.ifCond .eq 6, 3) := by decide +kernel
theorem dX4_lose_7 : decode cX4_lose 7 = .ok (.bipush (-100), 2) := by decide +kernel
theorem dX4_lose_9 : decode cX4_lose 9 = .ok (.ireturn, 1) := by decide +kernel
theorem dX4_lose_10 : decode cX4_lose 10 = .ok (.iload_n 1, 1) := by decide +kernel
theorem dX4_lose_11 : decode cX4_lose 11 = .ok (.i2l, 1) := by decide +kernel
theorem dX4_lose_12 : decode cX4_lose 12 = .ok (.lconst 0, 1) := by decide +kernel
theorem dX4_lose_13 : decode cX4_lose 13 = .ok (.aload_n 0, 1) := by decide +kernel
theorem dX4_lose_14 : decode cX4_lose 14 = .ok (.getfield 69, 3) := by decide +kernel
theorem dX4_lose_17 : decode cX4_lose 17 = .ok (.iconst 1, 1) := by decide +kernel
theorem dX4_lose_18 : decode cX4_lose 18 = .ok (.isub, 1) := by decide +kernel
theorem dX4_lose_19 : decode cX4_lose 19 = .ok (.i2l, 1) := by decide +kernel
theorem dX4_lose_20 : decode cX4_lose 20 = .ok (.invokestatic 74, 3) := by decide +kernel
theorem dX4_lose_23 : decode cX4_lose 23 = .ok (.ifCond .ne 6, 3) := by decide +kernel
theorem dX4_lose_26 : decode cX4_lose 26 = .ok (.bipush (-101), 2) := by decide +kernel
theorem dX4_lose_28 : decode cX4_lose 28 = .ok (.ireturn, 1) := by decide +kernel
theorem dX4_lose_29 : decode cX4_lose 29 = .ok (.aload_n 0, 1) := by decide +kernel
theorem dX4_lose_30 : decode cX4_lose 30 = .ok (.invokevirtual 186, 3) := by decide +kernel
theorem dX4_lose_33 : decode cX4_lose 33 = .ok (.iconst (-1), 1) := by decide +kernel
theorem dX4_lose_34 : decode cX4_lose 34 = .ok (.if_icmp .eq 6, 3) := by decide +kernel
theorem dX4_lose_37 : decode cX4_lose 37 = .ok (.bipush (-103), 2) := by decide +kernel
theorem dX4_lose_39 : decode cX4_lose 39 = .ok (.ireturn, 1) := by decide +kernel
theorem dX4_lose_40 : decode cX4_lose 40 = .ok (.aload_n 0, 1) := by decide +kernel
theorem dX4_lose_41 : decode cX4_lose 41 = .ok (.getfield 24, 3) := by decide +kernel
theorem dX4_lose_44 : decode cX4_lose 44 = .ok (.iload_n 1, 1) := by decide +kernel
theorem dX4_lose_45 : decode cX4_lose 45 = .ok (.iconst 1, 1) := by decide +kernel
theorem dX4_lose_46 : decode cX4_lose 46 = .ok (.iastore, 1) := by decide +kernel
theorem dX4_lose_47 : decode cX4_lose 47 = .ok (.iconst 1, 1) := by decide +kernel
theorem dX4_lose_48 : decode cX4_lose 48 = .ok (.ireturn, 1) := by decide +kernel
set_option maxRecDepth 20000 in
theorem ggX4_spare_X4_notOn : GoodIn wsX4_spare wsX4_notOn := goodIn_r _ [11, 12, 2, 17, 18, 19, 20, 21, 22, 23, 24, 25, 26, 27, 28, 29, 30, 31, 32, 33, 34, 35, 36, 37, 38, 39, 40, 41] (by decide +kernel) (by decide +kernel)
set_option maxRecDepth 20000 in
theorem gX4_spare_X4_notOn : GoodIn wsX4_spare (wsV RX4 186 RX4 yX4_notOn wsX4_notOn) := goodIn_app (goodIn_of _ (by decide +kernel)) ggX4_spare_X4_notOn
set_option maxRecDepth 20000 in
theorem ggX4_spare_X4_at : GoodIn wsX4_spare wsX4_at := goodIn_r _ [16] (by decide +kernel) (by decide +kernel)
set_option maxRecDepth 20000 in
theorem gX4_spare_X4_at : GoodIn wsX4_spare (wsV RX4 82 RX4 yX4_at wsX4_at) := goodIn_app (goodIn_of _ (by decide +kernel)) ggX4_spare_X4_at
theorem dX4_spare_0 : decode cX4_spare 0 = .ok (.aload_n 0, 1) := by decide +kernel
theorem dX4_spare_1 : decode cX4_spare 1 = .ok (.getfield 103, 3) := by decide +kernel
theorem dX4_spare_4 : decode cX4_spare 4 = .ok (.ifCond .eq 6, 3) := by decide +kernel
theorem dX4_spare_7 : decode cX4_spare 7 = .ok (.bipush (-100), 2) := by decide +kernel
theorem dX4_spare_9 : decode cX4_spare 9 = .ok (.ireturn, 1) := by decide +kernel
theorem dX4_spare_10 : decode cX4_spare 10 = .ok (.aload_n 0, 1) := by decide +kernel
theorem dX4_spare_11 : decode cX4_spare 11 = .ok (.invokevirtual 186, 3) := by decide +kernel
theorem dX4_spare_14 : decode cX4_spare 14 = .ok (.istore_n 1, 1) := by decide +kernel
theorem dX4_spare_15 : decode cX4_spare 15 = .ok (.iload_n 1, 1) := by decide +kernel
theorem dX4_spare_16 : decode cX4_spare 16 = .ok (.iconst (-1), 1) := by decide +kernel
theorem dX4_spare_17 : decode cX4_spare 17 = .ok (.if_icmp .eq 13, 3) := by decide +kernel
theorem dX4_spare_20 : decode cX4_spare 20 = .ok (.aload_n 0, 1) := by decide +kernel
theorem dX4_spare_21 : decode cX4_spare 21 = .ok (.getfield 24, 3) := by decide +kernel
theorem dX4_spare_24 : decode cX4_spare 24 = .ok (.iload_n 1, 1) := by decide +kernel
theorem dX4_spare_25 : decode cX4_spare 25 = .ok (.iaload, 1) := by decide +kernel
theorem dX4_spare_26 : decode cX4_spare 26 = .ok (.iconst 1, 1) := by decide +kernel
theorem dX4_spare_27 : decode cX4_spare 27 = .ok (.if_icmp .eq 6, 3) := by decide +kernel
theorem dX4_spare_30 : decode cX4_spare 30 = .ok (.bipush (-103), 2) := by decide +kernel
theorem dX4_spare_32 : decode cX4_spare 32 = .ok (.ireturn, 1) := by decide +kernel
theorem dX4_spare_33 : decode cX4_spare 33 = .ok (.aload_n 0, 1) := by decide +kernel
theorem dX4_spare_34 : decode cX4_spare 34 = .ok (.getfield 24, 3) := by decide +kernel
theorem dX4_spare_37 : decode cX4_spare 37 = .ok (.iload_n 1, 1) := by decide +kernel
theorem dX4_spare_38 : decode cX4_spare 38 = .ok (.iconst 2, 1) := by decide +kernel
theorem dX4_spare_39 : decode cX4_spare 39 = .ok (.iastore, 1) := by decide +kernel
theorem dX4_spare_40 : decode cX4_spare 40 = .ok (.aload_n 0, 1) := by decide +kernel
theorem dX4_spare_41 : decode cX4_spare 41 = .ok (.getfield 27, 3) := by decide +kernel
theorem dX4_spare_44 : decode cX4_spare 44 = .ok (.iload_n 1, 1) := by decide +kernel
theorem dX4_spare_45 : decode cX4_spare 45 = .ok (.iconst 0, 1) := by decide +kernel
theorem dX4_spare_46 : decode cX4_spare 46 = .ok (.iastore, 1) := by decide +kernel
theorem dX4_spare_47 : decode cX4_spare 47 = .ok (.iconst 0, 1) := by decide +kernel
theorem dX4_spare_48 : decode cX4_spare 48 = .ok (.istore_n 2, 1) := by decide +kernel
theorem dX4_spare_49 : decode cX4_spare 49 = .ok (.iload_n 2, 1) := by decide +kernel
theorem dX4_spare_50 : decode cX4_spare 50 = .ok (.bipush 24, 2) := by decide +kernel
theorem dX4_spare_52 : decode cX4_spare 52 = .ok (.if_icmp .ge 59, 3) := by decide +kernel
theorem dX4_spare_55 : decode cX4_spare 55 = .ok (.aload_n 0, 1) := by decide +kernel
theorem dX4_spare_56 : decode cX4_spare 56 = .ok (.iload_n 1, 1) := by decide +kernel
theorem dX4_spare_57 : decode cX4_spare 57 = .ok (.iload_n 2, 1) := by decide +kernel
theorem dX4_spare_58 : decode cX4_spare 58 = .ok (.invokevirtual 82, 3) := by decide +kernel
theorem dX4_spare_61 : decode cX4_spare 61 = .ok (.istore_n 3, 1) := by decide +kernel
theorem dX4_spare_62 : decode cX4_spare 62 = .ok (.aload_n 0, 1) := by decide +kernel
theorem dX4_spare_63 : decode cX4_spare 63 = .ok (.getfield 20, 3) := by decide +kernel
theorem dX4_spare_66 : decode cX4_spare 66 = .ok (.iload_n 3, 1) := by decide +kernel
theorem dX4_spare_67 : decode cX4_spare 67 = .ok (.iconst 0, 1) := by decide +kernel
theorem dX4_spare_68 : decode cX4_spare 68 = .ok (.bastore, 1) := by decide +kernel
theorem dX4_spare_69 : decode cX4_spare 69 = .ok (.aload_n 0, 1) := by decide +kernel
theorem dX4_spare_70 : decode cX4_spare 70 = .ok (.getfield 17, 3) := by decide +kernel
theorem dX4_spare_73 : decode cX4_spare 73 = .ok (.iload_n 3, 1) := by decide +kernel
theorem dX4_spare_74 : decode cX4_spare 74 = .ok (.iconst 0, 1) := by decide +kernel
theorem dX4_spare_75 : decode cX4_spare 75 = .ok (.iastore, 1) := by decide +kernel
theorem dX4_spare_76 : decode cX4_spare 76 = .ok (.iconst 0, 1) := by decide +kernel
theorem dX4_spare_77 : decode cX4_spare 77 = .ok (.istore 4, 2) := by decide +kernel
theorem dX4_spare_79 : decode cX4_spare 79 = .ok (.iload 4, 2) := by decide +kernel
theorem dX4_spare_81 : decode cX4_spare 81 = .ok (.bipush 8, 2) := by decide +kernel
theorem dX4_spare_83 : decode cX4_spare 83 = .ok (.if_icmp .ge 22, 3) := by decide +kernel
theorem dX4_spare_86 : decode cX4_spare 86 = .ok (.aload_n 0, 1) := by decide +kernel
theorem dX4_spare_87 : decode cX4_spare 87 = .ok (.getfield 13, 3) := by decide +kernel
theorem dX4_spare_90 : decode cX4_spare 90 = .ok (.bipush 8, 2) := by decide +kernel
theorem dX4_spare_92 : decode cX4_spare 92 = .ok (.iload_n 3, 1) := by decide +kernel
theorem dX4_spare_93 : decode cX4_spare 93 = .ok (.imul, 1) := by decide +kernel
theorem dX4_spare_94 : decode cX4_spare 94 = .ok (.iload 4, 2) := by decide +kernel
theorem dX4_spare_96 : decode cX4_spare 96 = .ok (.iadd, 1) := by decide +kernel
theorem dX4_spare_97 : decode cX4_spare 97 = .ok (.iconst 0, 1) := by decide +kernel
theorem dX4_spare_98 : decode cX4_spare 98 = .ok (.iastore, 1) := by decide +kernel
theorem dX4_spare_99 : decode cX4_spare 99 = .ok (.iinc 4 1, 3) := by decide +kernel
theorem dX4_spare_102 : decode cX4_spare 102 = .ok (.goto (-23), 3) := by decide +kernel
theorem dX4_spare_105 : decode cX4_spare 105 = .ok (.iinc 2 1, 3) := by decide +kernel
theorem dX4_spare_108 : decode cX4_spare 108 = .ok (.goto (-59), 3) := by decide +kernel
theorem dX4_spare_111 : decode cX4_spare 111 = .ok (.iload_n 1, 1) := by decide +kernel
theorem dX4_spare_112 : decode cX4_spare 112 = .ok (.ireturn, 1) := by decide +kernel
set_option maxRecDepth 20000 in
theorem ggX4_freshIsOthers_X4_others : GoodIn wsX4_freshIsOthers wsX4_others := goodIn_r _ [6, 7, 8, 9, 10, 11, 5, 12, 13, 14, 15, 16, 17, 18, 19, 20, 21, 22, 23, 24, 25, 26, 27, 28, 29, 30, 31, 32, 33, 34, 35, 36, 37] (by decide +kernel) (by decide +kernel)
set_option maxRecDepth 20000 in
theorem gX4_freshIsOthers_X4_others : GoodIn wsX4_freshIsOthers (wsV RX4 181 RX4 yX4_others wsX4_others) := goodIn_app (goodIn_of _ (by decide +kernel)) ggX4_freshIsOthers_X4_others
theorem dX4_freshIsOthers_0 : decode cX4_freshIsOthers 0 = .ok (.iconst 0, 1) := by decide +kernel
theorem dX4_freshIsOthers_1 : decode cX4_freshIsOthers 1 = .ok (.istore_n 3, 1) := by decide +kernel
theorem dX4_freshIsOthers_2 : decode cX4_freshIsOthers 2 = .ok (.iload_n 3, 1) := by decide +kernel
theorem dX4_freshIsOthers_3 : decode cX4_freshIsOthers 3 = .ok (.bipush 8, 2) := by decide +kernel
theorem dX4_freshIsOthers_5 : decode cX4_freshIsOthers 5 = .ok (.if_icmp .ge 22, 3) := by decide +kernel
theorem dX4_freshIsOthers_8 : decode cX4_freshIsOthers 8 = .ok (.aload_n 0, 1) := by decide +kernel
theorem dX4_freshIsOthers_9 : decode cX4_freshIsOthers 9 = .ok (.getfield 63, 3) := by decide +kernel
theorem dX4_freshIsOthers_12 : decode cX4_freshIsOthers 12 = .ok (.iload_n 3, 1) := by decide +kernel
theorem dX4_freshIsOthers_13 : decode cX4_freshIsOthers 13 = .ok (.aload_n 0, 1) := by decide +kernel
theorem dX4_freshIsOthers_14 : decode cX4_freshIsOthers 14 = .ok (.iload_n 1, 1) := by decide +kernel
theorem dX4_freshIsOthers_15 : decode cX4_freshIsOthers 15 = .ok (.iload_n 2, 1) := by decide +kernel
theorem dX4_freshIsOthers_16 : decode cX4_freshIsOthers 16 = .ok (.iload_n 3, 1) := by decide +kernel
theorem dX4_freshIsOthers_17 : decode cX4_freshIsOthers 17 = .ok (.invokevirtual 181, 3) := by decide +kernel
theorem dX4_freshIsOthers_20 : decode cX4_freshIsOthers 20 = .ok (.iastore, 1) := by decide +kernel
theorem dX4_freshIsOthers_21 : decode cX4_freshIsOthers 21 = .ok (.iinc 3 1, 3) := by decide +kernel
theorem dX4_freshIsOthers_24 : decode cX4_freshIsOthers 24 = .ok (.goto (-22), 3) := by decide +kernel
theorem dX4_freshIsOthers_27 : decode cX4_freshIsOthers 27 = .ok (.return_, 1) := by decide +kernel
set_option maxRecDepth 20000 in
theorem ggX4_buildsUp_X4_drained : GoodIn wsX4_buildsUp wsX4_drained := goodIn_r _ [14, 7, 15, 4, 2, 3, 16, 17, 18, 19, 20, 21, 22, 13, 23, 5, 24, 25, 26, 27, 28, 29, 30, 31, 32, 33, 34, 35, 36, 37, 38, 39, 9, 1, 40, 41, 42, 43, 44, 45, 46, 47, 48, 49, 50, 51, 6, 52, 53, 54, 55, 56, 57, 58, 59, 60, 61, 62, 63, 64, 65, 66, 67, 68, 69, 70, 71, 8, 88, 89, 90, 91, 92, 93, 94, 95, 96, 97, 98, 99, 100, 101, 102, 103, 104, 105, 106, 107, 108, 109, 110, 111, 112] (by decide +kernel) (by decide +kernel)
set_option maxRecDepth 20000 in
theorem gX4_buildsUp_X4_drained : GoodIn wsX4_buildsUp (wsV RX4 167 RX4 yX4_drained wsX4_drained) := goodIn_app (goodIn_of _ (by decide +kernel)) ggX4_buildsUp_X4_drained
set_option maxRecDepth 20000 in
theorem ggX4_buildsUp_X4_othersThere : GoodIn wsX4_buildsUp wsX4_othersThere := goodIn_r _ [75, 5, 76, 77, 78, 13, 79, 6, 52, 53, 54, 55, 56, 36, 37, 38, 39, 9, 1, 64, 65, 66, 67, 51, 88, 89, 90, 91, 92, 93, 94, 95, 96, 97, 98, 99, 100, 101, 102, 103, 104, 105, 106, 107, 108, 109, 110, 111, 112] (by decide +kernel) (by decide +kernel)
set_option maxRecDepth 20000 in
theorem gX4_buildsUp_X4_othersThere : GoodIn wsX4_buildsUp (wsV RX4 173 RX4 yX4_othersThere wsX4_othersThere) := goodIn_app (goodIn_of _ (by decide +kernel)) ggX4_buildsUp_X4_othersThere
set_option maxRecDepth 20000 in
theorem ggX4_buildsUp_X4_freshIsOthers : GoodIn wsX4_buildsUp wsX4_freshIsOthers := goodIn_r _ [83, 44, 84, 85, 86, 13, 87, 5, 51, 53, 54, 55, 56, 88, 89, 90, 91, 92, 93, 94, 95, 96, 97, 98, 99, 100, 101, 102, 103, 104, 105, 106, 107, 108, 109, 110, 111, 112] (by decide +kernel) (by decide +kernel)
set_option maxRecDepth 20000 in
theorem gX4_buildsUp_X4_freshIsOthers : GoodIn wsX4_buildsUp (wsV RX4 189 RX4 yX4_freshIsOthers wsX4_freshIsOthers) := goodIn_app (goodIn_of _ (by decide +kernel)) ggX4_buildsUp_X4_freshIsOthers
set_option maxRecDepth 20000 in
theorem ggX4_buildsUp_X4_chunkIs : GoodIn wsX4_buildsUp wsX4_chunkIs := goodIn_r _ [48, 49, 50, 51, 44, 6, 52, 53, 54, 55, 13, 56, 57, 58, 59, 60, 4, 61, 62, 63, 5, 1, 64, 65, 66, 67, 88, 89, 90, 91, 92, 93, 94, 95, 96, 97, 98, 99, 100, 101, 102, 103, 104, 105, 106, 107, 108, 109, 110, 111, 112] (by decide +kernel) (by decide +kernel)
set_option maxRecDepth 20000 in
theorem gX4_buildsUp_X4_chunkIs : GoodIn wsX4_buildsUp (wsV RX4 130 RX4 yX4_chunkIs wsX4_chunkIs) := goodIn_app (goodIn_of _ (by decide +kernel)) ggX4_buildsUp_X4_chunkIs
set_option maxRecDepth 20000 in
theorem ggX4_buildsUp_X4_at : GoodIn wsX4_buildsUp wsX4_at := goodIn_r _ [56] (by decide +kernel) (by decide +kernel)
set_option maxRecDepth 20000 in
theorem gX4_buildsUp_X4_at : GoodIn wsX4_buildsUp (wsV RX4 82 RX4 yX4_at wsX4_at) := goodIn_app (goodIn_of _ (by decide +kernel)) ggX4_buildsUp_X4_at
set_option maxRecDepth 20000 in
theorem ggX4_buildsUp_X4_markIs : GoodIn wsX4_buildsUp wsX4_markIs := goodIn_r _ [71, 4, 7, 8, 57, 58, 59, 13, 60, 61, 62, 63, 5, 1, 88, 89, 90, 91, 92, 93, 94, 95, 96, 97, 98, 99, 100, 101, 102, 103, 104, 105, 106, 107, 108, 109, 110, 111, 112] (by decide +kernel) (by decide +kernel)
set_option maxRecDepth 20000 in
theorem gX4_buildsUp_X4_markIs : GoodIn wsX4_buildsUp (wsV RX4 137 RX4 yX4_markIs wsX4_markIs) := goodIn_app (goodIn_of _ (by decide +kernel)) ggX4_buildsUp_X4_markIs
theorem dX4_buildsUp_0 : decode cX4_buildsUp 0 = .ok (.aload_n 0, 1) := by decide +kernel
theorem dX4_buildsUp_1 : decode cX4_buildsUp 1 = .ok (.getfield 27, 3) := by decide +kernel
theorem dX4_buildsUp_4 : decode cX4_buildsUp 4 = .ok (.iload_n 1, 1) := by decide +kernel
theorem dX4_buildsUp_5 : decode cX4_buildsUp 5 = .ok (.iaload, 1) := by decide +kernel
theorem dX4_buildsUp_6 : decode cX4_buildsUp 6 = .ok (.istore_n 2, 1) := by decide +kernel
theorem dX4_buildsUp_7 : decode cX4_buildsUp 7 = .ok (.iconst 0, 1) := by decide +kernel
theorem dX4_buildsUp_8 : decode cX4_buildsUp 8 = .ok (.istore_n 3, 1) := by decide +kernel
theorem dX4_buildsUp_9 : decode cX4_buildsUp 9 = .ok (.iconst 0, 1) := by decide +kernel
theorem dX4_buildsUp_10 : decode cX4_buildsUp 10 = .ok (.istore 4, 2) := by decide +kernel
theorem dX4_buildsUp_12 : decode cX4_buildsUp 12 = .ok (.iload 4, 2) := by decide +kernel
theorem dX4_buildsUp_14 : decode cX4_buildsUp 14 = .ok (.aload_n 0, 1) := by decide +kernel
theorem dX4_buildsUp_15 : decode cX4_buildsUp 15 = .ok (.getfield 120, 3) := by decide +kernel
theorem dX4_buildsUp_18 : decode cX4_buildsUp 18 = .ok (.if_icmp .ge 29, 3) := by decide +kernel
theorem dX4_buildsUp_21 : decode cX4_buildsUp 21 = .ok (.aload_n 0, 1) := by decide +kernel
theorem dX4_buildsUp_22 : decode cX4_buildsUp 22 = .ok (.getfield 33, 3) := by decide +kernel
theorem dX4_buildsUp_25 : decode cX4_buildsUp 25 = .ok (.iload 4, 2) := by decide +kernel
theorem dX4_buildsUp_27 : decode cX4_buildsUp 27 = .ok (.iaload, 1) := by decide +kernel
theorem dX4_buildsUp_28 : decode cX4_buildsUp 28 = .ok (.iload_n 2, 1) := by decide +kernel
theorem dX4_buildsUp_29 : decode cX4_buildsUp 29 = .ok (.if_icmp .ne 10, 3) := by decide +kernel
theorem dX4_buildsUp_32 : decode cX4_buildsUp 32 = .ok (.iload 4, 2) := by decide +kernel
theorem dX4_buildsUp_34 : decode cX4_buildsUp 34 = .ok (.iconst 1, 1) := by decide +kernel
theorem dX4_buildsUp_35 : decode cX4_buildsUp 35 = .ok (.iadd, 1) := by decide +kernel
theorem dX4_buildsUp_36 : decode cX4_buildsUp 36 = .ok (.goto 4, 3) := by decide +kernel
theorem dX4_buildsUp_39 : decode cX4_buildsUp 39 = .ok (.iload_n 3, 1) := by decide +kernel
theorem dX4_buildsUp_40 : decode cX4_buildsUp 40 = .ok (.istore_n 3, 1) := by decide +kernel
theorem dX4_buildsUp_41 : decode cX4_buildsUp 41 = .ok (.iinc 4 1, 3) := by decide +kernel
theorem dX4_buildsUp_44 : decode cX4_buildsUp 44 = .ok (.goto (-32), 3) := by decide +kernel
theorem dX4_buildsUp_47 : decode cX4_buildsUp 47 = .ok (.iconst 0, 1) := by decide +kernel
theorem dX4_buildsUp_48 : decode cX4_buildsUp 48 = .ok (.istore 4, 2) := by decide +kernel
theorem dX4_buildsUp_50 : decode cX4_buildsUp 50 = .ok (.iload 4, 2) := by decide +kernel
theorem dX4_buildsUp_52 : decode cX4_buildsUp 52 = .ok (.iload_n 3, 1) := by decide +kernel
theorem dX4_buildsUp_53 : decode cX4_buildsUp 53 = .ok (.if_icmp .ge 18, 3) := by decide +kernel
theorem dX4_buildsUp_56 : decode cX4_buildsUp 56 = .ok (.aload_n 0, 1) := by decide +kernel
theorem dX4_buildsUp_57 : decode cX4_buildsUp 57 = .ok (.invokevirtual 167, 3) := by decide +kernel
theorem dX4_buildsUp_60 : decode cX4_buildsUp 60 = .ok (.ifCond .ne 5, 3) := by decide +kernel
theorem dX4_buildsUp_63 : decode cX4_buildsUp 63 = .ok (.iconst 0, 1) := by decide +kernel
theorem dX4_buildsUp_64 : decode cX4_buildsUp 64 = .ok (.ireturn, 1) := by decide +kernel
theorem dX4_buildsUp_65 : decode cX4_buildsUp 65 = .ok (.iinc 4 1, 3) := by decide +kernel
theorem dX4_buildsUp_68 : decode cX4_buildsUp 68 = .ok (.goto (-18), 3) := by decide +kernel
theorem dX4_buildsUp_71 : decode cX4_buildsUp 71 = .ok (.aload_n 0, 1) := by decide +kernel
theorem dX4_buildsUp_72 : decode cX4_buildsUp 72 = .ok (.iload_n 1, 1) := by decide +kernel
theorem dX4_buildsUp_73 : decode cX4_buildsUp 73 = .ok (.iload_n 2, 1) := by decide +kernel
theorem dX4_buildsUp_74 : decode cX4_buildsUp 74 = .ok (.invokevirtual 173, 3) := by decide +kernel
theorem dX4_buildsUp_77 : decode cX4_buildsUp 77 = .ok (.ifCond .eq 35, 3) := by decide +kernel
theorem dX4_buildsUp_80 : decode cX4_buildsUp 80 = .ok (.aload_n 0, 1) := by decide +kernel
theorem dX4_buildsUp_81 : decode cX4_buildsUp 81 = .ok (.getfield 60, 3) := by decide +kernel
theorem dX4_buildsUp_84 : decode cX4_buildsUp 84 = .ok (.iconst 3, 1) := by decide +kernel
theorem dX4_buildsUp_85 : decode cX4_buildsUp 85 = .ok (.dup2, 1) := by decide +kernel
theorem dX4_buildsUp_86 : decode cX4_buildsUp 86 = .ok (.iaload, 1) := by decide +kernel
theorem dX4_buildsUp_87 : decode cX4_buildsUp 87 = .ok (.aload_n 0, 1) := by decide +kernel
theorem dX4_buildsUp_88 : decode cX4_buildsUp 88 = .ok (.getfield 69, 3) := by decide +kernel
theorem dX4_buildsUp_91 : decode cX4_buildsUp 91 = .ok (.iconst 1, 1) := by decide +kernel
theorem dX4_buildsUp_92 : decode cX4_buildsUp 92 = .ok (.isub, 1) := by decide +kernel
theorem dX4_buildsUp_93 : decode cX4_buildsUp 93 = .ok (.iadd, 1) := by decide +kernel
theorem dX4_buildsUp_94 : decode cX4_buildsUp 94 = .ok (.iastore, 1) := by decide +kernel
theorem dX4_buildsUp_95 : decode cX4_buildsUp 95 = .ok (.aload_n 0, 1) := by decide +kernel
theorem dX4_buildsUp_96 : decode cX4_buildsUp 96 = .ok (.iload_n 1, 1) := by decide +kernel
theorem dX4_buildsUp_97 : decode cX4_buildsUp 97 = .ok (.iload_n 2, 1) := by decide +kernel
theorem dX4_buildsUp_98 : decode cX4_buildsUp 98 = .ok (.invokevirtual 189, 3) := by decide +kernel
theorem dX4_buildsUp_101 : decode cX4_buildsUp 101 = .ok (.aload_n 0, 1) := by decide +kernel
theorem dX4_buildsUp_102 : decode cX4_buildsUp 102 = .ok (.iload_n 1, 1) := by decide +kernel
theorem dX4_buildsUp_103 : decode cX4_buildsUp 103 = .ok (.iload_n 2, 1) := by decide +kernel
theorem dX4_buildsUp_104 : decode cX4_buildsUp 104 = .ok (.invokevirtual 130, 3) := by decide +kernel
theorem dX4_buildsUp_107 : decode cX4_buildsUp 107 = .ok (.ifCond .ne 28, 3) := by decide +kernel
theorem dX4_buildsUp_110 : decode cX4_buildsUp 110 = .ok (.iconst 0, 1) := by decide +kernel
theorem dX4_buildsUp_111 : decode cX4_buildsUp 111 = .ok (.ireturn, 1) := by decide +kernel
theorem dX4_buildsUp_112 : decode cX4_buildsUp 112 = .ok (.aload_n 0, 1) := by decide +kernel
theorem dX4_buildsUp_113 : decode cX4_buildsUp 113 = .ok (.getfield 20, 3) := by decide +kernel
theorem dX4_buildsUp_116 : decode cX4_buildsUp 116 = .ok (.aload_n 0, 1) := by decide +kernel
theorem dX4_buildsUp_117 : decode cX4_buildsUp 117 = .ok (.iload_n 1, 1) := by decide +kernel
theorem dX4_buildsUp_118 : decode cX4_buildsUp 118 = .ok (.iload_n 2, 1) := by decide +kernel
theorem dX4_buildsUp_119 : decode cX4_buildsUp 119 = .ok (.invokevirtual 82, 3) := by decide +kernel
theorem dX4_buildsUp_122 : decode cX4_buildsUp 122 = .ok (.iconst 1, 1) := by decide +kernel
theorem dX4_buildsUp_123 : decode cX4_buildsUp 123 = .ok (.bastore, 1) := by decide +kernel
theorem dX4_buildsUp_124 : decode cX4_buildsUp 124 = .ok (.aload_n 0, 1) := by decide +kernel
theorem dX4_buildsUp_125 : decode cX4_buildsUp 125 = .ok (.getfield 60, 3) := by decide +kernel
theorem dX4_buildsUp_128 : decode cX4_buildsUp 128 = .ok (.bipush 8, 2) := by decide +kernel
theorem dX4_buildsUp_130 : decode cX4_buildsUp 130 = .ok (.dup2, 1) := by decide +kernel
theorem dX4_buildsUp_131 : decode cX4_buildsUp 131 = .ok (.iaload, 1) := by decide +kernel
theorem dX4_buildsUp_132 : decode cX4_buildsUp 132 = .ok (.iconst 1, 1) := by decide +kernel
theorem dX4_buildsUp_133 : decode cX4_buildsUp 133 = .ok (.iadd, 1) := by decide +kernel
theorem dX4_buildsUp_134 : decode cX4_buildsUp 134 = .ok (.iastore, 1) := by decide +kernel
theorem dX4_buildsUp_135 : decode cX4_buildsUp 135 = .ok (.aload_n 0, 1) := by decide +kernel
theorem dX4_buildsUp_136 : decode cX4_buildsUp 136 = .ok (.getfield 27, 3) := by decide +kernel
theorem dX4_buildsUp_139 : decode cX4_buildsUp 139 = .ok (.iload_n 1, 1) := by decide +kernel
theorem dX4_buildsUp_140 : decode cX4_buildsUp 140 = .ok (.dup2, 1) := by decide +kernel
theorem dX4_buildsUp_141 : decode cX4_buildsUp 141 = .ok (.iaload, 1) := by decide +kernel
theorem dX4_buildsUp_142 : decode cX4_buildsUp 142 = .ok (.iconst 1, 1) := by decide +kernel
theorem dX4_buildsUp_143 : decode cX4_buildsUp 143 = .ok (.iadd, 1) := by decide +kernel
theorem dX4_buildsUp_144 : decode cX4_buildsUp 144 = .ok (.iastore, 1) := by decide +kernel
theorem dX4_buildsUp_145 : decode cX4_buildsUp 145 = .ok (.aload_n 0, 1) := by decide +kernel
theorem dX4_buildsUp_146 : decode cX4_buildsUp 146 = .ok (.getfield 27, 3) := by decide +kernel
theorem dX4_buildsUp_149 : decode cX4_buildsUp 149 = .ok (.iload_n 1, 1) := by decide +kernel
theorem dX4_buildsUp_150 : decode cX4_buildsUp 150 = .ok (.iaload, 1) := by decide +kernel
theorem dX4_buildsUp_151 : decode cX4_buildsUp 151 = .ok (.bipush 24, 2) := by decide +kernel
theorem dX4_buildsUp_153 : decode cX4_buildsUp 153 = .ok (.if_icmp .ne 27, 3) := by decide +kernel
theorem dX4_buildsUp_156 : decode cX4_buildsUp 156 = .ok (.aload_n 0, 1) := by decide +kernel
theorem dX4_buildsUp_157 : decode cX4_buildsUp 157 = .ok (.aload_n 0, 1) := by decide +kernel
theorem dX4_buildsUp_158 : decode cX4_buildsUp 158 = .ok (.getfield 117, 3) := by decide +kernel
theorem dX4_buildsUp_161 : decode cX4_buildsUp 161 = .ok (.aload_n 0, 1) := by decide +kernel
theorem dX4_buildsUp_162 : decode cX4_buildsUp 162 = .ok (.getfield 51, 3) := by decide +kernel
theorem dX4_buildsUp_165 : decode cX4_buildsUp 165 = .ok (.invokevirtual 137, 3) := by decide +kernel
theorem dX4_buildsUp_168 : decode cX4_buildsUp 168 = .ok (.ifCond .ne 5, 3) := by decide +kernel
theorem dX4_buildsUp_171 : decode cX4_buildsUp 171 = .ok (.iconst 0, 1) := by decide +kernel
theorem dX4_buildsUp_172 : decode cX4_buildsUp 172 = .ok (.ireturn, 1) := by decide +kernel
theorem dX4_buildsUp_173 : decode cX4_buildsUp 173 = .ok (.aload_n 0, 1) := by decide +kernel
theorem dX4_buildsUp_174 : decode cX4_buildsUp 174 = .ok (.getfield 24, 3) := by decide +kernel
theorem dX4_buildsUp_177 : decode cX4_buildsUp 177 = .ok (.iload_n 1, 1) := by decide +kernel
theorem dX4_buildsUp_178 : decode cX4_buildsUp 178 = .ok (.iconst 0, 1) := by decide +kernel
theorem dX4_buildsUp_179 : decode cX4_buildsUp 179 = .ok (.iastore, 1) := by decide +kernel
theorem dX4_buildsUp_180 : decode cX4_buildsUp 180 = .ok (.iconst 1, 1) := by decide +kernel
theorem dX4_buildsUp_181 : decode cX4_buildsUp 181 = .ok (.ireturn, 1) := by decide +kernel
set_option maxRecDepth 20000 in
theorem ggX4_build_X4_in : GoodIn wsX4_build wsX4_in := goodIn_r _ [8] (by decide +kernel) (by decide +kernel)
set_option maxRecDepth 20000 in
theorem gX4_build_X4_in : GoodIn wsX4_build (va_wsS RX4 74 yX4_in wsX4_in) := goodIn_app (goodIn_of _ (by decide +kernel)) ggX4_build_X4_in
set_option maxRecDepth 20000 in
theorem ggX4_build_X4_notOn : GoodIn wsX4_build wsX4_notOn := goodIn_r _ [12, 13, 3, 100, 101, 102, 103, 104, 105, 106, 107, 108, 109, 110, 111, 112, 113, 114, 115, 116, 117, 118, 119, 120, 121, 122, 123, 124] (by decide +kernel) (by decide +kernel)
set_option maxRecDepth 20000 in
theorem gX4_build_X4_notOn : GoodIn wsX4_build (wsV RX4 186 RX4 yX4_notOn wsX4_notOn) := goodIn_app (goodIn_of _ (by decide +kernel)) ggX4_build_X4_notOn
set_option maxRecDepth 20000 in
theorem ggX4_build_X4_buildsUp : GoodIn wsX4_build wsX4_buildsUp := goodIn_r _ [17, 4, 18, 19, 20, 13, 21, 22, 23, 3, 24, 25, 26, 7, 27, 28, 29, 30, 31, 32, 33, 34, 35, 36, 37, 38, 39, 40, 41, 42, 43, 44, 45, 46, 47, 48, 49, 50, 51, 52, 53, 54, 55, 56, 57, 58, 59, 60, 61, 62, 63, 64, 65, 66, 67, 68, 69, 70, 71, 72, 73, 74, 1, 75, 76, 77, 78, 79, 80, 81, 82, 83, 84, 85, 86, 87, 88, 89, 90, 91, 92, 93, 94, 95, 96, 97, 98, 99, 100, 101, 102, 103, 104, 105, 106, 107, 108, 109, 110, 111, 112, 113, 114, 115, 116, 117, 118, 119, 120, 121, 122, 123, 124] (by decide +kernel) (by decide +kernel)
set_option maxRecDepth 20000 in
theorem gX4_build_X4_buildsUp : GoodIn wsX4_build (wsV RX4 192 RX4 yX4_buildsUp wsX4_buildsUp) := goodIn_app (goodIn_of _ (by decide +kernel)) ggX4_build_X4_buildsUp
theorem dX4_build_0 : decode cX4_build 0 = .ok (.aload_n 0, 1) := by decide +kernel
theorem dX4_build_1 : decode cX4_build 1 = .ok (.getfield 103, 3) := by decide +kernel
theorem dX4_build_4 : decode cX4_build 4 = .ok (.ifCond .eq 6, 3) := by decide +kernel
theorem dX4_build_7 : decode cX4_build 7 = .ok (.bipush (-100), 2) := by decide +kernel
theorem dX4_build_9 : decode cX4_build 9 = .ok (.ireturn, 1) := by decide +kernel
theorem dX4_build_10 : decode cX4_build 10 = .ok (.iload_n 1, 1) := by decide +kernel
theorem dX4_build_11 : decode cX4_build 11 = .ok (.i2l, 1) := by decide +kernel
theorem dX4_build_12 : decode cX4_build 12 = .ok (.lconst 1, 1) := by decide +kernel
theorem dX4_build_13 : decode cX4_build 13 = .ok (.ldc2_w 72, 3) := by decide +kernel
theorem dX4_build_16 : decode cX4_build 16 = .ok (.invokestatic 74, 3) := by decide +kernel
theorem dX4_build_19 : decode cX4_build 19 = .ok (.ifCond .ne 6, 3) := by decide +kernel
theorem dX4_build_22 : decode cX4_build 22 = .ok (.bipush (-102), 2) := by decide +kernel
theorem dX4_build_24 : decode cX4_build 24 = .ok (.ireturn, 1) := by decide +kernel
theorem dX4_build_25 : decode cX4_build 25 = .ok (.aload_n 0, 1) := by decide +kernel
theorem dX4_build_26 : decode cX4_build 26 = .ok (.invokevirtual 186, 3) := by decide +kernel
theorem dX4_build_29 : decode cX4_build 29 = .ok (.istore_n 2, 1) := by decide +kernel
theorem dX4_build_30 : decode cX4_build 30 = .ok (.iload_n 2, 1) := by decide +kernel
theorem dX4_build_31 : decode cX4_build 31 = .ok (.iconst (-1), 1) := by decide +kernel
theorem dX4_build_32 : decode cX4_build 32 = .ok (.if_icmp .eq 13, 3) := by decide +kernel
theorem dX4_build_35 : decode cX4_build 35 = .ok (.aload_n 0, 1) := by decide +kernel
theorem dX4_build_36 : decode cX4_build 36 = .ok (.getfield 24, 3) := by decide +kernel
theorem dX4_build_39 : decode cX4_build 39 = .ok (.iload_n 2, 1) := by decide +kernel
theorem dX4_build_40 : decode cX4_build 40 = .ok (.iaload, 1) := by decide +kernel
theorem dX4_build_41 : decode cX4_build 41 = .ok (.iconst 2, 1) := by decide +kernel
theorem dX4_build_42 : decode cX4_build 42 = .ok (.if_icmp .eq 6, 3) := by decide +kernel
theorem dX4_build_45 : decode cX4_build 45 = .ok (.bipush (-103), 2) := by decide +kernel
theorem dX4_build_47 : decode cX4_build 47 = .ok (.ireturn, 1) := by decide +kernel
theorem dX4_build_48 : decode cX4_build 48 = .ok (.iconst 0, 1) := by decide +kernel
theorem dX4_build_49 : decode cX4_build 49 = .ok (.istore_n 3, 1) := by decide +kernel
theorem dX4_build_50 : decode cX4_build 50 = .ok (.iload_n 3, 1) := by decide +kernel
theorem dX4_build_51 : decode cX4_build 51 = .ok (.iload_n 1, 1) := by decide +kernel
theorem dX4_build_52 : decode cX4_build 52 = .ok (.if_icmp .ge 30, 3) := by decide +kernel
theorem dX4_build_55 : decode cX4_build 55 = .ok (.aload_n 0, 1) := by decide +kernel
theorem dX4_build_56 : decode cX4_build 56 = .ok (.getfield 24, 3) := by decide +kernel
theorem dX4_build_59 : decode cX4_build 59 = .ok (.iload_n 2, 1) := by decide +kernel
theorem dX4_build_60 : decode cX4_build 60 = .ok (.iaload, 1) := by decide +kernel
theorem dX4_build_61 : decode cX4_build 61 = .ok (.iconst 2, 1) := by decide +kernel
theorem dX4_build_62 : decode cX4_build 62 = .ok (.if_icmp .ne 20, 3) := by decide +kernel
theorem dX4_build_65 : decode cX4_build 65 = .ok (.aload_n 0, 1) := by decide +kernel
theorem dX4_build_66 : decode cX4_build 66 = .ok (.iload_n 2, 1) := by decide +kernel
theorem dX4_build_67 : decode cX4_build 67 = .ok (.invokevirtual 192, 3) := by decide +kernel
theorem dX4_build_70 : decode cX4_build 70 = .ok (.ifCond .ne 6, 3) := by decide +kernel
theorem dX4_build_73 : decode cX4_build 73 = .ok (.bipush (-106), 2) := by decide +kernel
theorem dX4_build_75 : decode cX4_build 75 = .ok (.ireturn, 1) := by decide +kernel
theorem dX4_build_76 : decode cX4_build 76 = .ok (.iinc 3 1, 3) := by decide +kernel
theorem dX4_build_79 : decode cX4_build 79 = .ok (.goto (-29), 3) := by decide +kernel
theorem dX4_build_82 : decode cX4_build 82 = .ok (.aload_n 0, 1) := by decide +kernel
theorem dX4_build_83 : decode cX4_build 83 = .ok (.getfield 24, 3) := by decide +kernel
theorem dX4_build_86 : decode cX4_build 86 = .ok (.iload_n 2, 1) := by decide +kernel
theorem dX4_build_87 : decode cX4_build 87 = .ok (.iaload, 1) := by decide +kernel
theorem dX4_build_88 : decode cX4_build 88 = .ok (.iconst 2, 1) := by decide +kernel
theorem dX4_build_89 : decode cX4_build 89 = .ok (.if_icmp .ne 15, 3) := by decide +kernel
theorem dX4_build_92 : decode cX4_build 92 = .ok (.bipush 24, 2) := by decide +kernel
theorem dX4_build_94 : decode cX4_build 94 = .ok (.aload_n 0, 1) := by decide +kernel
theorem dX4_build_95 : decode cX4_build 95 = .ok (.getfield 27, 3) := by decide +kernel
theorem dX4_build_98 : decode cX4_build 98 = .ok (.iload_n 2, 1) := by decide +kernel
theorem dX4_build_99 : decode cX4_build 99 = .ok (.iaload, 1) := by decide +kernel
theorem dX4_build_100 : decode cX4_build 100 = .ok (.isub, 1) := by decide +kernel
theorem dX4_build_101 : decode cX4_build 101 = .ok (.goto 4, 3) := by decide +kernel
theorem dX4_build_104 : decode cX4_build 104 = .ok (.iconst 0, 1) := by decide +kernel
theorem dX4_build_105 : decode cX4_build 105 = .ok (.ireturn, 1) := by decide +kernel
set_option maxRecDepth 20000 in
theorem ggX4_scrub_X4_in : GoodIn wsX4_scrub wsX4_in := goodIn_r _ [9] (by decide +kernel) (by decide +kernel)
set_option maxRecDepth 20000 in
theorem gX4_scrub_X4_in : GoodIn wsX4_scrub (va_wsS RX4 74 yX4_in wsX4_in) := goodIn_app (goodIn_of _ (by decide +kernel)) ggX4_scrub_X4_in
set_option maxRecDepth 20000 in
theorem ggX4_scrub_X4_notOn : GoodIn wsX4_scrub wsX4_notOn := goodIn_r _ [13, 5, 14, 63, 64, 65, 66, 67, 68, 69, 70, 71, 72, 73, 74, 75, 76, 77, 78, 79, 80, 81, 82, 83, 84, 85, 86, 87] (by decide +kernel) (by decide +kernel)
set_option maxRecDepth 20000 in
theorem gX4_scrub_X4_notOn : GoodIn wsX4_scrub (wsV RX4 186 RX4 yX4_notOn wsX4_notOn) := goodIn_app (goodIn_of _ (by decide +kernel)) ggX4_scrub_X4_notOn
set_option maxRecDepth 20000 in
theorem ggX4_scrub_X4_isThere : GoodIn wsX4_scrub wsX4_isThere := goodIn_r _ [18, 19, 20, 21, 22, 23, 8, 24, 25, 26, 27, 28, 14, 29, 30, 31, 32, 33, 34, 63, 64, 65, 66, 67, 68, 69, 70, 71, 72, 73, 74, 75, 76, 77, 78, 79, 80, 81, 82, 83, 84, 85, 86, 87] (by decide +kernel) (by decide +kernel)
set_option maxRecDepth 20000 in
theorem gX4_scrub_X4_isThere : GoodIn wsX4_scrub (wsV RX4 93 RX4 yX4_isThere wsX4_isThere) := goodIn_app (goodIn_of _ (by decide +kernel)) ggX4_scrub_X4_isThere
set_option maxRecDepth 20000 in
theorem ggX4_scrub_X4_isEven : GoodIn wsX4_scrub wsX4_isEven := goodIn_r _ [38, 39, 40, 41, 8, 42, 5, 34, 21, 22, 23, 24, 63, 64, 65, 66, 67, 68, 69, 70, 71, 72, 73, 74, 75, 76, 77, 78, 79, 80, 81, 82, 83, 84, 85, 86, 87] (by decide +kernel) (by decide +kernel)
set_option maxRecDepth 20000 in
theorem gX4_scrub_X4_isEven : GoodIn wsX4_scrub (wsV RX4 195 RX4 yX4_isEven wsX4_isEven) := goodIn_app (goodIn_of _ (by decide +kernel)) ggX4_scrub_X4_isEven
set_option maxRecDepth 20000 in
theorem ggX4_scrub_X4_parityOf : GoodIn wsX4_scrub wsX4_parityOf := goodIn_r _ [46, 5, 63, 64, 65, 66, 67, 68, 69, 70, 71, 72, 73, 74, 75, 76, 77, 78, 79, 80, 81, 82, 83, 84, 85, 86, 87] (by decide +kernel) (by decide +kernel)
set_option maxRecDepth 20000 in
theorem gX4_scrub_X4_parityOf : GoodIn wsX4_scrub (wsV RX4 78 RX4 yX4_parityOf wsX4_parityOf) := goodIn_app (goodIn_of _ (by decide +kernel)) ggX4_scrub_X4_parityOf
set_option maxRecDepth 20000 in
theorem ggX4_scrub_X4_freshIsOthers : GoodIn wsX4_scrub wsX4_freshIsOthers := goodIn_r _ [50, 51, 39, 40, 41, 8, 42, 5, 34, 21, 22, 23, 24, 63, 64, 65, 66, 67, 68, 69, 70, 71, 72, 73, 74, 75, 76, 77, 78, 79, 80, 81, 82, 83, 84, 85, 86, 87] (by decide +kernel) (by decide +kernel)
set_option maxRecDepth 20000 in
theorem gX4_scrub_X4_freshIsOthers : GoodIn wsX4_scrub (wsV RX4 189 RX4 yX4_freshIsOthers wsX4_freshIsOthers) := goodIn_app (goodIn_of _ (by decide +kernel)) ggX4_scrub_X4_freshIsOthers
set_option maxRecDepth 20000 in
theorem ggX4_scrub_X4_chunkIs : GoodIn wsX4_scrub wsX4_chunkIs := goodIn_r _ [55, 56, 57, 34, 51, 19, 20, 21, 22, 23, 8, 24, 58, 59, 60, 61, 4, 62, 1, 3, 5, 29, 30, 31, 32, 33, 63, 64, 65, 66, 67, 68, 69, 70, 71, 72, 73, 74, 75, 76, 77, 78, 79, 80, 81, 82, 83, 84, 85, 86, 87] (by decide +kernel) (by decide +kernel)
set_option maxRecDepth 20000 in
theorem gX4_scrub_X4_chunkIs : GoodIn wsX4_scrub (wsV RX4 130 RX4 yX4_chunkIs wsX4_chunkIs) := goodIn_app (goodIn_of _ (by decide +kernel)) ggX4_scrub_X4_chunkIs
theorem dX4_scrub_0 : decode cX4_scrub 0 = .ok (.aload_n 0, 1) := by decide +kernel
theorem dX4_scrub_1 : decode cX4_scrub 1 = .ok (.getfield 103, 3) := by decide +kernel
theorem dX4_scrub_4 : decode cX4_scrub 4 = .ok (.ifCond .eq 6, 3) := by decide +kernel
theorem dX4_scrub_7 : decode cX4_scrub 7 = .ok (.bipush (-100), 2) := by decide +kernel
theorem dX4_scrub_9 : decode cX4_scrub 9 = .ok (.ireturn, 1) := by decide +kernel
theorem dX4_scrub_10 : decode cX4_scrub 10 = .ok (.iload_n 1, 1) := by decide +kernel
theorem dX4_scrub_11 : decode cX4_scrub 11 = .ok (.i2l, 1) := by decide +kernel
theorem dX4_scrub_12 : decode cX4_scrub 12 = .ok (.lconst 1, 1) := by decide +kernel
theorem dX4_scrub_13 : decode cX4_scrub 13 = .ok (.ldc2_w 72, 3) := by decide +kernel
theorem dX4_scrub_16 : decode cX4_scrub 16 = .ok (.invokestatic 74, 3) := by decide +kernel
theorem dX4_scrub_19 : decode cX4_scrub 19 = .ok (.ifCond .ne 6, 3) := by decide +kernel
theorem dX4_scrub_22 : decode cX4_scrub 22 = .ok (.bipush (-102), 2) := by decide +kernel
theorem dX4_scrub_24 : decode cX4_scrub 24 = .ok (.ireturn, 1) := by decide +kernel
theorem dX4_scrub_25 : decode cX4_scrub 25 = .ok (.aload_n 0, 1) := by decide +kernel
theorem dX4_scrub_26 : decode cX4_scrub 26 = .ok (.invokevirtual 186, 3) := by decide +kernel
theorem dX4_scrub_29 : decode cX4_scrub 29 = .ok (.iconst (-1), 1) := by decide +kernel
theorem dX4_scrub_30 : decode cX4_scrub 30 = .ok (.if_icmp .eq 6, 3) := by decide +kernel
theorem dX4_scrub_33 : decode cX4_scrub 33 = .ok (.bipush (-103), 2) := by decide +kernel
theorem dX4_scrub_35 : decode cX4_scrub 35 = .ok (.ireturn, 1) := by decide +kernel
theorem dX4_scrub_36 : decode cX4_scrub 36 = .ok (.iconst 0, 1) := by decide +kernel
theorem dX4_scrub_37 : decode cX4_scrub 37 = .ok (.istore_n 2, 1) := by decide +kernel
theorem dX4_scrub_38 : decode cX4_scrub 38 = .ok (.iconst 0, 1) := by decide +kernel
theorem dX4_scrub_39 : decode cX4_scrub 39 = .ok (.istore_n 3, 1) := by decide +kernel
theorem dX4_scrub_40 : decode cX4_scrub 40 = .ok (.iload_n 3, 1) := by decide +kernel
theorem dX4_scrub_41 : decode cX4_scrub 41 = .ok (.iload_n 1, 1) := by decide +kernel
theorem dX4_scrub_42 : decode cX4_scrub 42 = .ok (.if_icmp .ge 162, 3) := by decide +kernel
theorem dX4_scrub_45 : decode cX4_scrub 45 = .ok (.aload_n 0, 1) := by decide +kernel
theorem dX4_scrub_46 : decode cX4_scrub 46 = .ok (.getfield 107, 3) := by decide +kernel
theorem dX4_scrub_49 : decode cX4_scrub 49 = .ok (.istore 4, 2) := by decide +kernel
theorem dX4_scrub_51 : decode cX4_scrub 51 = .ok (.aload_n 0, 1) := by decide +kernel
theorem dX4_scrub_52 : decode cX4_scrub 52 = .ok (.aload_n 0, 1) := by decide +kernel
theorem dX4_scrub_53 : decode cX4_scrub 53 = .ok (.getfield 107, 3) := by decide +kernel
theorem dX4_scrub_56 : decode cX4_scrub 56 = .ok (.iconst 1, 1) := by decide +kernel
theorem dX4_scrub_57 : decode cX4_scrub 57 = .ok (.iadd, 1) := by decide +kernel
theorem dX4_scrub_58 : decode cX4_scrub 58 = .ok (.bipush 24, 2) := by decide +kernel
theorem dX4_scrub_60 : decode cX4_scrub 60 = .ok (.irem, 1) := by decide +kernel
theorem dX4_scrub_61 : decode cX4_scrub 61 = .ok (.putfield 107, 3) := by decide +kernel
theorem dX4_scrub_64 : decode cX4_scrub 64 = .ok (.aload_n 0, 1) := by decide +kernel
theorem dX4_scrub_65 : decode cX4_scrub 65 = .ok (.getfield 60, 3) := by decide +kernel
theorem dX4_scrub_68 : decode cX4_scrub 68 = .ok (.iconst 3, 1) := by decide +kernel
theorem dX4_scrub_69 : decode cX4_scrub 69 = .ok (.dup2, 1) := by decide +kernel
theorem dX4_scrub_70 : decode cX4_scrub 70 = .ok (.iaload, 1) := by decide +kernel
theorem dX4_scrub_71 : decode cX4_scrub 71 = .ok (.aload_n 0, 1) := by decide +kernel
theorem dX4_scrub_72 : decode cX4_scrub 72 = .ok (.getfield 69, 3) := by decide +kernel
theorem dX4_scrub_75 : decode cX4_scrub 75 = .ok (.iadd, 1) := by decide +kernel
theorem dX4_scrub_76 : decode cX4_scrub 76 = .ok (.iastore, 1) := by decide +kernel
theorem dX4_scrub_77 : decode cX4_scrub 77 = .ok (.iconst 0, 1) := by decide +kernel
theorem dX4_scrub_78 : decode cX4_scrub 78 = .ok (.istore 5, 2) := by decide +kernel
theorem dX4_scrub_80 : decode cX4_scrub 80 = .ok (.iconst (-1), 1) := by decide +kernel
theorem dX4_scrub_81 : decode cX4_scrub 81 = .ok (.istore 6, 2) := by decide +kernel
theorem dX4_scrub_83 : decode cX4_scrub 83 = .ok (.iconst 0, 1) := by decide +kernel
theorem dX4_scrub_84 : decode cX4_scrub 84 = .ok (.istore 7, 2) := by decide +kernel
theorem dX4_scrub_86 : decode cX4_scrub 86 = .ok (.iload 7, 2) := by decide +kernel
theorem dX4_scrub_88 : decode cX4_scrub 88 = .ok (.aload_n 0, 1) := by decide +kernel
theorem dX4_scrub_89 : decode cX4_scrub 89 = .ok (.getfield 69, 3) := by decide +kernel
theorem dX4_scrub_92 : decode cX4_scrub 92 = .ok (.if_icmp .ge 27, 3) := by decide +kernel
theorem dX4_scrub_95 : decode cX4_scrub 95 = .ok (.aload_n 0, 1) := by decide +kernel
theorem dX4_scrub_96 : decode cX4_scrub 96 = .ok (.iload 7, 2) := by decide +kernel
theorem dX4_scrub_98 : decode cX4_scrub 98 = .ok (.iload 4, 2) := by decide +kernel
theorem dX4_scrub_100 : decode cX4_scrub 100 = .ok (.invokevirtual 93, 3) := by decide +kernel
theorem dX4_scrub_103 : decode cX4_scrub 103 = .ok (.ifCond .ne 10, 3) := by decide +kernel
theorem dX4_scrub_106 : decode cX4_scrub 106 = .ok (.iinc 5 1, 3) := by decide +kernel
theorem dX4_scrub_109 : decode cX4_scrub 109 = .ok (.iload 7, 2) := by decide +kernel
theorem dX4_scrub_111 : decode cX4_scrub 111 = .ok (.istore 6, 2) := by decide +kernel
theorem dX4_scrub_113 : decode cX4_scrub 113 = .ok (.iinc 7 1, 3) := by decide +kernel
theorem dX4_scrub_116 : decode cX4_scrub 116 = .ok (.goto (-30), 3) := by decide +kernel
theorem dX4_scrub_119 : decode cX4_scrub 119 = .ok (.iload 5, 2) := by decide +kernel
theorem dX4_scrub_121 : decode cX4_scrub 121 = .ok (.ifCond .ne 21, 3) := by decide +kernel
theorem dX4_scrub_124 : decode cX4_scrub 124 = .ok (.aload_n 0, 1) := by decide +kernel
theorem dX4_scrub_125 : decode cX4_scrub 125 = .ok (.iload 4, 2) := by decide +kernel
theorem dX4_scrub_127 : decode cX4_scrub 127 = .ok (.invokevirtual 195, 3) := by decide +kernel
theorem dX4_scrub_130 : decode cX4_scrub 130 = .ok (.ifCond .ne 12, 3) := by decide +kernel
theorem dX4_scrub_133 : decode cX4_scrub 133 = .ok (.aload_n 0, 1) := by decide +kernel
theorem dX4_scrub_134 : decode cX4_scrub 134 = .ok (.iload 4, 2) := by decide +kernel
theorem dX4_scrub_136 : decode cX4_scrub 136 = .ok (.invokevirtual 78, 3) := by decide +kernel
theorem dX4_scrub_139 : decode cX4_scrub 139 = .ok (.goto 15, 3) := by decide +kernel
theorem dX4_scrub_142 : decode cX4_scrub 142 = .ok (.iload 5, 2) := by decide +kernel
theorem dX4_scrub_144 : decode cX4_scrub 144 = .ok (.iconst 1, 1) := by decide +kernel
theorem dX4_scrub_145 : decode cX4_scrub 145 = .ok (.if_icmp .ne 8, 3) := by decide +kernel
theorem dX4_scrub_148 : decode cX4_scrub 148 = .ok (.iload 6, 2) := by decide +kernel
theorem dX4_scrub_150 : decode cX4_scrub 150 = .ok (.goto 4, 3) := by decide +kernel
theorem dX4_scrub_153 : decode cX4_scrub 153 = .ok (.iconst (-1), 1) := by decide +kernel
theorem dX4_scrub_154 : decode cX4_scrub 154 = .ok (.istore 6, 2) := by decide +kernel
theorem dX4_scrub_156 : decode cX4_scrub 156 = .ok (.iload 6, 2) := by decide +kernel
theorem dX4_scrub_158 : decode cX4_scrub 158 = .ok (.iconst (-1), 1) := by decide +kernel
theorem dX4_scrub_159 : decode cX4_scrub 159 = .ok (.if_icmp .eq 39, 3) := by decide +kernel
theorem dX4_scrub_162 : decode cX4_scrub 162 = .ok (.aload_n 0, 1) := by decide +kernel
theorem dX4_scrub_163 : decode cX4_scrub 163 = .ok (.iload 6, 2) := by decide +kernel
theorem dX4_scrub_165 : decode cX4_scrub 165 = .ok (.iload 4, 2) := by decide +kernel
theorem dX4_scrub_167 : decode cX4_scrub 167 = .ok (.invokevirtual 189, 3) := by decide +kernel
theorem dX4_scrub_170 : decode cX4_scrub 170 = .ok (.aload_n 0, 1) := by decide +kernel
theorem dX4_scrub_171 : decode cX4_scrub 171 = .ok (.iload 6, 2) := by decide +kernel
theorem dX4_scrub_173 : decode cX4_scrub 173 = .ok (.iload 4, 2) := by decide +kernel
theorem dX4_scrub_175 : decode cX4_scrub 175 = .ok (.invokevirtual 130, 3) := by decide +kernel
theorem dX4_scrub_178 : decode cX4_scrub 178 = .ok (.ifCond .ne 6, 3) := by decide +kernel
theorem dX4_scrub_181 : decode cX4_scrub 181 = .ok (.bipush (-106), 2) := by decide +kernel
theorem dX4_scrub_183 : decode cX4_scrub 183 = .ok (.ireturn, 1) := by decide +kernel
theorem dX4_scrub_184 : decode cX4_scrub 184 = .ok (.iinc 2 1, 3) := by decide +kernel
theorem dX4_scrub_187 : decode cX4_scrub 187 = .ok (.aload_n 0, 1) := by decide +kernel
theorem dX4_scrub_188 : decode cX4_scrub 188 = .ok (.getfield 60, 3) := by decide +kernel
theorem dX4_scrub_191 : decode cX4_scrub 191 = .ok (.bipush 7, 2) := by decide +kernel
theorem dX4_scrub_193 : decode cX4_scrub 193 = .ok (.dup2, 1) := by decide +kernel
theorem dX4_scrub_194 : decode cX4_scrub 194 = .ok (.iaload, 1) := by decide +kernel
theorem dX4_scrub_195 : decode cX4_scrub 195 = .ok (.iconst 1, 1) := by decide +kernel
theorem dX4_scrub_196 : decode cX4_scrub 196 = .ok (.iadd, 1) := by decide +kernel
theorem dX4_scrub_197 : decode cX4_scrub 197 = .ok (.iastore, 1) := by decide +kernel
theorem dX4_scrub_198 : decode cX4_scrub 198 = .ok (.iinc 3 1, 3) := by decide +kernel
theorem dX4_scrub_201 : decode cX4_scrub 201 = .ok (.goto (-161), 3) := by decide +kernel
theorem dX4_scrub_204 : decode cX4_scrub 204 = .ok (.iload_n 2, 1) := by decide +kernel
theorem dX4_scrub_205 : decode cX4_scrub 205 = .ok (.ireturn, 1) := by decide +kernel
set_option maxRecDepth 20000 in
theorem ggX4_isEven_X4_others : GoodIn wsX4_isEven wsX4_others := goodIn_r _ [5, 6, 7, 8, 9, 10, 4, 11, 12, 13, 14, 15, 16, 17, 18, 19, 20, 21, 22, 23, 24, 25, 26, 27, 28, 29, 30, 31, 32, 33, 34, 35, 36] (by decide +kernel) (by decide +kernel)
set_option maxRecDepth 20000 in
theorem gX4_isEven_X4_others : GoodIn wsX4_isEven (wsV RX4 181 RX4 yX4_others wsX4_others) := goodIn_app (goodIn_of _ (by decide +kernel)) ggX4_isEven_X4_others
theorem dX4_isEven_0 : decode cX4_isEven 0 = .ok (.iconst 1, 1) := by decide +kernel
theorem dX4_isEven_1 : decode cX4_isEven 1 = .ok (.istore_n 2, 1) := by decide +kernel
theorem dX4_isEven_2 : decode cX4_isEven 2 = .ok (.iconst 0, 1) := by decide +kernel
theorem dX4_isEven_3 : decode cX4_isEven 3 = .ok (.istore_n 3, 1) := by decide +kernel
theorem dX4_isEven_4 : decode cX4_isEven 4 = .ok (.iload_n 3, 1) := by decide +kernel
theorem dX4_isEven_5 : decode cX4_isEven 5 = .ok (.bipush 8, 2) := by decide +kernel
theorem dX4_isEven_7 : decode cX4_isEven 7 = .ok (.if_icmp .ge 29, 3) := by decide +kernel
theorem dX4_isEven_10 : decode cX4_isEven 10 = .ok (.iload_n 2, 1) := by decide +kernel
theorem dX4_isEven_11 : decode cX4_isEven 11 = .ok (.ifCond .eq 17, 3) := by decide +kernel
theorem dX4_isEven_14 : decode cX4_isEven 14 = .ok (.aload_n 0, 1) := by decide +kernel
theorem dX4_isEven_15 : decode cX4_isEven 15 = .ok (.iconst (-1), 1) := by decide +kernel
theorem dX4_isEven_16 : decode cX4_isEven 16 = .ok (.iload_n 1, 1) := by decide +kernel
theorem dX4_isEven_17 : decode cX4_isEven 17 = .ok (.iload_n 3, 1) := by decide +kernel
theorem dX4_isEven_18 : decode cX4_isEven 18 = .ok (.invokevirtual 181, 3) := by decide +kernel
theorem dX4_isEven_21 : decode cX4_isEven 21 = .ok (.ifCond .ne 7, 3) := by decide +kernel
theorem dX4_isEven_24 : decode cX4_isEven 24 = .ok (.iconst 1, 1) := by decide +kernel
theorem dX4_isEven_25 : decode cX4_isEven 25 = .ok (.goto 4, 3) := by decide +kernel
theorem dX4_isEven_28 : decode cX4_isEven 28 = .ok (.iconst 0, 1) := by decide +kernel
theorem dX4_isEven_29 : decode cX4_isEven 29 = .ok (.istore_n 2, 1) := by decide +kernel
theorem dX4_isEven_30 : decode cX4_isEven 30 = .ok (.iinc 3 1, 3) := by decide +kernel
theorem dX4_isEven_33 : decode cX4_isEven 33 = .ok (.goto (-29), 3) := by decide +kernel
theorem dX4_isEven_36 : decode cX4_isEven 36 = .ok (.iload_n 2, 1) := by decide +kernel
theorem dX4_isEven_37 : decode cX4_isEven 37 = .ok (.ireturn, 1) := by decide +kernel
set_option maxRecDepth 20000 in
theorem ggX4_rot_X4_in : GoodIn wsX4_rot wsX4_in := goodIn_r _ [8] (by decide +kernel) (by decide +kernel)
set_option maxRecDepth 20000 in
theorem gX4_rot_X4_in : GoodIn wsX4_rot (va_wsS RX4 74 yX4_in wsX4_in) := goodIn_app (goodIn_of _ (by decide +kernel)) ggX4_rot_X4_in
set_option maxRecDepth 20000 in
theorem ggX4_rot_X4_at : GoodIn wsX4_rot wsX4_at := goodIn_r _ [12] (by decide +kernel) (by decide +kernel)
set_option maxRecDepth 20000 in
theorem gX4_rot_X4_at : GoodIn wsX4_rot (wsV RX4 82 RX4 yX4_at wsX4_at) := goodIn_app (goodIn_of _ (by decide +kernel)) ggX4_rot_X4_at
theorem dX4_rot_0 : decode cX4_rot 0 = .ok (.iload_n 1, 1) := by decide +kernel
theorem dX4_rot_1 : decode cX4_rot 1 = .ok (.i2l, 1) := by decide +kernel
theorem dX4_rot_2 : decode cX4_rot 2 = .ok (.lconst 0, 1) := by decide +kernel
theorem dX4_rot_3 : decode cX4_rot 3 = .ok (.aload_n 0, 1) := by decide +kernel
theorem dX4_rot_4 : decode cX4_rot 4 = .ok (.getfield 69, 3) := by decide +kernel
theorem dX4_rot_7 : decode cX4_rot 7 = .ok (.iconst 1, 1) := by decide +kernel
theorem dX4_rot_8 : decode cX4_rot 8 = .ok (.isub, 1) := by decide +kernel
theorem dX4_rot_9 : decode cX4_rot 9 = .ok (.i2l, 1) := by decide +kernel
theorem dX4_rot_10 : decode cX4_rot 10 = .ok (.invokestatic 74, 3) := by decide +kernel
theorem dX4_rot_13 : decode cX4_rot 13 = .ok (.ifCond .eq 27, 3) := by decide +kernel
theorem dX4_rot_16 : decode cX4_rot 16 = .ok (.iload_n 2, 1) := by decide +kernel
theorem dX4_rot_17 : decode cX4_rot 17 = .ok (.i2l, 1) := by decide +kernel
theorem dX4_rot_18 : decode cX4_rot 18 = .ok (.lconst 0, 1) := by decide +kernel
theorem dX4_rot_19 : decode cX4_rot 19 = .ok (.ldc2_w 198, 3) := by decide +kernel
theorem dX4_rot_22 : decode cX4_rot 22 = .ok (.invokestatic 74, 3) := by decide +kernel
theorem dX4_rot_25 : decode cX4_rot 25 = .ok (.ifCond .eq 15, 3) := by decide +kernel
theorem dX4_rot_28 : decode cX4_rot 28 = .ok (.iload_n 3, 1) := by decide +kernel
theorem dX4_rot_29 : decode cX4_rot 29 = .ok (.i2l, 1) := by decide +kernel
theorem dX4_rot_30 : decode cX4_rot 30 = .ok (.lconst 0, 1) := by decide +kernel
theorem dX4_rot_31 : decode cX4_rot 31 = .ok (.ldc2_w 179, 3) := by decide +kernel
theorem dX4_rot_34 : decode cX4_rot 34 = .ok (.invokestatic 74, 3) := by decide +kernel
theorem dX4_rot_37 : decode cX4_rot 37 = .ok (.ifCond .ne 6, 3) := by decide +kernel
theorem dX4_rot_40 : decode cX4_rot 40 = .ok (.bipush (-101), 2) := by decide +kernel
theorem dX4_rot_42 : decode cX4_rot 42 = .ok (.ireturn, 1) := by decide +kernel
theorem dX4_rot_43 : decode cX4_rot 43 = .ok (.bipush 8, 2) := by decide +kernel
theorem dX4_rot_45 : decode cX4_rot 45 = .ok (.aload_n 0, 1) := by decide +kernel
theorem dX4_rot_46 : decode cX4_rot 46 = .ok (.iload_n 1, 1) := by decide +kernel
theorem dX4_rot_47 : decode cX4_rot 47 = .ok (.iload_n 2, 1) := by decide +kernel
theorem dX4_rot_48 : decode cX4_rot 48 = .ok (.invokevirtual 82, 3) := by decide +kernel
theorem dX4_rot_51 : decode cX4_rot 51 = .ok (.imul, 1) := by decide +kernel
theorem dX4_rot_52 : decode cX4_rot 52 = .ok (.iload_n 3, 1) := by decide +kernel
theorem dX4_rot_53 : decode cX4_rot 53 = .ok (.iadd, 1) := by decide +kernel
theorem dX4_rot_54 : decode cX4_rot 54 = .ok (.istore 5, 2) := by decide +kernel
theorem dX4_rot_56 : decode cX4_rot 56 = .ok (.aload_n 0, 1) := by decide +kernel
theorem dX4_rot_57 : decode cX4_rot 57 = .ok (.getfield 13, 3) := by decide +kernel
theorem dX4_rot_60 : decode cX4_rot 60 = .ok (.iload 5, 2) := by decide +kernel
theorem dX4_rot_62 : decode cX4_rot 62 = .ok (.dup2, 1) := by decide +kernel
theorem dX4_rot_63 : decode cX4_rot 63 = .ok (.iaload, 1) := by decide +kernel
theorem dX4_rot_64 : decode cX4_rot 64 = .ok (.iload 4, 2) := by decide +kernel
theorem dX4_rot_66 : decode cX4_rot 66 = .ok (.ixor, 1) := by decide +kernel
theorem dX4_rot_67 : decode cX4_rot 67 = .ok (.iastore, 1) := by decide +kernel
theorem dX4_rot_68 : decode cX4_rot 68 = .ok (.aload_n 0, 1) := by decide +kernel
theorem dX4_rot_69 : decode cX4_rot 69 = .ok (.getfield 13, 3) := by decide +kernel
theorem dX4_rot_72 : decode cX4_rot 72 = .ok (.iload 5, 2) := by decide +kernel
theorem dX4_rot_74 : decode cX4_rot 74 = .ok (.iaload, 1) := by decide +kernel
theorem dX4_rot_75 : decode cX4_rot 75 = .ok (.ireturn, 1) := by decide +kernel
set_option maxRecDepth 20000 in
theorem ggX4_cut_X4_in : GoodIn wsX4_cut wsX4_in := goodIn_r _ [10] (by decide +kernel) (by decide +kernel)
set_option maxRecDepth 20000 in
theorem gX4_cut_X4_in : GoodIn wsX4_cut (va_wsS RX4 74 yX4_in wsX4_in) := goodIn_app (goodIn_of _ (by decide +kernel)) ggX4_cut_X4_in
theorem dX4_cut_0 : decode cX4_cut 0 = .ok (.aload_n 0, 1) := by decide +kernel
theorem dX4_cut_1 : decode cX4_cut 1 = .ok (.getfield 103, 3) := by decide +kernel
theorem dX4_cut_4 : decode cX4_cut 4 = .ok (.ifCond .eq 6, 3) := by decide +kernel
theorem dX4_cut_7 : decode cX4_cut 7 = .ok (.bipush (-100), 2) := by decide +kernel
theorem dX4_cut_9 : decode cX4_cut 9 = .ok (.ireturn, 1) := by decide +kernel
theorem dX4_cut_10 : decode cX4_cut 10 = .ok (.iload_n 1, 1) := by decide +kernel
theorem dX4_cut_11 : decode cX4_cut 11 = .ok (.i2l, 1) := by decide +kernel
theorem dX4_cut_12 : decode cX4_cut 12 = .ok (.ldc2_w 200, 3) := by decide +kernel
theorem dX4_cut_15 : decode cX4_cut 15 = .ok (.ldc2_w 202, 3) := by decide +kernel
theorem dX4_cut_18 : decode cX4_cut 18 = .ok (.invokestatic 74, 3) := by decide +kernel
theorem dX4_cut_21 : decode cX4_cut 21 = .ok (.ifCond .eq 15, 3) := by decide +kernel
theorem dX4_cut_24 : decode cX4_cut 24 = .ok (.iload_n 2, 1) := by decide +kernel
theorem dX4_cut_25 : decode cX4_cut 25 = .ok (.i2l, 1) := by decide +kernel
theorem dX4_cut_26 : decode cX4_cut 26 = .ok (.lconst 0, 1) := by decide +kernel
theorem dX4_cut_27 : decode cX4_cut 27 = .ok (.ldc2_w 204, 3) := by decide +kernel
theorem dX4_cut_30 : decode cX4_cut 30 = .ok (.invokestatic 74, 3) := by decide +kernel
theorem dX4_cut_33 : decode cX4_cut 33 = .ok (.ifCond .ne 6, 3) := by decide +kernel
theorem dX4_cut_36 : decode cX4_cut 36 = .ok (.bipush (-102), 2) := by decide +kernel
theorem dX4_cut_38 : decode cX4_cut 38 = .ok (.ireturn, 1) := by decide +kernel
theorem dX4_cut_39 : decode cX4_cut 39 = .ok (.aload_n 0, 1) := by decide +kernel
theorem dX4_cut_40 : decode cX4_cut 40 = .ok (.iload_n 1, 1) := by decide +kernel
theorem dX4_cut_41 : decode cX4_cut 41 = .ok (.putfield 57, 3) := by decide +kernel
theorem dX4_cut_44 : decode cX4_cut 44 = .ok (.aload_n 0, 1) := by decide +kernel
theorem dX4_cut_45 : decode cX4_cut 45 = .ok (.iload_n 2, 1) := by decide +kernel
theorem dX4_cut_46 : decode cX4_cut 46 = .ok (.putfield 114, 3) := by decide +kernel
theorem dX4_cut_49 : decode cX4_cut 49 = .ok (.iconst 1, 1) := by decide +kernel
theorem dX4_cut_50 : decode cX4_cut 50 = .ok (.ireturn, 1) := by decide +kernel
set_option maxRecDepth 20000 in
theorem ggX4_start_X4_in : GoodIn wsX4_start wsX4_in := goodIn_r _ [15] (by decide +kernel) (by decide +kernel)
set_option maxRecDepth 20000 in
theorem gX4_start_X4_in : GoodIn wsX4_start (va_wsS RX4 74 yX4_in wsX4_in) := goodIn_app (goodIn_of _ (by decide +kernel)) ggX4_start_X4_in
set_option maxRecDepth 20000 in
theorem ggX4_start_X4_cellsOf : GoodIn wsX4_start wsX4_cellsOf := goodIn_r _ [19, 20, 21, 22, 73, 74, 75, 76, 77, 78, 79, 80, 81, 82, 83, 84, 85, 86, 87, 88, 89, 90, 91, 92, 93, 94, 95, 96, 97] (by decide +kernel) (by decide +kernel)
set_option maxRecDepth 20000 in
theorem gX4_start_X4_cellsOf : GoodIn wsX4_start (wsV RX4 123 RX4 yX4_cellsOf wsX4_cellsOf) := goodIn_app (goodIn_of _ (by decide +kernel)) ggX4_start_X4_cellsOf
set_option maxRecDepth 20000 in
theorem ggX4_start_X4_done : GoodIn wsX4_start wsX4_done := goodIn_r _ [26, 27, 21, 22, 20, 28, 29, 30, 14, 31, 32, 33, 34, 35, 36, 37, 38, 39, 40, 41, 42, 43, 44, 45, 46, 47, 48, 49, 50, 51, 52, 53, 54, 55, 56, 57, 58, 59, 60, 61, 62, 63, 64, 9, 4, 1, 11, 65, 66, 67, 68, 73, 74, 75, 76, 77, 78, 79, 80, 81, 82, 83, 84, 85, 86, 87, 88, 89, 90, 91, 92, 93, 94, 95, 96, 97] (by decide +kernel) (by decide +kernel)
set_option maxRecDepth 20000 in
theorem gX4_start_X4_done : GoodIn wsX4_start (wsV RX4 133 RX4 yX4_done wsX4_done) := goodIn_app (goodIn_of _ (by decide +kernel)) ggX4_start_X4_done
set_option maxRecDepth 20000 in
theorem ggX4_start_X4_markIs : GoodIn wsX4_start wsX4_markIs := goodIn_r _ [72, 9, 5, 6, 61, 62, 63, 14, 64, 4, 1, 11, 21, 41, 73, 74, 75, 76, 77, 78, 79, 80, 81, 82, 83, 84, 85, 86, 87, 88, 89, 90, 91, 92, 93, 94, 95, 96, 97] (by decide +kernel) (by decide +kernel)
set_option maxRecDepth 20000 in
theorem gX4_start_X4_markIs : GoodIn wsX4_start (wsV RX4 137 RX4 yX4_markIs wsX4_markIs) := goodIn_app (goodIn_of _ (by decide +kernel)) ggX4_start_X4_markIs
theorem dX4_start_0 : decode cX4_start 0 = .ok (.aload_n 0, 1) := by decide +kernel
theorem dX4_start_1 : decode cX4_start 1 = .ok (.getfield 103, 3) := by decide +kernel
theorem dX4_start_4 : decode cX4_start 4 = .ok (.ifCond .ne 6, 3) := by decide +kernel
theorem dX4_start_7 : decode cX4_start 7 = .ok (.bipush (-103), 2) := by decide +kernel
theorem dX4_start_9 : decode cX4_start 9 = .ok (.ireturn, 1) := by decide +kernel
theorem dX4_start_10 : decode cX4_start 10 = .ok (.iload_n 1, 1) := by decide +kernel
theorem dX4_start_11 : decode cX4_start 11 = .ok (.i2l, 1) := by decide +kernel
theorem dX4_start_12 : decode cX4_start 12 = .ok (.ldc2_w 200, 3) := by decide +kernel
theorem dX4_start_15 : decode cX4_start 15 = .ok (.ldc2_w 202, 3) := by decide +kernel
theorem dX4_start_18 : decode cX4_start 18 = .ok (.invokestatic 74, 3) := by decide +kernel
theorem dX4_start_21 : decode cX4_start 21 = .ok (.ifCond .ne 6, 3) := by decide +kernel
theorem dX4_start_24 : decode cX4_start 24 = .ok (.bipush (-102), 2) := by decide +kernel
theorem dX4_start_26 : decode cX4_start 26 = .ok (.ireturn, 1) := by decide +kernel
theorem dX4_start_27 : decode cX4_start 27 = .ok (.aload_n 0, 1) := by decide +kernel
theorem dX4_start_28 : decode cX4_start 28 = .ok (.iconst 0, 1) := by decide +kernel
theorem dX4_start_29 : decode cX4_start 29 = .ok (.putfield 103, 3) := by decide +kernel
theorem dX4_start_32 : decode cX4_start 32 = .ok (.aload_n 0, 1) := by decide +kernel
theorem dX4_start_33 : decode cX4_start 33 = .ok (.iload_n 1, 1) := by decide +kernel
theorem dX4_start_34 : decode cX4_start 34 = .ok (.putfield 57, 3) := by decide +kernel
theorem dX4_start_37 : decode cX4_start 37 = .ok (.aload_n 0, 1) := by decide +kernel
theorem dX4_start_38 : decode cX4_start 38 = .ok (.getfield 117, 3) := by decide +kernel
theorem dX4_start_41 : decode cX4_start 41 = .ok (.istore_n 2, 1) := by decide +kernel
theorem dX4_start_42 : decode cX4_start 42 = .ok (.aload_n 0, 1) := by decide +kernel
theorem dX4_start_43 : decode cX4_start 43 = .ok (.getfield 51, 3) := by decide +kernel
theorem dX4_start_46 : decode cX4_start 46 = .ok (.istore_n 3, 1) := by decide +kernel
theorem dX4_start_47 : decode cX4_start 47 = .ok (.iconst 0, 1) := by decide +kernel
theorem dX4_start_48 : decode cX4_start 48 = .ok (.istore 4, 2) := by decide +kernel
theorem dX4_start_50 : decode cX4_start 50 = .ok (.iload 4, 2) := by decide +kernel
theorem dX4_start_52 : decode cX4_start 52 = .ok (.aload_n 0, 1) := by decide +kernel
theorem dX4_start_53 : decode cX4_start 53 = .ok (.getfield 120, 3) := by decide +kernel
theorem dX4_start_56 : decode cX4_start 56 = .ok (.if_icmp .ge 54, 3) := by decide +kernel
theorem dX4_start_59 : decode cX4_start 59 = .ok (.iload_n 2, 1) := by decide +kernel
theorem dX4_start_60 : decode cX4_start 60 = .ok (.aload_n 0, 1) := by decide +kernel
theorem dX4_start_61 : decode cX4_start 61 = .ok (.iload 4, 2) := by decide +kernel
theorem dX4_start_63 : decode cX4_start 63 = .ok (.invokevirtual 123, 3) := by decide +kernel
theorem dX4_start_66 : decode cX4_start 66 = .ok (.iadd, 1) := by decide +kernel
theorem dX4_start_67 : decode cX4_start 67 = .ok (.bipush 32, 2) := by decide +kernel
theorem dX4_start_69 : decode cX4_start 69 = .ok (.irem, 1) := by decide +kernel
theorem dX4_start_70 : decode cX4_start 70 = .ok (.istore_n 2, 1) := by decide +kernel
theorem dX4_start_71 : decode cX4_start 71 = .ok (.aload_n 0, 1) := by decide +kernel
theorem dX4_start_72 : decode cX4_start 72 = .ok (.getfield 36, 3) := by decide +kernel
theorem dX4_start_75 : decode cX4_start 75 = .ok (.iload 4, 2) := by decide +kernel
theorem dX4_start_77 : decode cX4_start 77 = .ok (.iaload, 1) := by decide +kernel
theorem dX4_start_78 : decode cX4_start 78 = .ok (.iconst 1, 1) := by decide +kernel
theorem dX4_start_79 : decode cX4_start 79 = .ok (.iadd, 1) := by decide +kernel
theorem dX4_start_80 : decode cX4_start 80 = .ok (.istore_n 3, 1) := by decide +kernel
theorem dX4_start_81 : decode cX4_start 81 = .ok (.aload_n 0, 1) := by decide +kernel
theorem dX4_start_82 : decode cX4_start 82 = .ok (.iload 4, 2) := by decide +kernel
theorem dX4_start_84 : decode cX4_start 84 = .ok (.invokevirtual 133, 3) := by decide +kernel
theorem dX4_start_87 : decode cX4_start 87 = .ok (.ifCond .ne 6, 3) := by decide +kernel
theorem dX4_start_90 : decode cX4_start 90 = .ok (.bipush (-106), 2) := by decide +kernel
theorem dX4_start_92 : decode cX4_start 92 = .ok (.ireturn, 1) := by decide +kernel
theorem dX4_start_93 : decode cX4_start 93 = .ok (.aload_n 0, 1) := by decide +kernel
theorem dX4_start_94 : decode cX4_start 94 = .ok (.getfield 60, 3) := by decide +kernel
theorem dX4_start_97 : decode cX4_start 97 = .ok (.bipush 6, 2) := by decide +kernel
theorem dX4_start_99 : decode cX4_start 99 = .ok (.dup2, 1) := by decide +kernel
theorem dX4_start_100 : decode cX4_start 100 = .ok (.iaload, 1) := by decide +kernel
theorem dX4_start_101 : decode cX4_start 101 = .ok (.iconst 1, 1) := by decide +kernel
theorem dX4_start_102 : decode cX4_start 102 = .ok (.iadd, 1) := by decide +kernel
theorem dX4_start_103 : decode cX4_start 103 = .ok (.iastore, 1) := by decide +kernel
theorem dX4_start_104 : decode cX4_start 104 = .ok (.iinc 4 1, 3) := by decide +kernel
theorem dX4_start_107 : decode cX4_start 107 = .ok (.goto (-57), 3) := by decide +kernel
theorem dX4_start_110 : decode cX4_start 110 = .ok (.aload_n 0, 1) := by decide +kernel
theorem dX4_start_111 : decode cX4_start 111 = .ok (.iload_n 2, 1) := by decide +kernel
theorem dX4_start_112 : decode cX4_start 112 = .ok (.iload_n 3, 1) := by decide +kernel
theorem dX4_start_113 : decode cX4_start 113 = .ok (.invokevirtual 137, 3) := by decide +kernel
theorem dX4_start_116 : decode cX4_start 116 = .ok (.ifCond .ne 6, 3) := by decide +kernel
theorem dX4_start_119 : decode cX4_start 119 = .ok (.bipush (-106), 2) := by decide +kernel
theorem dX4_start_121 : decode cX4_start 121 = .ok (.ireturn, 1) := by decide +kernel
theorem dX4_start_122 : decode cX4_start 122 = .ok (.aload_n 0, 1) := by decide +kernel
theorem dX4_start_123 : decode cX4_start 123 = .ok (.getfield 120, 3) := by decide +kernel
theorem dX4_start_126 : decode cX4_start 126 = .ok (.istore 4, 2) := by decide +kernel
theorem dX4_start_128 : decode cX4_start 128 = .ok (.aload_n 0, 1) := by decide +kernel
theorem dX4_start_129 : decode cX4_start 129 = .ok (.iconst 0, 1) := by decide +kernel
theorem dX4_start_130 : decode cX4_start 130 = .ok (.putfield 120, 3) := by decide +kernel
theorem dX4_start_133 : decode cX4_start 133 = .ok (.aload_n 0, 1) := by decide +kernel
theorem dX4_start_134 : decode cX4_start 134 = .ok (.iload_n 3, 1) := by decide +kernel
theorem dX4_start_135 : decode cX4_start 135 = .ok (.putfield 54, 3) := by decide +kernel
theorem dX4_start_138 : decode cX4_start 138 = .ok (.aload_n 0, 1) := by decide +kernel
theorem dX4_start_139 : decode cX4_start 139 = .ok (.iconst (-1), 1) := by decide +kernel
theorem dX4_start_140 : decode cX4_start 140 = .ok (.putfield 57, 3) := by decide +kernel
theorem dX4_start_143 : decode cX4_start 143 = .ok (.aload_n 0, 1) := by decide +kernel
theorem dX4_start_144 : decode cX4_start 144 = .ok (.iconst 0, 1) := by decide +kernel
theorem dX4_start_145 : decode cX4_start 145 = .ok (.putfield 107, 3) := by decide +kernel
theorem dX4_start_148 : decode cX4_start 148 = .ok (.iload 4, 2) := by decide +kernel
theorem dX4_start_150 : decode cX4_start 150 = .ok (.ireturn, 1) := by decide +kernel
set_option maxRecDepth 20000 in
theorem ggX4_chunk_X4_in : GoodIn wsX4_chunk wsX4_in := goodIn_r _ [10] (by decide +kernel) (by decide +kernel)
set_option maxRecDepth 20000 in
theorem gX4_chunk_X4_in : GoodIn wsX4_chunk (va_wsS RX4 74 yX4_in wsX4_in) := goodIn_app (goodIn_of _ (by decide +kernel)) ggX4_chunk_X4_in
set_option maxRecDepth 20000 in
theorem ggX4_chunk_X4_at : GoodIn wsX4_chunk wsX4_at := goodIn_r _ [14] (by decide +kernel) (by decide +kernel)
set_option maxRecDepth 20000 in
theorem gX4_chunk_X4_at : GoodIn wsX4_chunk (wsV RX4 82 RX4 yX4_at wsX4_at) := goodIn_app (goodIn_of _ (by decide +kernel)) ggX4_chunk_X4_at
set_option maxRecDepth 20000 in
theorem ggX4_chunk_X4_isThere : GoodIn wsX4_chunk wsX4_isThere := goodIn_r _ [18, 6, 5, 11, 12, 13, 9, 14, 19, 20, 21, 22, 23, 24, 25, 26, 27, 28, 4, 29, 30, 31, 32, 33, 34, 35, 36, 37, 38, 39, 40, 41, 42, 43, 44, 45, 46, 47, 48, 49, 50, 51, 52, 53] (by decide +kernel) (by decide +kernel)
set_option maxRecDepth 20000 in
theorem gX4_chunk_X4_isThere : GoodIn wsX4_chunk (wsV RX4 93 RX4 yX4_isThere wsX4_isThere) := goodIn_app (goodIn_of _ (by decide +kernel)) ggX4_chunk_X4_isThere
theorem dX4_chunk_0 : decode cX4_chunk 0 = .ok (.iload_n 1, 1) := by decide +kernel
theorem dX4_chunk_1 : decode cX4_chunk 1 = .ok (.i2l, 1) := by decide +kernel
theorem dX4_chunk_2 : decode cX4_chunk 2 = .ok (.lconst 0, 1) := by decide +kernel
theorem dX4_chunk_3 : decode cX4_chunk 3 = .ok (.aload_n 0, 1) := by decide +kernel
theorem dX4_chunk_4 : decode cX4_chunk 4 = .ok (.getfield 69, 3) := by decide +kernel
theorem dX4_chunk_7 : decode cX4_chunk 7 = .ok (.iconst 1, 1) := by decide +kernel
theorem dX4_chunk_8 : decode cX4_chunk 8 = .ok (.isub, 1) := by decide +kernel
theorem dX4_chunk_9 : decode cX4_chunk 9 = .ok (.i2l, 1) := by decide +kernel
theorem dX4_chunk_10 : decode cX4_chunk 10 = .ok (.invokestatic 74, 3) := by decide +kernel
theorem dX4_chunk_13 : decode cX4_chunk 13 = .ok (.ifCond .eq 15, 3) := by decide +kernel
theorem dX4_chunk_16 : decode cX4_chunk 16 = .ok (.iload_n 2, 1) := by decide +kernel
theorem dX4_chunk_17 : decode cX4_chunk 17 = .ok (.i2l, 1) := by decide +kernel
theorem dX4_chunk_18 : decode cX4_chunk 18 = .ok (.lconst 0, 1) := by decide +kernel
theorem dX4_chunk_19 : decode cX4_chunk 19 = .ok (.ldc2_w 198, 3) := by decide +kernel
theorem dX4_chunk_22 : decode cX4_chunk 22 = .ok (.invokestatic 74, 3) := by decide +kernel
theorem dX4_chunk_25 : decode cX4_chunk 25 = .ok (.ifCond .ne 6, 3) := by decide +kernel
theorem dX4_chunk_28 : decode cX4_chunk 28 = .ok (.bipush (-101), 2) := by decide +kernel
theorem dX4_chunk_30 : decode cX4_chunk 30 = .ok (.ireturn, 1) := by decide +kernel
theorem dX4_chunk_31 : decode cX4_chunk 31 = .ok (.aload_n 0, 1) := by decide +kernel
theorem dX4_chunk_32 : decode cX4_chunk 32 = .ok (.iload_n 1, 1) := by decide +kernel
theorem dX4_chunk_33 : decode cX4_chunk 33 = .ok (.iload_n 2, 1) := by decide +kernel
theorem dX4_chunk_34 : decode cX4_chunk 34 = .ok (.invokevirtual 82, 3) := by decide +kernel
theorem dX4_chunk_37 : decode cX4_chunk 37 = .ok (.istore 4, 2) := by decide +kernel
theorem dX4_chunk_39 : decode cX4_chunk 39 = .ok (.iload_n 3, 1) := by decide +kernel
theorem dX4_chunk_40 : decode cX4_chunk 40 = .ok (.i2l, 1) := by decide +kernel
theorem dX4_chunk_41 : decode cX4_chunk 41 = .ok (.lconst 0, 1) := by decide +kernel
theorem dX4_chunk_42 : decode cX4_chunk 42 = .ok (.ldc2_w 179, 3) := by decide +kernel
theorem dX4_chunk_45 : decode cX4_chunk 45 = .ok (.invokestatic 74, 3) := by decide +kernel
theorem dX4_chunk_48 : decode cX4_chunk 48 = .ok (.ifCond .eq 16, 3) := by decide +kernel
theorem dX4_chunk_51 : decode cX4_chunk 51 = .ok (.aload_n 0, 1) := by decide +kernel
theorem dX4_chunk_52 : decode cX4_chunk 52 = .ok (.getfield 13, 3) := by decide +kernel
theorem dX4_chunk_55 : decode cX4_chunk 55 = .ok (.bipush 8, 2) := by decide +kernel
theorem dX4_chunk_57 : decode cX4_chunk 57 = .ok (.iload 4, 2) := by decide +kernel
theorem dX4_chunk_59 : decode cX4_chunk 59 = .ok (.imul, 1) := by decide +kernel
theorem dX4_chunk_60 : decode cX4_chunk 60 = .ok (.iload_n 3, 1) := by decide +kernel
theorem dX4_chunk_61 : decode cX4_chunk 61 = .ok (.iadd, 1) := by decide +kernel
theorem dX4_chunk_62 : decode cX4_chunk 62 = .ok (.iaload, 1) := by decide +kernel
theorem dX4_chunk_63 : decode cX4_chunk 63 = .ok (.ireturn, 1) := by decide +kernel
theorem dX4_chunk_64 : decode cX4_chunk 64 = .ok (.iload_n 3, 1) := by decide +kernel
theorem dX4_chunk_65 : decode cX4_chunk 65 = .ok (.bipush 8, 2) := by decide +kernel
theorem dX4_chunk_67 : decode cX4_chunk 67 = .ok (.if_icmp .ne 13, 3) := by decide +kernel
theorem dX4_chunk_70 : decode cX4_chunk 70 = .ok (.aload_n 0, 1) := by decide +kernel
theorem dX4_chunk_71 : decode cX4_chunk 71 = .ok (.getfield 17, 3) := by decide +kernel
theorem dX4_chunk_74 : decode cX4_chunk 74 = .ok (.iload 4, 2) := by decide +kernel
theorem dX4_chunk_76 : decode cX4_chunk 76 = .ok (.iaload, 1) := by decide +kernel
theorem dX4_chunk_77 : decode cX4_chunk 77 = .ok (.goto 52, 3) := by decide +kernel
theorem dX4_chunk_80 : decode cX4_chunk 80 = .ok (.iload_n 3, 1) := by decide +kernel
theorem dX4_chunk_81 : decode cX4_chunk 81 = .ok (.bipush 9, 2) := by decide +kernel
theorem dX4_chunk_83 : decode cX4_chunk 83 = .ok (.if_icmp .ne 21, 3) := by decide +kernel
theorem dX4_chunk_86 : decode cX4_chunk 86 = .ok (.aload_n 0, 1) := by decide +kernel
theorem dX4_chunk_87 : decode cX4_chunk 87 = .ok (.getfield 20, 3) := by decide +kernel
theorem dX4_chunk_90 : decode cX4_chunk 90 = .ok (.iload 4, 2) := by decide +kernel
theorem dX4_chunk_92 : decode cX4_chunk 92 = .ok (.baload, 1) := by decide +kernel
theorem dX4_chunk_93 : decode cX4_chunk 93 = .ok (.ifCond .eq 7, 3) := by decide +kernel
theorem dX4_chunk_96 : decode cX4_chunk 96 = .ok (.iconst 1, 1) := by decide +kernel
theorem dX4_chunk_97 : decode cX4_chunk 97 = .ok (.goto 32, 3) := by decide +kernel
theorem dX4_chunk_100 : decode cX4_chunk 100 = .ok (.iconst 0, 1) := by decide +kernel
theorem dX4_chunk_101 : decode cX4_chunk 101 = .ok (.goto 28, 3) := by decide +kernel
theorem dX4_chunk_104 : decode cX4_chunk 104 = .ok (.iload_n 3, 1) := by decide +kernel
theorem dX4_chunk_105 : decode cX4_chunk 105 = .ok (.bipush 10, 2) := by decide +kernel
theorem dX4_chunk_107 : decode cX4_chunk 107 = .ok (.if_icmp .ne 20, 3) := by decide +kernel
theorem dX4_chunk_110 : decode cX4_chunk 110 = .ok (.aload_n 0, 1) := by decide +kernel
theorem dX4_chunk_111 : decode cX4_chunk 111 = .ok (.iload_n 1, 1) := by decide +kernel
theorem dX4_chunk_112 : decode cX4_chunk 112 = .ok (.iload_n 2, 1) := by decide +kernel
theorem dX4_chunk_113 : decode cX4_chunk 113 = .ok (.invokevirtual 93, 3) := by decide +kernel
theorem dX4_chunk_116 : decode cX4_chunk 116 = .ok (.ifCond .eq 7, 3) := by decide +kernel
theorem dX4_chunk_119 : decode cX4_chunk 119 = .ok (.iconst 1, 1) := by decide +kernel
theorem dX4_chunk_120 : decode cX4_chunk 120 = .ok (.goto 9, 3) := by decide +kernel
theorem dX4_chunk_123 : decode cX4_chunk 123 = .ok (.iconst 0, 1) := by decide +kernel
theorem dX4_chunk_124 : decode cX4_chunk 124 = .ok (.goto 5, 3) := by decide +kernel
theorem dX4_chunk_127 : decode cX4_chunk 127 = .ok (.bipush (-102), 2) := by decide +kernel
theorem dX4_chunk_129 : decode cX4_chunk 129 = .ok (.ireturn, 1) := by decide +kernel
set_option maxRecDepth 20000 in
theorem ggX4_member_X4_in : GoodIn wsX4_member wsX4_in := goodIn_r _ [8] (by decide +kernel) (by decide +kernel)
set_option maxRecDepth 20000 in
theorem gX4_member_X4_in : GoodIn wsX4_member (va_wsS RX4 74 yX4_in wsX4_in) := goodIn_app (goodIn_of _ (by decide +kernel)) ggX4_member_X4_in
theorem dX4_member_0 : decode cX4_member 0 = .ok (.iload_n 1, 1) := by decide +kernel
theorem dX4_member_1 : decode cX4_member 1 = .ok (.i2l, 1) := by decide +kernel
theorem dX4_member_2 : decode cX4_member 2 = .ok (.lconst 0, 1) := by decide +kernel
theorem dX4_member_3 : decode cX4_member 3 = .ok (.aload_n 0, 1) := by decide +kernel
theorem dX4_member_4 : decode cX4_member 4 = .ok (.getfield 69, 3) := by decide +kernel
theorem dX4_member_7 : decode cX4_member 7 = .ok (.iconst 1, 1) := by decide +kernel
theorem dX4_member_8 : decode cX4_member 8 = .ok (.isub, 1) := by decide +kernel
theorem dX4_member_9 : decode cX4_member 9 = .ok (.i2l, 1) := by decide +kernel
theorem dX4_member_10 : decode cX4_member 10 = .ok (.invokestatic 74, 3) := by decide +kernel
theorem dX4_member_13 : decode cX4_member 13 = .ok (.ifCond .ne 6, 3) := by decide +kernel
theorem dX4_member_16 : decode cX4_member 16 = .ok (.bipush (-101), 2) := by decide +kernel
theorem dX4_member_18 : decode cX4_member 18 = .ok (.ireturn, 1) := by decide +kernel
theorem dX4_member_19 : decode cX4_member 19 = .ok (.iload_n 2, 1) := by decide +kernel
theorem dX4_member_20 : decode cX4_member 20 = .ok (.ifCond .ne 12, 3) := by decide +kernel
theorem dX4_member_23 : decode cX4_member 23 = .ok (.aload_n 0, 1) := by decide +kernel
theorem dX4_member_24 : decode cX4_member 24 = .ok (.getfield 24, 3) := by decide +kernel
theorem dX4_member_27 : decode cX4_member 27 = .ok (.iload_n 1, 1) := by decide +kernel
theorem dX4_member_28 : decode cX4_member 28 = .ok (.iaload, 1) := by decide +kernel
theorem dX4_member_29 : decode cX4_member 29 = .ok (.goto 61, 3) := by decide +kernel
theorem dX4_member_32 : decode cX4_member 32 = .ok (.iload_n 2, 1) := by decide +kernel
theorem dX4_member_33 : decode cX4_member 33 = .ok (.iconst 1, 1) := by decide +kernel
theorem dX4_member_34 : decode cX4_member 34 = .ok (.if_icmp .ne 40, 3) := by decide +kernel
theorem dX4_member_37 : decode cX4_member 37 = .ok (.aload_n 0, 1) := by decide +kernel
theorem dX4_member_38 : decode cX4_member 38 = .ok (.getfield 24, 3) := by decide +kernel
theorem dX4_member_41 : decode cX4_member 41 = .ok (.iload_n 1, 1) := by decide +kernel
theorem dX4_member_42 : decode cX4_member 42 = .ok (.iaload, 1) := by decide +kernel
theorem dX4_member_43 : decode cX4_member 43 = .ok (.ifCond .ne 8, 3) := by decide +kernel
theorem dX4_member_46 : decode cX4_member 46 = .ok (.bipush 24, 2) := by decide +kernel
theorem dX4_member_48 : decode cX4_member 48 = .ok (.goto 42, 3) := by decide +kernel
theorem dX4_member_51 : decode cX4_member 51 = .ok (.aload_n 0, 1) := by decide +kernel
theorem dX4_member_52 : decode cX4_member 52 = .ok (.getfield 24, 3) := by decide +kernel
theorem dX4_member_55 : decode cX4_member 55 = .ok (.iload_n 1, 1) := by decide +kernel
theorem dX4_member_56 : decode cX4_member 56 = .ok (.iaload, 1) := by decide +kernel
theorem dX4_member_57 : decode cX4_member 57 = .ok (.iconst 2, 1) := by decide +kernel
theorem dX4_member_58 : decode cX4_member 58 = .ok (.if_icmp .ne 12, 3) := by decide +kernel
theorem dX4_member_61 : decode cX4_member 61 = .ok (.aload_n 0, 1) := by decide +kernel
theorem dX4_member_62 : decode cX4_member 62 = .ok (.getfield 27, 3) := by decide +kernel
theorem dX4_member_65 : decode cX4_member 65 = .ok (.iload_n 1, 1) := by decide +kernel
theorem dX4_member_66 : decode cX4_member 66 = .ok (.iaload, 1) := by decide +kernel
theorem dX4_member_67 : decode cX4_member 67 = .ok (.goto 23, 3) := by decide +kernel
theorem dX4_member_70 : decode cX4_member 70 = .ok (.iconst 0, 1) := by decide +kernel
theorem dX4_member_71 : decode cX4_member 71 = .ok (.goto 19, 3) := by decide +kernel
theorem dX4_member_74 : decode cX4_member 74 = .ok (.iload_n 2, 1) := by decide +kernel
theorem dX4_member_75 : decode cX4_member 75 = .ok (.iconst 2, 1) := by decide +kernel
theorem dX4_member_76 : decode cX4_member 76 = .ok (.if_icmp .ne 12, 3) := by decide +kernel
theorem dX4_member_79 : decode cX4_member 79 = .ok (.aload_n 0, 1) := by decide +kernel
theorem dX4_member_80 : decode cX4_member 80 = .ok (.getfield 30, 3) := by decide +kernel
theorem dX4_member_83 : decode cX4_member 83 = .ok (.iload_n 1, 1) := by decide +kernel
theorem dX4_member_84 : decode cX4_member 84 = .ok (.iaload, 1) := by decide +kernel
theorem dX4_member_85 : decode cX4_member 85 = .ok (.goto 5, 3) := by decide +kernel
theorem dX4_member_88 : decode cX4_member 88 = .ok (.bipush (-102), 2) := by decide +kernel
theorem dX4_member_90 : decode cX4_member 90 = .ok (.ireturn, 1) := by decide +kernel
set_option maxRecDepth 20000 in
theorem ggX4_journal_X4_free : GoodIn wsX4_journal wsX4_free := goodIn_r _ [10, 2, 11, 12, 13, 9, 14, 15, 16, 17, 18, 19, 20, 21, 22, 23, 24, 25, 26, 27, 28, 29, 30, 31, 32, 33, 34, 35, 36, 37, 38, 39, 40, 41, 42] (by decide +kernel) (by decide +kernel)
set_option maxRecDepth 20000 in
theorem gX4_journal_X4_free : GoodIn wsX4_journal (wsV RX4 163 RX4 yX4_free wsX4_free) := goodIn_app (goodIn_of _ (by decide +kernel)) ggX4_journal_X4_free
theorem dX4_journal_0 : decode cX4_journal 0 = .ok (.iload_n 1, 1) := by decide +kernel
theorem dX4_journal_1 : decode cX4_journal 1 = .ok (.tableswitch 94 0 4 #[35, 52, 68, 84, 89], 35) := by decide +kernel
theorem dX4_journal_36 : decode cX4_journal 36 = .ok (.aload_n 0, 1) := by decide +kernel
theorem dX4_journal_37 : decode cX4_journal 37 = .ok (.getfield 103, 3) := by decide +kernel
theorem dX4_journal_40 : decode cX4_journal 40 = .ok (.ifCond .eq 8, 3) := by decide +kernel
theorem dX4_journal_43 : decode cX4_journal 43 = .ok (.bipush 32, 2) := by decide +kernel
theorem dX4_journal_45 : decode cX4_journal 45 = .ok (.goto 7, 3) := by decide +kernel
theorem dX4_journal_48 : decode cX4_journal 48 = .ok (.aload_n 0, 1) := by decide +kernel
theorem dX4_journal_49 : decode cX4_journal 49 = .ok (.invokevirtual 163, 3) := by decide +kernel
theorem dX4_journal_52 : decode cX4_journal 52 = .ok (.ireturn, 1) := by decide +kernel
theorem dX4_journal_53 : decode cX4_journal 53 = .ok (.aload_n 0, 1) := by decide +kernel
theorem dX4_journal_54 : decode cX4_journal 54 = .ok (.getfield 103, 3) := by decide +kernel
theorem dX4_journal_57 : decode cX4_journal 57 = .ok (.ifCond .eq 7, 3) := by decide +kernel
theorem dX4_journal_60 : decode cX4_journal 60 = .ok (.iconst 0, 1) := by decide +kernel
theorem dX4_journal_61 : decode cX4_journal 61 = .ok (.goto 7, 3) := by decide +kernel
theorem dX4_journal_64 : decode cX4_journal 64 = .ok (.aload_n 0, 1) := by decide +kernel
theorem dX4_journal_65 : decode cX4_journal 65 = .ok (.getfield 120, 3) := by decide +kernel
theorem dX4_journal_68 : decode cX4_journal 68 = .ok (.ireturn, 1) := by decide +kernel
theorem dX4_journal_69 : decode cX4_journal 69 = .ok (.aload_n 0, 1) := by decide +kernel
theorem dX4_journal_70 : decode cX4_journal 70 = .ok (.getfield 103, 3) := by decide +kernel
theorem dX4_journal_73 : decode cX4_journal 73 = .ok (.ifCond .eq 7, 3) := by decide +kernel
theorem dX4_journal_76 : decode cX4_journal 76 = .ok (.iconst 0, 1) := by decide +kernel
theorem dX4_journal_77 : decode cX4_journal 77 = .ok (.goto 7, 3) := by decide +kernel
theorem dX4_journal_80 : decode cX4_journal 80 = .ok (.aload_n 0, 1) := by decide +kernel
theorem dX4_journal_81 : decode cX4_journal 81 = .ok (.getfield 54, 3) := by decide +kernel
theorem dX4_journal_84 : decode cX4_journal 84 = .ok (.ireturn, 1) := by decide +kernel
theorem dX4_journal_85 : decode cX4_journal 85 = .ok (.aload_n 0, 1) := by decide +kernel
theorem dX4_journal_86 : decode cX4_journal 86 = .ok (.getfield 117, 3) := by decide +kernel
theorem dX4_journal_89 : decode cX4_journal 89 = .ok (.ireturn, 1) := by decide +kernel
theorem dX4_journal_90 : decode cX4_journal 90 = .ok (.aload_n 0, 1) := by decide +kernel
theorem dX4_journal_91 : decode cX4_journal 91 = .ok (.getfield 51, 3) := by decide +kernel
theorem dX4_journal_94 : decode cX4_journal 94 = .ok (.ireturn, 1) := by decide +kernel
theorem dX4_journal_95 : decode cX4_journal 95 = .ok (.bipush (-102), 2) := by decide +kernel
theorem dX4_journal_97 : decode cX4_journal 97 = .ok (.ireturn, 1) := by decide +kernel
set_option maxRecDepth 20000 in
theorem ggX4_record_X4_in : GoodIn wsX4_record wsX4_in := goodIn_r _ [11] (by decide +kernel) (by decide +kernel)
set_option maxRecDepth 20000 in
theorem gX4_record_X4_in : GoodIn wsX4_record (va_wsS RX4 74 yX4_in wsX4_in) := goodIn_app (goodIn_of _ (by decide +kernel)) ggX4_record_X4_in
theorem dX4_record_0 : decode cX4_record 0 = .ok (.aload_n 0, 1) := by decide +kernel
theorem dX4_record_1 : decode cX4_record 1 = .ok (.getfield 103, 3) := by decide +kernel
theorem dX4_record_4 : decode cX4_record 4 = .ok (.ifCond .ne 19, 3) := by decide +kernel
theorem dX4_record_7 : decode cX4_record 7 = .ok (.iload_n 1, 1) := by decide +kernel
theorem dX4_record_8 : decode cX4_record 8 = .ok (.i2l, 1) := by decide +kernel
theorem dX4_record_9 : decode cX4_record 9 = .ok (.lconst 0, 1) := by decide +kernel
theorem dX4_record_10 : decode cX4_record 10 = .ok (.aload_n 0, 1) := by decide +kernel
theorem dX4_record_11 : decode cX4_record 11 = .ok (.getfield 120, 3) := by decide +kernel
theorem dX4_record_14 : decode cX4_record 14 = .ok (.iconst 1, 1) := by decide +kernel
theorem dX4_record_15 : decode cX4_record 15 = .ok (.isub, 1) := by decide +kernel
theorem dX4_record_16 : decode cX4_record 16 = .ok (.i2l, 1) := by decide +kernel
theorem dX4_record_17 : decode cX4_record 17 = .ok (.invokestatic 74, 3) := by decide +kernel
theorem dX4_record_20 : decode cX4_record 20 = .ok (.ifCond .ne 6, 3) := by decide +kernel
theorem dX4_record_23 : decode cX4_record 23 = .ok (.bipush (-101), 2) := by decide +kernel
theorem dX4_record_25 : decode cX4_record 25 = .ok (.ireturn, 1) := by decide +kernel
theorem dX4_record_26 : decode cX4_record 26 = .ok (.iload_n 2, 1) := by decide +kernel
theorem dX4_record_27 : decode cX4_record 27 = .ok (.ifCond .ne 12, 3) := by decide +kernel
theorem dX4_record_30 : decode cX4_record 30 = .ok (.aload_n 0, 1) := by decide +kernel
theorem dX4_record_31 : decode cX4_record 31 = .ok (.getfield 33, 3) := by decide +kernel
theorem dX4_record_34 : decode cX4_record 34 = .ok (.iload_n 1, 1) := by decide +kernel
theorem dX4_record_35 : decode cX4_record 35 = .ok (.iaload, 1) := by decide +kernel
theorem dX4_record_36 : decode cX4_record 36 = .ok (.goto 69, 3) := by decide +kernel
theorem dX4_record_39 : decode cX4_record 39 = .ok (.iload_n 2, 1) := by decide +kernel
theorem dX4_record_40 : decode cX4_record 40 = .ok (.iconst 1, 1) := by decide +kernel
theorem dX4_record_41 : decode cX4_record 41 = .ok (.if_icmp .ne 12, 3) := by decide +kernel
theorem dX4_record_44 : decode cX4_record 44 = .ok (.aload_n 0, 1) := by decide +kernel
theorem dX4_record_45 : decode cX4_record 45 = .ok (.getfield 39, 3) := by decide +kernel
theorem dX4_record_48 : decode cX4_record 48 = .ok (.iload_n 1, 1) := by decide +kernel
theorem dX4_record_49 : decode cX4_record 49 = .ok (.iaload, 1) := by decide +kernel
theorem dX4_record_50 : decode cX4_record 50 = .ok (.goto 55, 3) := by decide +kernel
theorem dX4_record_53 : decode cX4_record 53 = .ok (.iload_n 2, 1) := by decide +kernel
theorem dX4_record_54 : decode cX4_record 54 = .ok (.iconst 2, 1) := by decide +kernel
theorem dX4_record_55 : decode cX4_record 55 = .ok (.if_icmp .ne 20, 3) := by decide +kernel
theorem dX4_record_58 : decode cX4_record 58 = .ok (.aload_n 0, 1) := by decide +kernel
theorem dX4_record_59 : decode cX4_record 59 = .ok (.getfield 42, 3) := by decide +kernel
theorem dX4_record_62 : decode cX4_record 62 = .ok (.iload_n 1, 1) := by decide +kernel
theorem dX4_record_63 : decode cX4_record 63 = .ok (.baload, 1) := by decide +kernel
theorem dX4_record_64 : decode cX4_record 64 = .ok (.ifCond .eq 7, 3) := by decide +kernel
theorem dX4_record_67 : decode cX4_record 67 = .ok (.iconst 1, 1) := by decide +kernel
theorem dX4_record_68 : decode cX4_record 68 = .ok (.goto 37, 3) := by decide +kernel
theorem dX4_record_71 : decode cX4_record 71 = .ok (.iconst 0, 1) := by decide +kernel
theorem dX4_record_72 : decode cX4_record 72 = .ok (.goto 33, 3) := by decide +kernel
theorem dX4_record_75 : decode cX4_record 75 = .ok (.iload_n 2, 1) := by decide +kernel
theorem dX4_record_76 : decode cX4_record 76 = .ok (.iconst 3, 1) := by decide +kernel
theorem dX4_record_77 : decode cX4_record 77 = .ok (.if_icmp .ne 12, 3) := by decide +kernel
theorem dX4_record_80 : decode cX4_record 80 = .ok (.aload_n 0, 1) := by decide +kernel
theorem dX4_record_81 : decode cX4_record 81 = .ok (.getfield 36, 3) := by decide +kernel
theorem dX4_record_84 : decode cX4_record 84 = .ok (.iload_n 1, 1) := by decide +kernel
theorem dX4_record_85 : decode cX4_record 85 = .ok (.iaload, 1) := by decide +kernel
theorem dX4_record_86 : decode cX4_record 86 = .ok (.goto 19, 3) := by decide +kernel
theorem dX4_record_89 : decode cX4_record 89 = .ok (.iload_n 2, 1) := by decide +kernel
theorem dX4_record_90 : decode cX4_record 90 = .ok (.iconst 4, 1) := by decide +kernel
theorem dX4_record_91 : decode cX4_record 91 = .ok (.if_icmp .ne 12, 3) := by decide +kernel
theorem dX4_record_94 : decode cX4_record 94 = .ok (.aload_n 0, 1) := by decide +kernel
theorem dX4_record_95 : decode cX4_record 95 = .ok (.getfield 45, 3) := by decide +kernel
theorem dX4_record_98 : decode cX4_record 98 = .ok (.iload_n 1, 1) := by decide +kernel
theorem dX4_record_99 : decode cX4_record 99 = .ok (.iaload, 1) := by decide +kernel
theorem dX4_record_100 : decode cX4_record 100 = .ok (.goto 5, 3) := by decide +kernel
theorem dX4_record_103 : decode cX4_record 103 = .ok (.bipush (-102), 2) := by decide +kernel
theorem dX4_record_105 : decode cX4_record 105 = .ok (.ireturn, 1) := by decide +kernel
set_option maxRecDepth 20000 in
theorem ggX4_count_X4_in : GoodIn wsX4_count wsX4_in := goodIn_r _ [6] (by decide +kernel) (by decide +kernel)
set_option maxRecDepth 20000 in
theorem gX4_count_X4_in : GoodIn wsX4_count (va_wsS RX4 74 yX4_in wsX4_in) := goodIn_app (goodIn_of _ (by decide +kernel)) ggX4_count_X4_in
theorem dX4_count_0 : decode cX4_count 0 = .ok (.iload_n 1, 1) := by decide +kernel
theorem dX4_count_1 : decode cX4_count 1 = .ok (.i2l, 1) := by decide +kernel
theorem dX4_count_2 : decode cX4_count 2 = .ok (.lconst 0, 1) := by decide +kernel
theorem dX4_count_3 : decode cX4_count 3 = .ok (.ldc2_w 206, 3) := by decide +kernel
theorem dX4_count_6 : decode cX4_count 6 = .ok (.invokestatic 74, 3) := by decide +kernel
theorem dX4_count_9 : decode cX4_count 9 = .ok (.ifCond .eq 12, 3) := by decide +kernel
theorem dX4_count_12 : decode cX4_count 12 = .ok (.aload_n 0, 1) := by decide +kernel
theorem dX4_count_13 : decode cX4_count 13 = .ok (.getfield 60, 3) := by decide +kernel
theorem dX4_count_16 : decode cX4_count 16 = .ok (.iload_n 1, 1) := by decide +kernel
theorem dX4_count_17 : decode cX4_count 17 = .ok (.iaload, 1) := by decide +kernel
theorem dX4_count_18 : decode cX4_count 18 = .ok (.goto 5, 3) := by decide +kernel
theorem dX4_count_21 : decode cX4_count 21 = .ok (.bipush (-102), 2) := by decide +kernel
theorem dX4_count_23 : decode cX4_count 23 = .ok (.ireturn, 1) := by decide +kernel
set_option maxRecDepth 20000 in
theorem ggX4_audit_X4_othersThere : GoodIn wsX4_audit wsX4_othersThere := goodIn_r _ [5, 6, 7, 8, 9, 4, 10, 11, 12, 13, 14, 15, 16, 17, 18, 19, 20, 21, 22, 23, 24, 25, 26, 27, 36, 37, 38, 39, 40, 41, 42, 43, 44, 45, 46, 47, 48, 49, 50, 51, 52, 53, 54, 55, 56, 57, 58, 59, 60] (by decide +kernel) (by decide +kernel)
set_option maxRecDepth 20000 in
theorem gX4_audit_X4_othersThere : GoodIn wsX4_audit (wsV RX4 173 RX4 yX4_othersThere wsX4_othersThere) := goodIn_app (goodIn_of _ (by decide +kernel)) ggX4_audit_X4_othersThere
set_option maxRecDepth 20000 in
theorem ggX4_audit_X4_isEven : GoodIn wsX4_audit wsX4_isEven := goodIn_r _ [31, 32, 33, 34, 4, 35, 6, 27, 13, 14, 15, 16, 36, 37, 38, 39, 40, 41, 42, 43, 44, 45, 46, 47, 48, 49, 50, 51, 52, 53, 54, 55, 56, 57, 58, 59, 60] (by decide +kernel) (by decide +kernel)
set_option maxRecDepth 20000 in
theorem gX4_audit_X4_isEven : GoodIn wsX4_audit (wsV RX4 195 RX4 yX4_isEven wsX4_isEven) := goodIn_app (goodIn_of _ (by decide +kernel)) ggX4_audit_X4_isEven
theorem dX4_audit_0 : decode cX4_audit 0 = .ok (.iconst 0, 1) := by decide +kernel
theorem dX4_audit_1 : decode cX4_audit 1 = .ok (.istore_n 1, 1) := by decide +kernel
theorem dX4_audit_2 : decode cX4_audit 2 = .ok (.iconst 0, 1) := by decide +kernel
theorem dX4_audit_3 : decode cX4_audit 3 = .ok (.istore_n 2, 1) := by decide +kernel
theorem dX4_audit_4 : decode cX4_audit 4 = .ok (.iload_n 2, 1) := by decide +kernel
theorem dX4_audit_5 : decode cX4_audit 5 = .ok (.bipush 24, 2) := by decide +kernel
theorem dX4_audit_7 : decode cX4_audit 7 = .ok (.if_icmp .ge 34, 3) := by decide +kernel
theorem dX4_audit_10 : decode cX4_audit 10 = .ok (.iload_n 1, 1) := by decide +kernel
theorem dX4_audit_11 : decode cX4_audit 11 = .ok (.aload_n 0, 1) := by decide +kernel
theorem dX4_audit_12 : decode cX4_audit 12 = .ok (.iconst (-1), 1) := by decide +kernel
theorem dX4_audit_13 : decode cX4_audit 13 = .ok (.iload_n 2, 1) := by decide +kernel
theorem dX4_audit_14 : decode cX4_audit 14 = .ok (.invokevirtual 173, 3) := by decide +kernel
theorem dX4_audit_17 : decode cX4_audit 17 = .ok (.ifCond .eq 15, 3) := by decide +kernel
theorem dX4_audit_20 : decode cX4_audit 20 = .ok (.aload_n 0, 1) := by decide +kernel
theorem dX4_audit_21 : decode cX4_audit 21 = .ok (.iload_n 2, 1) := by decide +kernel
theorem dX4_audit_22 : decode cX4_audit 22 = .ok (.invokevirtual 195, 3) := by decide +kernel
theorem dX4_audit_25 : decode cX4_audit 25 = .ok (.ifCond .ne 7, 3) := by decide +kernel
theorem dX4_audit_28 : decode cX4_audit 28 = .ok (.iconst 1, 1) := by decide +kernel
theorem dX4_audit_29 : decode cX4_audit 29 = .ok (.goto 4, 3) := by decide +kernel
theorem dX4_audit_32 : decode cX4_audit 32 = .ok (.iconst 0, 1) := by decide +kernel
theorem dX4_audit_33 : decode cX4_audit 33 = .ok (.iadd, 1) := by decide +kernel
theorem dX4_audit_34 : decode cX4_audit 34 = .ok (.istore_n 1, 1) := by decide +kernel
theorem dX4_audit_35 : decode cX4_audit 35 = .ok (.iinc 2 1, 3) := by decide +kernel
theorem dX4_audit_38 : decode cX4_audit 38 = .ok (.goto (-34), 3) := by decide +kernel
theorem dX4_audit_41 : decode cX4_audit 41 = .ok (.iload_n 1, 1) := by decide +kernel
theorem dX4_audit_42 : decode cX4_audit 42 = .ok (.ireturn, 1) := by decide +kernel
end
section
/-! THE WALK OVER A STORE. A system Y: its cells by number, the store says what ints they hold; V: the machine, at pc with these locals and this stack, over the store, comes to its end with the post. -/
abbrev vv_S : Type := Nat → Nat → Int32
abbrev vv_Y : Type := Nat × (Nat → Nat) × (Nat → (Nat → Int32) → va_E) × va_G × List vw_C × List (ClassId × FieldType) × List Cond
abbrev vv_Z : Type := Program × Launch × Env × Room × State × MethodId × Array Value × List Frame × Method × Code × (Option Value → vv_S → Prop)
def vv_wd (Y : vv_Y) (σ : vv_S) : va_W := (List.range Y.1).map (fun k => (Y.2.1 k, Y.2.2.1 k (σ k)))
def vv_A (Y : vv_Y) (sz : Nat) : Nat → Prop := fun q => (∃ k : Nat, k < Y.1 ∧ Y.2.1 k = q) ∨ sz ≤ q
def vv_ok (Y : vv_Y) : Prop := ∀ i j : Nat, i < Y.1 → j < Y.1 → Y.2.1 i = Y.2.1 j → i = j
def vv_P (Y : vv_Y) (σ : vv_S) (H : Heap) : Prop := va_P Y.2.2.2.1 Y.2.2.2.2.1 (vv_wd Y σ) H
def vv_nf (w : Cond) : Prop := (∃ (a : String) (i : Nat) (b n d h : String), w = .fieldLinkNest a i b n d h) ∨ ∃ (a : String) (i : Nat) (x : MethodName) (h : String), w = .methodLinkNest a i x h
def vv_K (Y : vv_Y) (U : State) : Prop := va_K Y.2.2.2.1 Y.2.2.2.2.1 Y.2.2.2.2.2.1 U ∧ ∀ w ∈ Y.2.2.2.2.2.2, vv_nf w ∧ va_Nw w U
def vv_Pc (Y : vv_Y) (av : List Value) (σ : vv_S) (sz : Nat) : Array Value → State → Prop := fun v U => v = av.toArray ∧ U.heap.size = sz ∧ vv_P Y σ U.heap ∧ vv_K Y U
def vv_Qc (Y : vv_Y) (sz : Nat) (post : Option Value → vv_S → Prop) : Array Value → State → Outcome → State → Prop := fun _ st oc t => (∃ (v : Option Value) (σ : vv_S), oc = .returned v ∧ post v σ ∧ vv_P Y σ t.heap) ∧ va_F (vv_A Y sz) st t
/-- a method's contract over the whole system: from the store σ it returns, and answer and store are as the post says -/
def vv_M (l : Launch) (Y : vv_Y) (y : MethodName) (ws : List Cond) (rm : Room) (av : List Value) (σ : vv_S) (post : Option Value → vv_S → Prop) : Prop :=
  ∀ sz : Nat, Met l y ws rm (vv_Pc Y av σ sz) (vv_Qc Y sz post) 0 0 (vv_A Y sz)
def vv_V (Y : vv_Y) (nL : Nat) (Z : vv_Z) (σ : vv_S) (pc : Nat) (L : List (Nat × Value)) (st : List Value) : Prop := match Z with
  | (p, l, e, R, s, m, args, below, meth, c, post) => ∀ (H : Heap) (locs : List Loc) (ls : Array Slot), vv_P Y σ H → va_S (vv_A Y s.heap.size) s.heap H locs → lv_has ls nL L →
    W p l e R s m args below meth c H locs 0 0 (MQ below (vv_Qc Y s.heap.size post) args s 0 0 (vv_A Y s.heap.size)) (F0 m pc ls st)
def vv_C (Y : vv_Y) (nL : Nat) (Z : vv_Z) (cc : ByteArray) (ret : Option FieldType) (Ts : List Cond) (own : String) (rm : Room) : Prop := match Z with
  | (p, _, _, R, s, m, args, _, meth, c, _) => vv_ok Y ∧ p.tables.exec = Jvm.exec ∧ c.code = cc ∧ c.maxLocals = nL ∧ meth.sig.returnType = ret ∧ s.vm.findClass own = some m.cls ∧ meth.locks = false ∧ (∀ w ∈ Ts, w.before args s = true) ∧ vv_K Y s ∧ R = rm
def vv_post (Z : vv_Z) : Option Value → vv_S → Prop := Z.2.2.2.2.2.2.2.2.2.2
def vv_l (Z : vv_Z) : Launch := Z.2.1
theorem vv_at {Y : vv_Y} {σ : vv_S} {k : Nat} (h : k < Y.1) : (vv_wd Y σ)[k]? = some (Y.2.1 k, Y.2.2.1 k (σ k)) := by
  unfold vv_wd
  rw [List.getElem?_map, List.getElem?_range h]
  rfl
theorem vv_atc {Y : vv_Y} {σ : vv_S} {k : Nat} {e : va_E} (h : k < Y.1) (he : Y.2.2.1 k (σ k) = e) : (vv_wd Y σ)[k]? = some (Y.2.1 k, e) := by
  rw [vv_at h, he]
theorem vv_set {Y : vv_Y} {σ σ' : vv_S} {k : Nat} {e : va_E} (h : k < Y.1) (he : Y.2.2.1 k (σ' k) = e) (ho : ∀ j : Nat, j ≠ k → σ' j = σ j) : (vv_wd Y σ).set k (Y.2.1 k, e) = vv_wd Y σ' := by
  apply List.ext_getElem?
  intro j
  rw [List.getElem?_set]
  by_cases hj : k = j
  · subst hj
    rw [if_pos rfl, if_pos (by unfold vv_wd; rw [List.length_map, List.length_range]; exact h), vv_at h, he]
  · rw [if_neg hj]
    by_cases hl : j < Y.1
    · rw [vv_at hl, vv_at hl, ho j (fun q => hj q.symm)]
    · unfold vv_wd
      rw [List.getElem?_eq_none (by rw [List.length_map, List.length_range]; omega), List.getElem?_eq_none (by rw [List.length_map, List.length_range]; omega)]
/-- the store with one place changed -/
def vv_up (σ : vv_S) (k j : Nat) (v : Int32) : vv_S := fun i => if i = k then upd (σ k) j v else σ i
theorem vv_up_s {σ : vv_S} {k j : Nat} {v : Int32} : vv_up σ k j v k = upd (σ k) j v := if_pos rfl
theorem vv_up_n {σ : vv_S} {k j i : Nat} {v : Int32} (h : i ≠ k) : vv_up σ k j v i = σ i := if_neg h
theorem vv_inv {Y : vv_Y} {σ : vv_S} {k : Nat} {q : Nat × va_E} (h : (vv_wd Y σ)[k]? = some q) : k < Y.1 ∧ q = (Y.2.1 k, Y.2.2.1 k (σ k)) := by
  have hk : k < Y.1 := by
    rcases Nat.lt_or_ge k Y.1 with a | a
    · exact a
    · unfold vv_wd at h
      rw [List.getElem?_eq_none (by rw [List.length_map, List.length_range]; exact a)] at h
      cases h
  rw [vv_at hk] at h
  exact ⟨hk, (Option.some.inj h).symm⟩
theorem vv_D {Y : vv_Y} (ok : vv_ok Y) (σ : vv_S) (sz : Nat) : va_D (vv_A Y sz) (vv_wd Y σ) := by
  refine ⟨fun i j p q hi hj e => ?_, fun k q h => ?_⟩
  · obtain ⟨a1, rfl⟩ := vv_inv hi
    obtain ⟨b1, rfl⟩ := vv_inv hj
    exact ok i j a1 b1 e
  · obtain ⟨a1, rfl⟩ := vv_inv h
    exact Or.inl ⟨k, a1, rfl⟩
theorem vv_K.warm {Y : vv_Y} {s U : State} (hW : s.WarmedH U.vm) (h : vv_K Y s) : vv_K Y U := by
  refine ⟨va_K.moved hW.alike h.1, fun w hw => ?_⟩
  obtain ⟨h1, h2⟩ := h.2 w hw
  refine ⟨h1, ?_⟩
  rcases h1 with ⟨a, i, b, n, d, hh, rfl⟩ | ⟨a, i, x, hh, rfl⟩
  · exact va_Nw.warmF hW h2
  · exact va_Nw.warmM hW h2
theorem vv_K.same {Y : vv_Y} {s U : State} (hv : s.vm = U.vm) (h : vv_K Y s) : vv_K Y U := by
  refine ⟨?_, fun w hw => ?_⟩
  · have h1 := h.1
    exact va_K.moved (by rw [hv]; exact Vm.Alike.refl _) h1
  · obtain ⟨h1, h2⟩ := h.2 w hw
    refine ⟨h1, ?_⟩
    rcases h1 with ⟨a, i, b, n, d, hh, rfl⟩ | ⟨a, i, x, hh, rfl⟩
    · exact va_Nw.same rfl hv h2
    · exact va_Nw.same rfl hv h2
theorem vv_blind {Y : vv_Y} {av : List Value} {σ : vv_S} {sz : Nat} : FrameBlind (vv_Pc Y av σ sz) := by
  intro a U g mk h
  obtain ⟨h1, h2, h3, h4⟩ := h
  exact ⟨h1, h2, h3, vv_K.same (s := U) (U := U.calling g mk a) rfl h4⟩
/-- a contract out of the walk of its body -/
theorem vv_M.of {l : Launch} {Y : vv_Y} {y : MethodName} {ws ws' : List Cond} {rm : Room} {av : List Value} {σ : vv_S} {post : Option Value → vv_S → Prop} {cc : ByteArray} {maxL : Nat} {ret : Option FieldType}
    (ok : vv_ok Y) (hy : plainName y.cls = true) (hw : ws = Cond.code y cc maxL ret :: ws') (hn : (lg_sl av).length ≤ maxL)
    (body : ∀ Z : vv_Z, vv_l Z = l → vv_post Z = post → vv_C Y maxL Z cc ret ws y.cls (headSpec ws rm).room → vv_V Y maxL Z σ 0 (lv_args 0 av) []) : vv_M l Y y ws rm av σ post := by
  intro sz
  refine Met.ofW (cc := cc) (maxL := maxL) (ret := ret) hy hw ?_
  intro p e s m args below meth c s₁ B hml hv
  obtain ⟨rfl, hsz, hP, hK⟩ := hv
  subst hsz
  have hts := atoms_spec (ws := ws) B.pre
  have hown : s.vm.findClass y.cls = some m.cls := findClass_of_methodNamed B.named
  have hb := body (p, l, e, (headSpec ws rm).room, s, m, av.toArray, below, meth, c, post) rfl rfl ⟨ok, B.exec, B.bytes, hml, B.returns, hown, B.notSynchronized, hts, hK, rfl⟩
  have hl := lv_entry av (n := maxL) hn
  rw [lg_entry_eq]
  exact hb s.heap [] _ hP va_S.rf hl
end
section
/-! THE ROWS OF THE WALK OVER A STORE: an instruction each (by program: wip/tools/mkrows.py) -/
theorem vv_lk {L : List (Nat × Value)} {i : Nat} {v : Value} (h : L.lookup i = some v) : (i, v) ∈ L := by
  induction L with
  | nil => cases h
  | cons q r ih =>
    obtain ⟨j, w⟩ := q
    rw [List.lookup_cons] at h
    by_cases hj : (i == j) = true
    · rw [hj] at h
      have e := eq_of_beq hj
      cases h
      rw [e]
      exact List.mem_cons_self
    · rw [Bool.not_eq_true] at hj
      rw [hj] at h
      exact List.mem_cons_of_mem _ (ih h)
/-- the locals with one set, in their order -/
def vv_ins (i : Nat) (v : Value) : List (Nat × Value) → List (Nat × Value)
  | [] => [(i, v)]
  | (j, w) :: r => if i < j then (i, v) :: (j, w) :: r else if i = j then (i, v) :: r else (j, w) :: vv_ins i v r
theorem vv_ins_mem {i : Nat} {v : Value} {L : List (Nat × Value)} {q : Nat × Value} (hs : (L.map Prod.fst).Pairwise (· < ·)) (h : q ∈ vv_ins i v L) : q = (i, v) ∨ (q ∈ L ∧ q.1 ≠ i) := by
  induction L with
  | nil => exact Or.inl (List.mem_singleton.mp h)
  | cons p r ih =>
    obtain ⟨j, w⟩ := p
    rw [List.map_cons, List.pairwise_cons] at hs
    have hgt : ∀ x ∈ r, j < x.1 := fun x hx => hs.1 x.1 (List.mem_map_of_mem hx)
    unfold vv_ins at h
    by_cases h1 : i < j
    · rw [if_pos h1] at h
      rcases List.mem_cons.mp h with e | h
      · exact Or.inl e
      · refine Or.inr ⟨h, ?_⟩
        rcases List.mem_cons.mp h with e | h
        · rw [e]; exact Nat.ne_of_gt h1
        · have := hgt q h; omega
    · rw [if_neg h1] at h
      by_cases h2 : i = j
      · rw [if_pos h2] at h
        rcases List.mem_cons.mp h with e | h
        · exact Or.inl e
        · refine Or.inr ⟨List.mem_cons_of_mem _ h, ?_⟩
          have := hgt q h; omega
      · rw [if_neg h2] at h
        rcases List.mem_cons.mp h with e | h
        · refine Or.inr ⟨by rw [e]; exact List.mem_cons_self, ?_⟩
          rw [e]; exact fun z => h2 z.symm
        · rcases ih hs.2 h with e | ⟨a, b⟩
          · exact Or.inl e
          · exact Or.inr ⟨List.mem_cons_of_mem _ a, b⟩
/-- the locals are in order, and none is a long -/
def vv_lo : Nat → List (Nat × Value) → Bool
  | _, [] => true
  | k, (j, w) :: r => Nat.ble k j && (w.category == 1) && vv_lo (j + 1) r
theorem vv_lo.ok {k : Nat} {L : List (Nat × Value)} (h : vv_lo k L = true) : (L.map Prod.fst).Pairwise (· < ·) ∧ (∀ q ∈ L, q.2.category = 1) ∧ ∀ q ∈ L, k ≤ q.1 := by
  induction L generalizing k with
  | nil => exact ⟨List.Pairwise.nil, fun _ h => absurd h List.not_mem_nil, fun _ h => absurd h List.not_mem_nil⟩
  | cons p r ih =>
    obtain ⟨j, w⟩ := p
    unfold vv_lo at h
    rw [Bool.and_eq_true, Bool.and_eq_true] at h
    obtain ⟨⟨h1, h2⟩, h3⟩ := h
    obtain ⟨a, b, c⟩ := ih h3
    have h1 : k ≤ j := Nat.le_of_ble_eq_true h1
    refine ⟨?_, ?_, ?_⟩
    · rw [List.map_cons, List.pairwise_cons]
      refine ⟨fun x hx => ?_, a⟩
      obtain ⟨y, hy, rfl⟩ := List.mem_map.mp hx
      exact c y hy
    · intro q hq
      rcases List.mem_cons.mp hq with e | hq
      · rw [e]; exact eq_of_beq h2
      · exact b q hq
    · intro q hq
      rcases List.mem_cons.mp hq with e | hq
      · rw [e]; exact h1
      · have := c q hq; omega
theorem vv_keep {ls : Array Slot} {nL i : Nat} {v : Value} {L L' : List (Nat × Value)} (ho : vv_lo 0 L = true) (hL : vv_ins i v L = L') (h : lv_has ls nL ((i, v) :: L.filter (fun q => !(q.1 == i) && !(q.1 + 1 == i && q.2.category == 2)))) : lv_has ls nL L' := by
  obtain ⟨a, b, -⟩ := vv_lo.ok ho
  refine ⟨h.1, h.2.1, fun q hq => ?_⟩
  rw [← hL] at hq
  rcases vv_ins_mem a hq with e | ⟨h1, h2⟩
  · rw [e]; exact h.2.2 _ List.mem_cons_self
  · refine h.2.2 q (List.mem_cons_of_mem _ (List.mem_filter.mpr ⟨h1, ?_⟩))
    have hb := b q h1
    simp [h2, hb]
section VROWS
variable {Y : vv_Y} {nL : Nat} {Z : vv_Z} {cc : ByteArray} {ret : Option FieldType} {Ts : List Cond} {own : String} {rm : Room} {σ : vv_S} {pc q : Nat} {L L' : List (Nat × Value)} {st : List Value}
/-- a local is forgotten, or the locals are taken in another order -/
theorem vv_sub (hL : ∀ x ∈ L', x ∈ L) (h : vv_V Y nL Z σ pc L' st) : vv_V Y nL Z σ pc L st := by
  obtain ⟨p, l, e, R, s, m, args, below, meth, c, post⟩ := Z
  intro H locs ls hP hS hl
  exact h H locs ls hP hS ⟨hl.1, hl.2.1, fun x hx => hl.2.2 x (hL x hx)⟩
theorem vv_top {x y : Int32} (e : x = y) (h : vv_V Y nL Z σ pc L (.int y :: st)) : vv_V Y nL Z σ pc L (.int x :: st) := by rw [e]; exact h
theorem vv_st {σ' : vv_S} (e : σ = σ') (h : vv_V Y nL Z σ' pc L st) : vv_V Y nL Z σ pc L st := by rw [e]; exact h
theorem vv_stk {st' : List Value} (e : st = st') (h : vv_V Y nL Z σ pc L st') : vv_V Y nL Z σ pc L st := by rw [e]; exact h
theorem vv_loc (e : L = L') (h : vv_V Y nL Z σ pc L' st) : vv_V Y nL Z σ pc L st := by rw [e]; exact h
theorem vv_iconst (hC : vv_C Y nL Z cc ret Ts own rm) {n : Int} (v : Int32) (hd : decode cc pc = .ok (.iconst n, 1)) (hv : Int32.ofInt n = v) (hq : pc + 1 = q) (h : vv_V Y nL Z σ q L (.int v :: st)) : vv_V Y nL Z σ pc L (st) := by
  obtain ⟨p, l, e, R, s, m, args, below, meth, c, post⟩ := Z
  obtain ⟨ok, hx, hb, hml, hr, hown, hlk, hts, hK, hR⟩ := hC
  subst hq
  intro H locs ls hP hS hl
  exact lv_iconst hx hb hd hv (h H locs ls hP hS hl)
theorem vv_bipush (hC : vv_C Y nL Z cc ret Ts own rm) {n : Int} (v : Int32) (hd : decode cc pc = .ok (.bipush n, 2)) (hv : (Int8.ofInt n).toInt32 = v) (hq : pc + 2 = q) (h : vv_V Y nL Z σ q L (.int v :: st)) : vv_V Y nL Z σ pc L (st) := by
  obtain ⟨p, l, e, R, s, m, args, below, meth, c, post⟩ := Z
  obtain ⟨ok, hx, hb, hml, hr, hown, hlk, hts, hK, hR⟩ := hC
  subst hq
  intro H locs ls hP hS hl
  exact lv_bipush hx hb hd hv (h H locs ls hP hS hl)
theorem vv_sipush (hC : vv_C Y nL Z cc ret Ts own rm) {n : Int} (v : Int32) (hd : decode cc pc = .ok (.sipush n, 3)) (hv : (Int16.ofInt n).toInt32 = v) (hq : pc + 3 = q) (h : vv_V Y nL Z σ q L (.int v :: st)) : vv_V Y nL Z σ pc L (st) := by
  obtain ⟨p, l, e, R, s, m, args, below, meth, c, post⟩ := Z
  obtain ⟨ok, hx, hb, hml, hr, hown, hlk, hts, hK, hR⟩ := hC
  subst hq
  intro H locs ls hP hS hl
  exact lv_sipush hx hb hd hv (h H locs ls hP hS hl)
theorem vv_lconst (hC : vv_C Y nL Z cc ret Ts own rm) {n : Fin 2} (v : Int64) (hd : decode cc pc = .ok (.lconst n, 1)) (hv : Int64.ofNat (n : Nat) = v) (hq : pc + 1 = q) (h : vv_V Y nL Z σ q L (.long v :: st)) : vv_V Y nL Z σ pc L (st) := by
  obtain ⟨p, l, e, R, s, m, args, below, meth, c, post⟩ := Z
  obtain ⟨ok, hx, hb, hml, hr, hown, hlk, hts, hK, hR⟩ := hC
  subst hq
  intro H locs ls hP hS hl
  exact lv_lconst hx hb hd hv (h H locs ls hP hS hl)
theorem vv_null (hC : vv_C Y nL Z cc ret Ts own rm)  (hd : decode cc pc = .ok (.aconst_null, 1)) (hq : pc + 1 = q) (h : vv_V Y nL Z σ q L (.null :: st)) : vv_V Y nL Z σ pc L (st) := by
  obtain ⟨p, l, e, R, s, m, args, below, meth, c, post⟩ := Z
  obtain ⟨ok, hx, hb, hml, hr, hown, hlk, hts, hK, hR⟩ := hC
  subst hq
  intro H locs ls hP hS hl
  exact lv_null hx hb hd (h H locs ls hP hS hl)
theorem vv_iload (hC : vv_C Y nL Z cc ret Ts own rm) {i : Nat} {x : Int32} (hd : decode cc pc = .ok (.iload i, 2)) (hk : L.lookup i = some (.int x)) (hq : pc + 2 = q) (h : vv_V Y nL Z σ q L (.int x :: st)) : vv_V Y nL Z σ pc L (st) := by
  obtain ⟨p, l, e, R, s, m, args, below, meth, c, post⟩ := Z
  obtain ⟨ok, hx, hb, hml, hr, hown, hlk, hts, hK, hR⟩ := hC
  subst hq
  intro H locs ls hP hS hl
  exact lv_iload hx hb hd (hl.2.2 _ (vv_lk hk)) (h H locs ls hP hS hl)
theorem vv_iload_n (hC : vv_C Y nL Z cc ret Ts own rm) {k : Fin 4} {x : Int32} (hd : decode cc pc = .ok (.iload_n k, 1)) (hk : L.lookup (k : Nat) = some (.int x)) (hq : pc + 1 = q) (h : vv_V Y nL Z σ q L (.int x :: st)) : vv_V Y nL Z σ pc L (st) := by
  obtain ⟨p, l, e, R, s, m, args, below, meth, c, post⟩ := Z
  obtain ⟨ok, hx, hb, hml, hr, hown, hlk, hts, hK, hR⟩ := hC
  subst hq
  intro H locs ls hP hS hl
  exact lv_iload_n hx hb hd rfl (hl.2.2 _ (vv_lk hk)) (h H locs ls hP hS hl)
theorem vv_lload (hC : vv_C Y nL Z cc ret Ts own rm) {i : Nat} {x : Int64} (hd : decode cc pc = .ok (.lload i, 2)) (hk : L.lookup i = some (.long x)) (hq : pc + 2 = q) (h : vv_V Y nL Z σ q L (.long x :: st)) : vv_V Y nL Z σ pc L (st) := by
  obtain ⟨p, l, e, R, s, m, args, below, meth, c, post⟩ := Z
  obtain ⟨ok, hx, hb, hml, hr, hown, hlk, hts, hK, hR⟩ := hC
  subst hq
  intro H locs ls hP hS hl
  exact lv_lload hx hb hd (hl.2.2 _ (vv_lk hk)) (h H locs ls hP hS hl)
theorem vv_lload_n (hC : vv_C Y nL Z cc ret Ts own rm) {k : Fin 4} {x : Int64} (hd : decode cc pc = .ok (.lload_n k, 1)) (hk : L.lookup (k : Nat) = some (.long x)) (hq : pc + 1 = q) (h : vv_V Y nL Z σ q L (.long x :: st)) : vv_V Y nL Z σ pc L (st) := by
  obtain ⟨p, l, e, R, s, m, args, below, meth, c, post⟩ := Z
  obtain ⟨ok, hx, hb, hml, hr, hown, hlk, hts, hK, hR⟩ := hC
  subst hq
  intro H locs ls hP hS hl
  exact lv_lload_n hx hb hd rfl (hl.2.2 _ (vv_lk hk)) (h H locs ls hP hS hl)
theorem vv_aload (hC : vv_C Y nL Z cc ret Ts own rm) {i : Nat} {x : Nat} (hd : decode cc pc = .ok (.aload i, 2)) (hk : L.lookup i = some (.ref x)) (hq : pc + 2 = q) (h : vv_V Y nL Z σ q L (.ref x :: st)) : vv_V Y nL Z σ pc L (st) := by
  obtain ⟨p, l, e, R, s, m, args, below, meth, c, post⟩ := Z
  obtain ⟨ok, hx, hb, hml, hr, hown, hlk, hts, hK, hR⟩ := hC
  subst hq
  intro H locs ls hP hS hl
  exact lv_aload hx hb hd (hl.2.2 _ (vv_lk hk)) (h H locs ls hP hS hl)
theorem vv_aload_n (hC : vv_C Y nL Z cc ret Ts own rm) {k : Fin 4} {x : Nat} (hd : decode cc pc = .ok (.aload_n k, 1)) (hk : L.lookup (k : Nat) = some (.ref x)) (hq : pc + 1 = q) (h : vv_V Y nL Z σ q L (.ref x :: st)) : vv_V Y nL Z σ pc L (st) := by
  obtain ⟨p, l, e, R, s, m, args, below, meth, c, post⟩ := Z
  obtain ⟨ok, hx, hb, hml, hr, hown, hlk, hts, hK, hR⟩ := hC
  subst hq
  intro H locs ls hP hS hl
  exact lv_aload_n hx hb hd rfl (hl.2.2 _ (vv_lk hk)) (h H locs ls hP hS hl)
theorem vv_aload_nN (hC : vv_C Y nL Z cc ret Ts own rm) {k : Fin 4} (hd : decode cc pc = .ok (.aload_n k, 1)) (hk : L.lookup (k : Nat) = some .null) (hq : pc + 1 = q) (h : vv_V Y nL Z σ q L (.null :: st)) : vv_V Y nL Z σ pc L (st) := by
  obtain ⟨p, l, e, R, s, m, args, below, meth, c, post⟩ := Z
  obtain ⟨ok, hx, hb, hml, hr, hown, hlk, hts, hK, hR⟩ := hC
  subst hq
  intro H locs ls hP hS hl
  exact lv_aload_nN hx hb hd rfl (hl.2.2 _ (vv_lk hk)) (h H locs ls hP hS hl)
theorem vv_aloadN (hC : vv_C Y nL Z cc ret Ts own rm) {i : Nat} (hd : decode cc pc = .ok (.aload i, 2)) (hk : L.lookup i = some .null) (hq : pc + 2 = q) (h : vv_V Y nL Z σ q L (.null :: st)) : vv_V Y nL Z σ pc L (st) := by
  obtain ⟨p, l, e, R, s, m, args, below, meth, c, post⟩ := Z
  obtain ⟨ok, hx, hb, hml, hr, hown, hlk, hts, hK, hR⟩ := hC
  subst hq
  intro H locs ls hP hS hl
  exact lv_aloadN hx hb hd (hl.2.2 _ (vv_lk hk)) (h H locs ls hP hS hl)
theorem vv_istore (hC : vv_C Y nL Z cc ret Ts own rm) {i : Nat} {x : Int32} (hd : decode cc pc = .ok (.istore i, 2)) (hn : i < nL) (ho : vv_lo 0 L = true) (hL : vv_ins i (.int x) L = L') (hq : pc + 2 = q) (h : vv_V Y nL Z σ q L' (st)) : vv_V Y nL Z σ pc L (.int x :: st) := by
  obtain ⟨p, l, e, R, s, m, args, below, meth, c, post⟩ := Z
  obtain ⟨ok, hx, hb, hml, hr, hown, hlk, hts, hK, hR⟩ := hC
  subst hq
  intro H locs ls hP hS hl
  exact lv_istore hx hb hd hl hn rfl (fun ls1 hl1 => h H locs ls1 hP hS (vv_keep ho hL hl1))
theorem vv_istore_n (hC : vv_C Y nL Z cc ret Ts own rm) {k : Fin 4} {x : Int32} (hd : decode cc pc = .ok (.istore_n k, 1)) (hn : (k : Nat) < nL) (ho : vv_lo 0 L = true) (hL : vv_ins (k : Nat) (.int x) L = L') (hq : pc + 1 = q) (h : vv_V Y nL Z σ q L' (st)) : vv_V Y nL Z σ pc L (.int x :: st) := by
  obtain ⟨p, l, e, R, s, m, args, below, meth, c, post⟩ := Z
  obtain ⟨ok, hx, hb, hml, hr, hown, hlk, hts, hK, hR⟩ := hC
  subst hq
  intro H locs ls hP hS hl
  exact lv_istore_n hx hb hd rfl hl hn rfl (fun ls1 hl1 => h H locs ls1 hP hS (vv_keep ho hL hl1))
theorem vv_astore (hC : vv_C Y nL Z cc ret Ts own rm) {i : Nat} {x : Nat} (hd : decode cc pc = .ok (.astore i, 2)) (hn : i < nL) (ho : vv_lo 0 L = true) (hL : vv_ins i (.ref x) L = L') (hq : pc + 2 = q) (h : vv_V Y nL Z σ q L' (st)) : vv_V Y nL Z σ pc L (.ref x :: st) := by
  obtain ⟨p, l, e, R, s, m, args, below, meth, c, post⟩ := Z
  obtain ⟨ok, hx, hb, hml, hr, hown, hlk, hts, hK, hR⟩ := hC
  subst hq
  intro H locs ls hP hS hl
  exact lv_astore hx hb hd hl hn rfl (fun ls1 hl1 => h H locs ls1 hP hS (vv_keep ho hL hl1))
theorem vv_astore_n (hC : vv_C Y nL Z cc ret Ts own rm) {k : Fin 4} {x : Nat} (hd : decode cc pc = .ok (.astore_n k, 1)) (hn : (k : Nat) < nL) (ho : vv_lo 0 L = true) (hL : vv_ins (k : Nat) (.ref x) L = L') (hq : pc + 1 = q) (h : vv_V Y nL Z σ q L' (st)) : vv_V Y nL Z σ pc L (.ref x :: st) := by
  obtain ⟨p, l, e, R, s, m, args, below, meth, c, post⟩ := Z
  obtain ⟨ok, hx, hb, hml, hr, hown, hlk, hts, hK, hR⟩ := hC
  subst hq
  intro H locs ls hP hS hl
  exact lv_astore_n hx hb hd rfl hl hn rfl (fun ls1 hl1 => h H locs ls1 hP hS (vv_keep ho hL hl1))
theorem vv_astoreN (hC : vv_C Y nL Z cc ret Ts own rm) {i : Nat}  (hd : decode cc pc = .ok (.astore i, 2)) (hn : i < nL) (ho : vv_lo 0 L = true) (hL : vv_ins i (.null) L = L') (hq : pc + 2 = q) (h : vv_V Y nL Z σ q L' (st)) : vv_V Y nL Z σ pc L (.null :: st) := by
  obtain ⟨p, l, e, R, s, m, args, below, meth, c, post⟩ := Z
  obtain ⟨ok, hx, hb, hml, hr, hown, hlk, hts, hK, hR⟩ := hC
  subst hq
  intro H locs ls hP hS hl
  exact lv_astoreN hx hb hd hl hn rfl (fun ls1 hl1 => h H locs ls1 hP hS (vv_keep ho hL hl1))
theorem vv_astore_nN (hC : vv_C Y nL Z cc ret Ts own rm) {k : Fin 4}  (hd : decode cc pc = .ok (.astore_n k, 1)) (hn : (k : Nat) < nL) (ho : vv_lo 0 L = true) (hL : vv_ins (k : Nat) (.null) L = L') (hq : pc + 1 = q) (h : vv_V Y nL Z σ q L' (st)) : vv_V Y nL Z σ pc L (.null :: st) := by
  obtain ⟨p, l, e, R, s, m, args, below, meth, c, post⟩ := Z
  obtain ⟨ok, hx, hb, hml, hr, hown, hlk, hts, hK, hR⟩ := hC
  subst hq
  intro H locs ls hP hS hl
  exact lv_astore_nN hx hb hd rfl hl hn rfl (fun ls1 hl1 => h H locs ls1 hP hS (vv_keep ho hL hl1))
theorem vv_iinc (hC : vv_C Y nL Z cc ret Ts own rm) {i : Nat} {n : Int} {x : Int32} (v : Int32) (hd : decode cc pc = .ok (.iinc i n, 3)) (hk : L.lookup i = some (.int x)) (hv : x + Int32.ofInt n = v) (hn : i < nL) (ho : vv_lo 0 L = true) (hL : vv_ins i (.int v) L = L') (hq : pc + 3 = q) (h : vv_V Y nL Z σ q L' (st)) : vv_V Y nL Z σ pc L (st) := by
  obtain ⟨p, l, e, R, s, m, args, below, meth, c, post⟩ := Z
  obtain ⟨ok, hx, hb, hml, hr, hown, hlk, hts, hK, hR⟩ := hC
  subst hq
  intro H locs ls hP hS hl
  obtain ⟨k, hk⟩ := List.getElem?_of_mem (vv_lk hk)
  exact lv_iinc hx hb hd hl hk hv hn rfl (fun ls1 hl1 => h H locs ls1 hP hS (vv_keep ho hL hl1))
/-- a counter grows by one -/
theorem vv_iincN (hC : vv_C Y nL Z cc ret Ts own rm) {i : Nat} {x : Nat} (hd : decode cc pc = .ok (.iinc i 1, 3)) (hk : L.lookup i = some (.int (nI x))) (hn : i < nL) (ho : vv_lo 0 L = true) (hL : vv_ins i (.int (nI (x + 1))) L = L') (hq : pc + 3 = q) (h : vv_V Y nL Z σ q L' (st)) : vv_V Y nL Z σ pc L (st) := vv_iinc hC (nI (x + 1)) hd hk (by rw [nI_succ]; rfl) hn ho hL hq h
theorem vv_iadd (hC : vv_C Y nL Z cc ret Ts own rm) {x y : Int32} (hd : decode cc pc = .ok (.iadd, 1)) (hq : pc + 1 = q) (h : vv_V Y nL Z σ q L (.int (x + y) :: st)) : vv_V Y nL Z σ pc L (.int y :: .int x :: st) := by
  obtain ⟨p, l, e, R, s, m, args, below, meth, c, post⟩ := Z
  obtain ⟨ok, hx, hb, hml, hr, hown, hlk, hts, hK, hR⟩ := hC
  subst hq
  intro H locs ls hP hS hl
  exact lv_iadd hx hb hd (h H locs ls hP hS hl)
theorem vv_isub (hC : vv_C Y nL Z cc ret Ts own rm) {x y : Int32} (hd : decode cc pc = .ok (.isub, 1)) (hq : pc + 1 = q) (h : vv_V Y nL Z σ q L (.int (x - y) :: st)) : vv_V Y nL Z σ pc L (.int y :: .int x :: st) := by
  obtain ⟨p, l, e, R, s, m, args, below, meth, c, post⟩ := Z
  obtain ⟨ok, hx, hb, hml, hr, hown, hlk, hts, hK, hR⟩ := hC
  subst hq
  intro H locs ls hP hS hl
  exact lv_isub hx hb hd (h H locs ls hP hS hl)
theorem vv_imul (hC : vv_C Y nL Z cc ret Ts own rm) {x y : Int32} (hd : decode cc pc = .ok (.imul, 1)) (hq : pc + 1 = q) (h : vv_V Y nL Z σ q L (.int (x * y) :: st)) : vv_V Y nL Z σ pc L (.int y :: .int x :: st) := by
  obtain ⟨p, l, e, R, s, m, args, below, meth, c, post⟩ := Z
  obtain ⟨ok, hx, hb, hml, hr, hown, hlk, hts, hK, hR⟩ := hC
  subst hq
  intro H locs ls hP hS hl
  exact lv_imul hx hb hd (h H locs ls hP hS hl)
theorem vv_iand (hC : vv_C Y nL Z cc ret Ts own rm) {x y : Int32} (hd : decode cc pc = .ok (.iand, 1)) (hq : pc + 1 = q) (h : vv_V Y nL Z σ q L (.int (x &&& y) :: st)) : vv_V Y nL Z σ pc L (.int y :: .int x :: st) := by
  obtain ⟨p, l, e, R, s, m, args, below, meth, c, post⟩ := Z
  obtain ⟨ok, hx, hb, hml, hr, hown, hlk, hts, hK, hR⟩ := hC
  subst hq
  intro H locs ls hP hS hl
  exact lv_iand hx hb hd (h H locs ls hP hS hl)
theorem vv_ior (hC : vv_C Y nL Z cc ret Ts own rm) {x y : Int32} (hd : decode cc pc = .ok (.ior, 1)) (hq : pc + 1 = q) (h : vv_V Y nL Z σ q L (.int (x ||| y) :: st)) : vv_V Y nL Z σ pc L (.int y :: .int x :: st) := by
  obtain ⟨p, l, e, R, s, m, args, below, meth, c, post⟩ := Z
  obtain ⟨ok, hx, hb, hml, hr, hown, hlk, hts, hK, hR⟩ := hC
  subst hq
  intro H locs ls hP hS hl
  exact lv_ior hx hb hd (h H locs ls hP hS hl)
theorem vv_ixor (hC : vv_C Y nL Z cc ret Ts own rm) {x y : Int32} (hd : decode cc pc = .ok (.ixor, 1)) (hq : pc + 1 = q) (h : vv_V Y nL Z σ q L (.int (x ^^^ y) :: st)) : vv_V Y nL Z σ pc L (.int y :: .int x :: st) := by
  obtain ⟨p, l, e, R, s, m, args, below, meth, c, post⟩ := Z
  obtain ⟨ok, hx, hb, hml, hr, hown, hlk, hts, hK, hR⟩ := hC
  subst hq
  intro H locs ls hP hS hl
  exact lv_ixor hx hb hd (h H locs ls hP hS hl)
theorem vv_ishl (hC : vv_C Y nL Z cc ret Ts own rm) {x y : Int32} (hd : decode cc pc = .ok (.ishl, 1)) (hq : pc + 1 = q) (h : vv_V Y nL Z σ q L (.int (x <<< (y &&& 31)) :: st)) : vv_V Y nL Z σ pc L (.int y :: .int x :: st) := by
  obtain ⟨p, l, e, R, s, m, args, below, meth, c, post⟩ := Z
  obtain ⟨ok, hx, hb, hml, hr, hown, hlk, hts, hK, hR⟩ := hC
  subst hq
  intro H locs ls hP hS hl
  exact lv_ishl hx hb hd (h H locs ls hP hS hl)
theorem vv_ishr (hC : vv_C Y nL Z cc ret Ts own rm) {x y : Int32} (hd : decode cc pc = .ok (.ishr, 1)) (hq : pc + 1 = q) (h : vv_V Y nL Z σ q L (.int (x >>> (y &&& 31)) :: st)) : vv_V Y nL Z σ pc L (.int y :: .int x :: st) := by
  obtain ⟨p, l, e, R, s, m, args, below, meth, c, post⟩ := Z
  obtain ⟨ok, hx, hb, hml, hr, hown, hlk, hts, hK, hR⟩ := hC
  subst hq
  intro H locs ls hP hS hl
  exact lv_ishr hx hb hd (h H locs ls hP hS hl)
theorem vv_idiv (hC : vv_C Y nL Z cc ret Ts own rm) {x y : Int32} (hd : decode cc pc = .ok (.idiv, 1)) (hne : ¬ y = 0) (hq : pc + 1 = q) (h : vv_V Y nL Z σ q L (.int (x / y) :: st)) : vv_V Y nL Z σ pc L (.int y :: .int x :: st) := by
  obtain ⟨p, l, e, R, s, m, args, below, meth, c, post⟩ := Z
  obtain ⟨ok, hx, hb, hml, hr, hown, hlk, hts, hK, hR⟩ := hC
  subst hq
  intro H locs ls hP hS hl
  exact lv_idiv hx hb hd hne (h H locs ls hP hS hl)
theorem vv_irem (hC : vv_C Y nL Z cc ret Ts own rm) {x y : Int32} (hd : decode cc pc = .ok (.irem, 1)) (hne : ¬ y = 0) (hq : pc + 1 = q) (h : vv_V Y nL Z σ q L (.int (x - x / y * y) :: st)) : vv_V Y nL Z σ pc L (.int y :: .int x :: st) := by
  obtain ⟨p, l, e, R, s, m, args, below, meth, c, post⟩ := Z
  obtain ⟨ok, hx, hb, hml, hr, hown, hlk, hts, hK, hR⟩ := hC
  subst hq
  intro H locs ls hP hS hl
  exact lv_irem hx hb hd hne (h H locs ls hP hS hl)
theorem vv_ladd (hC : vv_C Y nL Z cc ret Ts own rm) {x y : Int64} (hd : decode cc pc = .ok (.ladd, 1)) (hq : pc + 1 = q) (h : vv_V Y nL Z σ q L (.long (x + y) :: st)) : vv_V Y nL Z σ pc L (.long y :: .long x :: st) := by
  obtain ⟨p, l, e, R, s, m, args, below, meth, c, post⟩ := Z
  obtain ⟨ok, hx, hb, hml, hr, hown, hlk, hts, hK, hR⟩ := hC
  subst hq
  intro H locs ls hP hS hl
  exact lv_ladd hx hb hd (h H locs ls hP hS hl)
theorem vv_lsub (hC : vv_C Y nL Z cc ret Ts own rm) {x y : Int64} (hd : decode cc pc = .ok (.lsub, 1)) (hq : pc + 1 = q) (h : vv_V Y nL Z σ q L (.long (x - y) :: st)) : vv_V Y nL Z σ pc L (.long y :: .long x :: st) := by
  obtain ⟨p, l, e, R, s, m, args, below, meth, c, post⟩ := Z
  obtain ⟨ok, hx, hb, hml, hr, hown, hlk, hts, hK, hR⟩ := hC
  subst hq
  intro H locs ls hP hS hl
  exact lv_lsub hx hb hd (h H locs ls hP hS hl)
theorem vv_lmul (hC : vv_C Y nL Z cc ret Ts own rm) {x y : Int64} (hd : decode cc pc = .ok (.lmul, 1)) (hq : pc + 1 = q) (h : vv_V Y nL Z σ q L (.long (x * y) :: st)) : vv_V Y nL Z σ pc L (.long y :: .long x :: st) := by
  obtain ⟨p, l, e, R, s, m, args, below, meth, c, post⟩ := Z
  obtain ⟨ok, hx, hb, hml, hr, hown, hlk, hts, hK, hR⟩ := hC
  subst hq
  intro H locs ls hP hS hl
  exact lv_lmul hx hb hd (h H locs ls hP hS hl)
theorem vv_i2l (hC : vv_C Y nL Z cc ret Ts own rm) {x : Int32} (v : Int64) (hd : decode cc pc = .ok (.i2l, 1)) (hv : x.toInt64 = v) (hq : pc + 1 = q) (h : vv_V Y nL Z σ q L (.long v :: st)) : vv_V Y nL Z σ pc L (.int x :: st) := by
  obtain ⟨p, l, e, R, s, m, args, below, meth, c, post⟩ := Z
  obtain ⟨ok, hx, hb, hml, hr, hown, hlk, hts, hK, hR⟩ := hC
  subst hq
  intro H locs ls hP hS hl
  exact lv_i2l hx hb hd hv (h H locs ls hP hS hl)
theorem vv_dup (hC : vv_C Y nL Z cc ret Ts own rm) {va : Value} (hd : decode cc pc = .ok (.dup, 1)) (hva : va.category = 1) (hq : pc + 1 = q) (h : vv_V Y nL Z σ q L (va :: va :: st)) : vv_V Y nL Z σ pc L (va :: st) := by
  obtain ⟨p, l, e, R, s, m, args, below, meth, c, post⟩ := Z
  obtain ⟨ok, hx, hb, hml, hr, hown, hlk, hts, hK, hR⟩ := hC
  subst hq
  intro H locs ls hP hS hl
  exact lv_dup hx hb hd hva (h H locs ls hP hS hl)
theorem vv_pop (hC : vv_C Y nL Z cc ret Ts own rm) {va : Value} (hd : decode cc pc = .ok (.pop, 1)) (hva : va.category = 1) (hq : pc + 1 = q) (h : vv_V Y nL Z σ q L (st)) : vv_V Y nL Z σ pc L (va :: st) := by
  obtain ⟨p, l, e, R, s, m, args, below, meth, c, post⟩ := Z
  obtain ⟨ok, hx, hb, hml, hr, hown, hlk, hts, hK, hR⟩ := hC
  subst hq
  intro H locs ls hP hS hl
  exact lv_pop hx hb hd hva (h H locs ls hP hS hl)
theorem vv_dup2 (hC : vv_C Y nL Z cc ret Ts own rm) {va vb : Value} (hd : decode cc pc = .ok (.dup2, 1)) (hva : va.category = 1) (hvb : vb.category = 1) (hq : pc + 1 = q) (h : vv_V Y nL Z σ q L (va :: vb :: va :: vb :: st)) : vv_V Y nL Z σ pc L (va :: vb :: st) := by
  obtain ⟨p, l, e, R, s, m, args, below, meth, c, post⟩ := Z
  obtain ⟨ok, hx, hb, hml, hr, hown, hlk, hts, hK, hR⟩ := hC
  subst hq
  intro H locs ls hP hS hl
  exact lv_dup2_11 hx hb hd hva hvb (h H locs ls hP hS hl)
theorem vv_dup_x1 (hC : vv_C Y nL Z cc ret Ts own rm) {va vb : Value} (hd : decode cc pc = .ok (.dup_x1, 1)) (hva : va.category = 1) (hvb : vb.category = 1) (hq : pc + 1 = q) (h : vv_V Y nL Z σ q L (va :: vb :: va :: st)) : vv_V Y nL Z σ pc L (va :: vb :: st) := by
  obtain ⟨p, l, e, R, s, m, args, below, meth, c, post⟩ := Z
  obtain ⟨ok, hx, hb, hml, hr, hown, hlk, hts, hK, hR⟩ := hC
  subst hq
  intro H locs ls hP hS hl
  exact lv_dup_x1 hx hb hd hva hvb (h H locs ls hP hS hl)
/-! numbers: the same over nI -/
theorem vv_addN (hC : vv_C Y nL Z cc ret Ts own rm) {x y : Nat} (hd : decode cc pc = .ok (.iadd, 1)) (hq : pc + 1 = q) (h : vv_V Y nL Z σ q L (.int (nI (x + y)) :: st)) : vv_V Y nL Z σ pc L (.int (nI y) :: .int (nI x) :: st) := vv_iadd hC hd hq (by rw [nI_add]; exact h)
theorem vv_subN (hC : vv_C Y nL Z cc ret Ts own rm) {x y : Nat} (hd : decode cc pc = .ok (.isub, 1)) (hle : y ≤ x) (hq : pc + 1 = q) (h : vv_V Y nL Z σ q L (.int (nI (x - y)) :: st)) : vv_V Y nL Z σ pc L (.int (nI y) :: .int (nI x) :: st) := vv_isub hC hd hq (by rw [pk_sub hle]; exact h)
theorem vv_mulN (hC : vv_C Y nL Z cc ret Ts own rm) {x y : Nat} (hd : decode cc pc = .ok (.imul, 1)) (hq : pc + 1 = q) (h : vv_V Y nL Z σ q L (.int (nI (x * y)) :: st)) : vv_V Y nL Z σ pc L (.int (nI y) :: .int (nI x) :: st) := vv_imul hC hd hq (by rw [pk_mul]; exact h)
theorem vv_divN (hC : vv_C Y nL Z cc ret Ts own rm) {x y : Nat} (hd : decode cc pc = .ok (.idiv, 1)) (hx : x < 2 ^ 31) (h0 : 0 < y) (hy : y < 2 ^ 31) (hq : pc + 1 = q) (h : vv_V Y nL Z σ q L (.int (nI (x / y)) :: st)) : vv_V Y nL Z σ pc L (.int (nI y) :: .int (nI x) :: st) := vv_idiv hC hd (nI_ne0 h0 hy) hq (by rw [pk_div hx h0 hy]; exact h)
theorem vv_remN (hC : vv_C Y nL Z cc ret Ts own rm) {x y : Nat} (hd : decode cc pc = .ok (.irem, 1)) (hx : x < 2 ^ 31) (h0 : 0 < y) (hy : y < 2 ^ 31) (hq : pc + 1 = q) (h : vv_V Y nL Z σ q L (.int (nI (x % y)) :: st)) : vv_V Y nL Z σ pc L (.int (nI y) :: .int (nI x) :: st) := vv_irem hC hd (nI_ne0 h0 hy) hq (by rw [pk_rem hx h0 hy]; exact h)
theorem vv_icmp_eq (hC : vv_C Y nL Z cc ret Ts own rm) {x y : Int32} {off : Int} {tgt : Nat} (hd : decode cc pc = .ok (.if_icmp .eq off, 3)) (ht : (pc : Int) + off = (tgt : Int)) (hq : pc + 3 = q) (kt : x = y → vv_V Y nL Z σ tgt L (st)) (kf : ¬ (x = y) → vv_V Y nL Z σ q L (st)) : vv_V Y nL Z σ pc L (.int y :: .int x :: st) := by
  obtain ⟨p, l, e, R, s, m, args, below, meth, c, post⟩ := Z
  obtain ⟨ok, hx, hb, hml, hr, hown, hlk, hts, hK, hR⟩ := hC
  subst hq
  intro H locs ls hP hS hl
  exact lv_icmp_eq hx hb hd ht (fun c => kt c H locs ls hP hS hl) (fun c => kf c H locs ls hP hS hl)
theorem vv_if_eq (hC : vv_C Y nL Z cc ret Ts own rm) {x : Int32} {off : Int} {tgt : Nat} (hd : decode cc pc = .ok (.ifCond .eq off, 3)) (ht : (pc : Int) + off = (tgt : Int)) (hq : pc + 3 = q) (kt : x = 0 → vv_V Y nL Z σ tgt L (st)) (kf : ¬ (x = 0) → vv_V Y nL Z σ q L (st)) : vv_V Y nL Z σ pc L (.int x :: st) := by
  obtain ⟨p, l, e, R, s, m, args, below, meth, c, post⟩ := Z
  obtain ⟨ok, hx, hb, hml, hr, hown, hlk, hts, hK, hR⟩ := hC
  subst hq
  intro H locs ls hP hS hl
  exact lv_if_eq hx hb hd ht (fun c => kt c H locs ls hP hS hl) (fun c => kf c H locs ls hP hS hl)
theorem vv_icmp_ne (hC : vv_C Y nL Z cc ret Ts own rm) {x y : Int32} {off : Int} {tgt : Nat} (hd : decode cc pc = .ok (.if_icmp .ne off, 3)) (ht : (pc : Int) + off = (tgt : Int)) (hq : pc + 3 = q) (kt : ¬ x = y → vv_V Y nL Z σ tgt L (st)) (kf : x = y → vv_V Y nL Z σ q L (st)) : vv_V Y nL Z σ pc L (.int y :: .int x :: st) := by
  obtain ⟨p, l, e, R, s, m, args, below, meth, c, post⟩ := Z
  obtain ⟨ok, hx, hb, hml, hr, hown, hlk, hts, hK, hR⟩ := hC
  subst hq
  intro H locs ls hP hS hl
  exact lv_icmp_ne hx hb hd ht (fun c => kt c H locs ls hP hS hl) (fun c => kf c H locs ls hP hS hl)
theorem vv_if_ne (hC : vv_C Y nL Z cc ret Ts own rm) {x : Int32} {off : Int} {tgt : Nat} (hd : decode cc pc = .ok (.ifCond .ne off, 3)) (ht : (pc : Int) + off = (tgt : Int)) (hq : pc + 3 = q) (kt : ¬ x = 0 → vv_V Y nL Z σ tgt L (st)) (kf : x = 0 → vv_V Y nL Z σ q L (st)) : vv_V Y nL Z σ pc L (.int x :: st) := by
  obtain ⟨p, l, e, R, s, m, args, below, meth, c, post⟩ := Z
  obtain ⟨ok, hx, hb, hml, hr, hown, hlk, hts, hK, hR⟩ := hC
  subst hq
  intro H locs ls hP hS hl
  exact lv_if_ne hx hb hd ht (fun c => kt c H locs ls hP hS hl) (fun c => kf c H locs ls hP hS hl)
theorem vv_icmp_lt (hC : vv_C Y nL Z cc ret Ts own rm) {x y : Int32} {off : Int} {tgt : Nat} (hd : decode cc pc = .ok (.if_icmp .lt off, 3)) (ht : (pc : Int) + off = (tgt : Int)) (hq : pc + 3 = q) (kt : x < y → vv_V Y nL Z σ tgt L (st)) (kf : ¬ (x < y) → vv_V Y nL Z σ q L (st)) : vv_V Y nL Z σ pc L (.int y :: .int x :: st) := by
  obtain ⟨p, l, e, R, s, m, args, below, meth, c, post⟩ := Z
  obtain ⟨ok, hx, hb, hml, hr, hown, hlk, hts, hK, hR⟩ := hC
  subst hq
  intro H locs ls hP hS hl
  exact lv_icmp_lt hx hb hd ht (fun c => kt c H locs ls hP hS hl) (fun c => kf c H locs ls hP hS hl)
theorem vv_if_lt (hC : vv_C Y nL Z cc ret Ts own rm) {x : Int32} {off : Int} {tgt : Nat} (hd : decode cc pc = .ok (.ifCond .lt off, 3)) (ht : (pc : Int) + off = (tgt : Int)) (hq : pc + 3 = q) (kt : x < 0 → vv_V Y nL Z σ tgt L (st)) (kf : ¬ (x < 0) → vv_V Y nL Z σ q L (st)) : vv_V Y nL Z σ pc L (.int x :: st) := by
  obtain ⟨p, l, e, R, s, m, args, below, meth, c, post⟩ := Z
  obtain ⟨ok, hx, hb, hml, hr, hown, hlk, hts, hK, hR⟩ := hC
  subst hq
  intro H locs ls hP hS hl
  exact lv_if_lt hx hb hd ht (fun c => kt c H locs ls hP hS hl) (fun c => kf c H locs ls hP hS hl)
theorem vv_icmp_ge (hC : vv_C Y nL Z cc ret Ts own rm) {x y : Int32} {off : Int} {tgt : Nat} (hd : decode cc pc = .ok (.if_icmp .ge off, 3)) (ht : (pc : Int) + off = (tgt : Int)) (hq : pc + 3 = q) (kt : y ≤ x → vv_V Y nL Z σ tgt L (st)) (kf : ¬ (y ≤ x) → vv_V Y nL Z σ q L (st)) : vv_V Y nL Z σ pc L (.int y :: .int x :: st) := by
  obtain ⟨p, l, e, R, s, m, args, below, meth, c, post⟩ := Z
  obtain ⟨ok, hx, hb, hml, hr, hown, hlk, hts, hK, hR⟩ := hC
  subst hq
  intro H locs ls hP hS hl
  exact lv_icmp_ge hx hb hd ht (fun c => kt c H locs ls hP hS hl) (fun c => kf c H locs ls hP hS hl)
theorem vv_if_ge (hC : vv_C Y nL Z cc ret Ts own rm) {x : Int32} {off : Int} {tgt : Nat} (hd : decode cc pc = .ok (.ifCond .ge off, 3)) (ht : (pc : Int) + off = (tgt : Int)) (hq : pc + 3 = q) (kt : 0 ≤ x → vv_V Y nL Z σ tgt L (st)) (kf : ¬ (0 ≤ x) → vv_V Y nL Z σ q L (st)) : vv_V Y nL Z σ pc L (.int x :: st) := by
  obtain ⟨p, l, e, R, s, m, args, below, meth, c, post⟩ := Z
  obtain ⟨ok, hx, hb, hml, hr, hown, hlk, hts, hK, hR⟩ := hC
  subst hq
  intro H locs ls hP hS hl
  exact lv_if_ge hx hb hd ht (fun c => kt c H locs ls hP hS hl) (fun c => kf c H locs ls hP hS hl)
theorem vv_icmp_gt (hC : vv_C Y nL Z cc ret Ts own rm) {x y : Int32} {off : Int} {tgt : Nat} (hd : decode cc pc = .ok (.if_icmp .gt off, 3)) (ht : (pc : Int) + off = (tgt : Int)) (hq : pc + 3 = q) (kt : y < x → vv_V Y nL Z σ tgt L (st)) (kf : ¬ (y < x) → vv_V Y nL Z σ q L (st)) : vv_V Y nL Z σ pc L (.int y :: .int x :: st) := by
  obtain ⟨p, l, e, R, s, m, args, below, meth, c, post⟩ := Z
  obtain ⟨ok, hx, hb, hml, hr, hown, hlk, hts, hK, hR⟩ := hC
  subst hq
  intro H locs ls hP hS hl
  exact lv_icmp_gt hx hb hd ht (fun c => kt c H locs ls hP hS hl) (fun c => kf c H locs ls hP hS hl)
theorem vv_if_gt (hC : vv_C Y nL Z cc ret Ts own rm) {x : Int32} {off : Int} {tgt : Nat} (hd : decode cc pc = .ok (.ifCond .gt off, 3)) (ht : (pc : Int) + off = (tgt : Int)) (hq : pc + 3 = q) (kt : 0 < x → vv_V Y nL Z σ tgt L (st)) (kf : ¬ (0 < x) → vv_V Y nL Z σ q L (st)) : vv_V Y nL Z σ pc L (.int x :: st) := by
  obtain ⟨p, l, e, R, s, m, args, below, meth, c, post⟩ := Z
  obtain ⟨ok, hx, hb, hml, hr, hown, hlk, hts, hK, hR⟩ := hC
  subst hq
  intro H locs ls hP hS hl
  exact lv_if_gt hx hb hd ht (fun c => kt c H locs ls hP hS hl) (fun c => kf c H locs ls hP hS hl)
theorem vv_icmp_le (hC : vv_C Y nL Z cc ret Ts own rm) {x y : Int32} {off : Int} {tgt : Nat} (hd : decode cc pc = .ok (.if_icmp .le off, 3)) (ht : (pc : Int) + off = (tgt : Int)) (hq : pc + 3 = q) (kt : x ≤ y → vv_V Y nL Z σ tgt L (st)) (kf : ¬ (x ≤ y) → vv_V Y nL Z σ q L (st)) : vv_V Y nL Z σ pc L (.int y :: .int x :: st) := by
  obtain ⟨p, l, e, R, s, m, args, below, meth, c, post⟩ := Z
  obtain ⟨ok, hx, hb, hml, hr, hown, hlk, hts, hK, hR⟩ := hC
  subst hq
  intro H locs ls hP hS hl
  exact lv_icmp_le hx hb hd ht (fun c => kt c H locs ls hP hS hl) (fun c => kf c H locs ls hP hS hl)
theorem vv_if_le (hC : vv_C Y nL Z cc ret Ts own rm) {x : Int32} {off : Int} {tgt : Nat} (hd : decode cc pc = .ok (.ifCond .le off, 3)) (ht : (pc : Int) + off = (tgt : Int)) (hq : pc + 3 = q) (kt : x ≤ 0 → vv_V Y nL Z σ tgt L (st)) (kf : ¬ (x ≤ 0) → vv_V Y nL Z σ q L (st)) : vv_V Y nL Z σ pc L (.int x :: st) := by
  obtain ⟨p, l, e, R, s, m, args, below, meth, c, post⟩ := Z
  obtain ⟨ok, hx, hb, hml, hr, hown, hlk, hts, hK, hR⟩ := hC
  subst hq
  intro H locs ls hP hS hl
  exact lv_if_le hx hb hd ht (fun c => kt c H locs ls hP hS hl) (fun c => kf c H locs ls hP hS hl)
theorem vv_icmpN_eq (hC : vv_C Y nL Z cc ret Ts own rm) {x y : Nat} {off : Int} {tgt : Nat} (hd : decode cc pc = .ok (.if_icmp .eq off, 3)) (ht : (pc : Int) + off = (tgt : Int)) (hxb : x < 2 ^ 31) (hyb : y < 2 ^ 31) (hq : pc + 3 = q) (kt : x = y → vv_V Y nL Z σ tgt L (st)) (kf : ¬ (x = y) → vv_V Y nL Z σ q L (st)) : vv_V Y nL Z σ pc L (.int (nI y) :: .int (nI x) :: st) := vv_icmp_eq hC hd ht hq (fun c => kt ((nI_eq hxb hyb).mp c)) (fun c => kf (fun d => c ((nI_eq hxb hyb).mpr d)))
theorem vv_icmpN_ne (hC : vv_C Y nL Z cc ret Ts own rm) {x y : Nat} {off : Int} {tgt : Nat} (hd : decode cc pc = .ok (.if_icmp .ne off, 3)) (ht : (pc : Int) + off = (tgt : Int)) (hxb : x < 2 ^ 31) (hyb : y < 2 ^ 31) (hq : pc + 3 = q) (kt : ¬ x = y → vv_V Y nL Z σ tgt L (st)) (kf : x = y → vv_V Y nL Z σ q L (st)) : vv_V Y nL Z σ pc L (.int (nI y) :: .int (nI x) :: st) := vv_icmp_ne hC hd ht hq (fun c => kt ((not_congr (nI_eq hxb hyb)).mp c)) (fun c => kf ((nI_eq hxb hyb).mp c))
theorem vv_icmpN_lt (hC : vv_C Y nL Z cc ret Ts own rm) {x y : Nat} {off : Int} {tgt : Nat} (hd : decode cc pc = .ok (.if_icmp .lt off, 3)) (ht : (pc : Int) + off = (tgt : Int)) (hxb : x < 2 ^ 31) (hyb : y < 2 ^ 31) (hq : pc + 3 = q) (kt : x < y → vv_V Y nL Z σ tgt L (st)) (kf : ¬ (x < y) → vv_V Y nL Z σ q L (st)) : vv_V Y nL Z σ pc L (.int (nI y) :: .int (nI x) :: st) := vv_icmp_lt hC hd ht hq (fun c => kt ((nI_ltI hxb hyb).mp c)) (fun c => kf (fun d => c ((nI_ltI hxb hyb).mpr d)))
theorem vv_icmpN_ge (hC : vv_C Y nL Z cc ret Ts own rm) {x y : Nat} {off : Int} {tgt : Nat} (hd : decode cc pc = .ok (.if_icmp .ge off, 3)) (ht : (pc : Int) + off = (tgt : Int)) (hxb : x < 2 ^ 31) (hyb : y < 2 ^ 31) (hq : pc + 3 = q) (kt : y ≤ x → vv_V Y nL Z σ tgt L (st)) (kf : ¬ (y ≤ x) → vv_V Y nL Z σ q L (st)) : vv_V Y nL Z σ pc L (.int (nI y) :: .int (nI x) :: st) := vv_icmp_ge hC hd ht hq (fun c => kt ((nI_leI hyb hxb).mp c)) (fun c => kf (fun d => c ((nI_leI hyb hxb).mpr d)))
theorem vv_icmpN_gt (hC : vv_C Y nL Z cc ret Ts own rm) {x y : Nat} {off : Int} {tgt : Nat} (hd : decode cc pc = .ok (.if_icmp .gt off, 3)) (ht : (pc : Int) + off = (tgt : Int)) (hxb : x < 2 ^ 31) (hyb : y < 2 ^ 31) (hq : pc + 3 = q) (kt : y < x → vv_V Y nL Z σ tgt L (st)) (kf : ¬ (y < x) → vv_V Y nL Z σ q L (st)) : vv_V Y nL Z σ pc L (.int (nI y) :: .int (nI x) :: st) := vv_icmp_gt hC hd ht hq (fun c => kt ((nI_ltI hyb hxb).mp c)) (fun c => kf (fun d => c ((nI_ltI hyb hxb).mpr d)))
theorem vv_icmpN_le (hC : vv_C Y nL Z cc ret Ts own rm) {x y : Nat} {off : Int} {tgt : Nat} (hd : decode cc pc = .ok (.if_icmp .le off, 3)) (ht : (pc : Int) + off = (tgt : Int)) (hxb : x < 2 ^ 31) (hyb : y < 2 ^ 31) (hq : pc + 3 = q) (kt : x ≤ y → vv_V Y nL Z σ tgt L (st)) (kf : ¬ (x ≤ y) → vv_V Y nL Z σ q L (st)) : vv_V Y nL Z σ pc L (.int (nI y) :: .int (nI x) :: st) := vv_icmp_le hC hd ht hq (fun c => kt ((nI_leI hxb hyb).mp c)) (fun c => kf (fun d => c ((nI_leI hxb hyb).mpr d)))
theorem vv_goto (hC : vv_C Y nL Z cc ret Ts own rm) {off : Int} {tgt : Nat} (hd : decode cc pc = .ok (.goto off, 3)) (ht : (pc : Int) + off = (tgt : Int)) (h : vv_V Y nL Z σ tgt L (st)) : vv_V Y nL Z σ pc L (st) := by
  obtain ⟨p, l, e, R, s, m, args, below, meth, c, post⟩ := Z
  obtain ⟨ok, hx, hb, hml, hr, hown, hlk, hts, hK, hR⟩ := hC
  intro H locs ls hP hS hl
  exact lv_goto hx hb hd ht (h H locs ls hP hS hl)
/-- what a boolean answer is -/
def vv_B (c : Prop) [Decidable c] : Int32 := if c then 1 else 0
theorem vv_B1 {c : Prop} [Decidable c] (h : c) : vv_B c = 1 := if_pos h
theorem vv_B0 {c : Prop} [Decidable c] (h : ¬ c) : vv_B c = 0 := if_neg h
theorem vv_Be {c : Prop} [Decidable c] : vv_B c = 0 ↔ ¬ c := by
  unfold vv_B
  by_cases h : c
  · rw [if_pos h]; exact ⟨fun e => absurd e (by decide), fun e => absurd h e⟩
  · rw [if_neg h]; exact ⟨fun _ => h, fun _ => rfl⟩
theorem vv_ifB_eq (hC : vv_C Y nL Z cc ret Ts own rm) {b : Prop} [Decidable b] {off : Int} {tgt : Nat} (hd : decode cc pc = .ok (.ifCond .eq off, 3)) (ht : (pc : Int) + off = (tgt : Int)) (hq : pc + 3 = q) (kt : ¬ b → vv_V Y nL Z σ tgt L (st)) (kf : b → vv_V Y nL Z σ q L (st)) : vv_V Y nL Z σ pc L (.int (vv_B b) :: st) := vv_if_eq hC hd ht hq (fun c => kt (vv_Be.mp c)) (fun c => kf (Decidable.of_not_not (fun d => c (vv_Be.mpr d))))
theorem vv_ifB_ne (hC : vv_C Y nL Z cc ret Ts own rm) {b : Prop} [Decidable b] {off : Int} {tgt : Nat} (hd : decode cc pc = .ok (.ifCond .ne off, 3)) (ht : (pc : Int) + off = (tgt : Int)) (hq : pc + 3 = q) (kt : b → vv_V Y nL Z σ tgt L (st)) (kf : ¬ b → vv_V Y nL Z σ q L (st)) : vv_V Y nL Z σ pc L (.int (vv_B b) :: st) := vv_if_ne hC hd ht hq (fun c => kt (Decidable.of_not_not (fun d => c (vv_Be.mpr d)))) (fun c => kf (vv_Be.mp c))
theorem vv_iret (hC : vv_C Y nL Z cc (some .int) Ts own rm) {v : Int32} (hd : decode cc pc = .ok (.ireturn, 1)) (h : vv_post Z (some (.int v)) σ) : vv_V Y nL Z σ pc L [.int v] := by
  obtain ⟨p, l, e, R, s, m, args, below, meth, c, post⟩ := Z
  obtain ⟨ok, hx, hb, hml, hr, hown, hlk, hts, hK, hR⟩ := hC
  intro H locs ls hP hS hl
  exact W.iret hx hb hr (fun t ht hW => ⟨⟨_, σ, rfl, h, by rw [ht]; exact hP⟩, hS.F ht⟩) hS.2.2 hd
theorem vv_zret (hC : vv_C Y nL Z cc (some .boolean) Ts own rm) {v : Int32} (hn : narrow .boolean (.int v) = .int v) (hd : decode cc pc = .ok (.ireturn, 1)) (h : vv_post Z (some (.int v)) σ) : vv_V Y nL Z σ pc L [.int v] := by
  obtain ⟨p, l, e, R, s, m, args, below, meth, c, post⟩ := Z
  obtain ⟨ok, hx, hb, hml, hr, hown, hlk, hts, hK, hR⟩ := hC
  intro H locs ls hP hS hl
  exact W.zret hx hb hr hn (fun t ht hW => ⟨⟨_, σ, rfl, h, by rw [ht]; exact hP⟩, hS.F ht⟩) hS.2.2 hd
theorem vv_vret (hC : vv_C Y nL Z cc none Ts own rm)  (hd : decode cc pc = .ok (.return_, 1)) (h : vv_post Z (none) σ) : vv_V Y nL Z σ pc L [] := by
  obtain ⟨p, l, e, R, s, m, args, below, meth, c, post⟩ := Z
  obtain ⟨ok, hx, hb, hml, hr, hown, hlk, hts, hK, hR⟩ := hC
  intro H locs ls hP hS hl
  exact W.vret hx hb hr (fun t ht hW => ⟨⟨_, σ, rfl, h, by rw [ht]; exact hP⟩, hS.F ht⟩) hS.2.2 hd
theorem vv_aret {C : String} (hC : vv_C Y nL Z cc (some (.object C)) Ts own rm) {v : Value} (hv : v = .null ∨ ∃ a, v = .ref a) (hd : decode cc pc = .ok (.areturn, 1)) (h : vv_post Z (some v) σ) : vv_V Y nL Z σ pc L [v] := by
  obtain ⟨p, l, e, R, s, m, args, below, meth, c, post⟩ := Z
  obtain ⟨ok, hx, hb, hml, hr, hown, hlk, hts, hK, hR⟩ := hC
  intro H locs ls hP hS hl
  exact W.aret hx hb hr (Or.inl ⟨C, rfl⟩) hv (fun t ht hW => ⟨⟨_, σ, rfl, h, by rw [ht]; exact hP⟩, hS.F ht⟩) hS.2.2 hd
theorem vv_narB {c : Prop} [Decidable c] : narrow .boolean (.int (vv_B c)) = .int (vv_B c) := by
  by_cases h : c
  · rw [vv_B1 h]; rfl
  · rw [vv_B0 h]; rfl
theorem vv_get (hC : vv_C Y nL Z cc ret Ts own rm) {k j ci : Nat} {fs : List Value} {v : Value} {ref C : String} {T : u_T} {N index : Nat} (hin : ∀ w ∈ u_ws C T N, w ∈ Ts) (hk : k < Y.1) (he : Y.2.2.1 k (σ k) = .inr (ci, fs)) (hc : Y.2.2.2.2.1[ci]? = some (C, T, N)) (hj : j < N) (hlink : Cond.fieldLink own index ref (T j).2.1 (T j).2.2.1 ∈ Ts) (hsame : (T j).1 = ref) (hv : fs[j]? = some v) (hd : decode cc pc = .ok (.getfield index, 3)) (hq : pc + 3 = q) (h : vv_V Y nL Z σ q L (v :: st)) : vv_V Y nL Z σ pc L (.ref (Y.2.1 k) :: st) := by
  obtain ⟨p, l, e, R, s, m, args, below, meth, c, post⟩ := Z
  obtain ⟨ok, hx, hb, hml, hr, hown, hlk, hts, hK, hR⟩ := hC
  subst hq
  intro H locs ls hP hS hl
  exact va_get hx hb hts hin hown hK.1 hP k (vv_atc hk he) hc j hj (hts _ hlink) (fun _ h9 => by rw [← hsame]; exact h9) hv hd (h H locs ls hP hS hl)
theorem vv_put (hC : vv_C Y nL Z cc ret Ts own rm) {k j ci : Nat} {fs : List Value} {v : Value} {ref C : String} {T : u_T} {N index : Nat} {ty : FieldType} {x : Int32} (ty0 : Nat → FieldType) (hty : ∀ k, k < N → parseFieldDescriptor (T k).2.2.1 = some (ty0 k)) (hnm : ∀ a, a < N → ∀ b, b < N → a ≠ b → (T a).2.1 ≠ (T b).2.1) (hin : ∀ w ∈ u_ws C T N, w ∈ Ts) (hk : k < Y.1) (he : Y.2.2.1 k (σ k) = .inr (ci, fs)) (hc : Y.2.2.2.2.1[ci]? = some (C, T, N)) (hj : j < N) (hlink : Cond.fieldLink own index ref (T j).2.1 (T j).2.2.1 ∈ Ts) (hsame : (T j).1 = ref) (hfin : (T j).2.2.2 = false) (hdd : parseFieldDescriptor (T j).2.2.1 = some ty) (hn : narrow ty v = v) (hfit : fits ty v = true) (hlen : j < fs.length) (hw : Y.2.2.1 k (upd (σ k) j x) = .inr (ci, fs.set j v)) (hd : decode cc pc = .ok (.putfield index, 3)) (hq : pc + 3 = q) (h : vv_V Y nL Z (vv_up σ k j x) q L (st)) : vv_V Y nL Z σ pc L (v :: .ref (Y.2.1 k) :: st) := by
  obtain ⟨p, l, e, R, s, m, args, below, meth, c, post⟩ := Z
  obtain ⟨ok, hx, hb, hml, hr, hown, hlk, hts, hK, hR⟩ := hC
  subst hq
  intro H locs ls hP hS hl
  refine va_put hx hb hts hin ty0 hty hnm hown hK.1 hP (vv_D ok σ s.heap.size) hS k (vv_atc hk he) hc j hj (hts _ hlink) (fun _ h9 => by rw [← hsame]; exact h9) hfin hdd hn hfit hlen hd (fun H1 locs1 hP1 _ hS1 => ?_)
  rw [vv_set hk (by rw [vv_up_s]; exact hw) (fun i hi => vv_up_n hi)] at hP1
  exact h H1 locs1 ls hP1 hS1 hl
theorem vv_getN (hC : vv_C Y nL Z cc ret Ts own rm) {k j ci : Nat} {fs : List Value} {v : Value} {ref C : String} {T : u_T} {N index : Nat} {host : String} (hin : ∀ w ∈ u_ws C T N, w ∈ Ts) (hk : k < Y.1) (he : Y.2.2.1 k (σ k) = .inr (ci, fs)) (hc : Y.2.2.2.2.1[ci]? = some (C, T, N)) (hj : j < N) (hlink : Cond.fieldLinkNest own index ref (T j).2.1 (T j).2.2.1 host ∈ Y.2.2.2.2.2.2) (hsame : (T j).1 = ref) (hv : fs[j]? = some v) (hd : decode cc pc = .ok (.getfield index, 3)) (hq : pc + 3 = q) (h : vv_V Y nL Z σ q L (v :: st)) : vv_V Y nL Z σ pc L (.ref (Y.2.1 k) :: st) := by
  obtain ⟨p, l, e, R, s, m, args, below, meth, c, post⟩ := Z
  obtain ⟨ok, hx, hb, hml, hr, hown, hlk, hts, hK, hR⟩ := hC
  subst hq
  intro H locs ls hP hS hl
  exact va_getN hx hb hts hin hown hK.1 hP k (vv_atc hk he) hc j hj (va_Nw.use rfl (hK.2 _ hlink).2) (fun _ h9 => by rw [← hsame]; exact h9) hv hd (h H locs ls hP hS hl)
theorem vv_putN (hC : vv_C Y nL Z cc ret Ts own rm) {k j ci : Nat} {fs : List Value} {v : Value} {ref C : String} {T : u_T} {N index : Nat} {host : String} {ty : FieldType} {x : Int32} (ty0 : Nat → FieldType) (hty : ∀ k, k < N → parseFieldDescriptor (T k).2.2.1 = some (ty0 k)) (hnm : ∀ a, a < N → ∀ b, b < N → a ≠ b → (T a).2.1 ≠ (T b).2.1) (hin : ∀ w ∈ u_ws C T N, w ∈ Ts) (hk : k < Y.1) (he : Y.2.2.1 k (σ k) = .inr (ci, fs)) (hc : Y.2.2.2.2.1[ci]? = some (C, T, N)) (hj : j < N) (hlink : Cond.fieldLinkNest own index ref (T j).2.1 (T j).2.2.1 host ∈ Y.2.2.2.2.2.2) (hsame : (T j).1 = ref) (hfin : (T j).2.2.2 = false) (hdd : parseFieldDescriptor (T j).2.2.1 = some ty) (hn : narrow ty v = v) (hfit : fits ty v = true) (hlen : j < fs.length) (hw : Y.2.2.1 k (upd (σ k) j x) = .inr (ci, fs.set j v)) (hd : decode cc pc = .ok (.putfield index, 3)) (hq : pc + 3 = q) (h : vv_V Y nL Z (vv_up σ k j x) q L (st)) : vv_V Y nL Z σ pc L (v :: .ref (Y.2.1 k) :: st) := by
  obtain ⟨p, l, e, R, s, m, args, below, meth, c, post⟩ := Z
  obtain ⟨ok, hx, hb, hml, hr, hown, hlk, hts, hK, hR⟩ := hC
  subst hq
  intro H locs ls hP hS hl
  refine va_putN hx hb hts hin ty0 hty hnm hown hK.1 hP (vv_D ok σ s.heap.size) hS k (vv_atc hk he) hc j hj (va_Nw.use rfl (hK.2 _ hlink).2) (fun _ h9 => by rw [← hsame]; exact h9) hfin hdd hn hfit hlen hd (fun H1 locs1 hP1 _ hS1 => ?_)
  rw [vv_set hk (by rw [vv_up_s]; exact hw) (fun i hi => vv_up_n hi)] at hP1
  exact h H1 locs1 ls hP1 hS1 hl
theorem vv_ild (hC : vv_C Y nL Z cc ret Ts own rm) {k t n : Nat} {cA : ClassId} {i : Nat} (hk : k < Y.1) (he : ∀ f : Nat → Int32, Y.2.2.1 k f = .inl (cA, n, .inl f)) (ht : Y.2.2.2.2.2.1[t]? = some (cA, .int)) (hi : i < n) (hn : n < 2 ^ 31) (hd : decode cc pc = .ok (.iaload, 1)) (hq : pc + 1 = q) (h : vv_V Y nL Z σ q L (.int (σ k i) :: st)) : vv_V Y nL Z σ pc L (.int (nI i) :: .ref (Y.2.1 k) :: st) := by
  obtain ⟨p, l, e, R, s, m, args, below, meth, c, post⟩ := Z
  obtain ⟨ok, hx, hb, hml, hr, hown, hlk, hts, hK, hR⟩ := hC
  subst hq
  intro H locs ls hP hS hl
  refine va_iald hx hb hK.1 hP k t (vv_atc hk (he _)) ht (vp_in_nI hi hn) hd ?_
  rw [nI_clamp (Nat.lt_trans hi hn)]
  exact h H locs ls hP hS hl
theorem vv_zld (hC : vv_C Y nL Z cc ret Ts own rm) {k t n : Nat} {cA : ClassId} {i : Nat} (hk : k < Y.1) (he : ∀ f : Nat → Int32, Y.2.2.1 k f = .inl (cA, n, .inl f)) (ht : Y.2.2.2.2.2.1[t]? = some (cA, .boolean)) (hi : i < n) (hn : n < 2 ^ 31) (hd : decode cc pc = .ok (.baload, 1)) (hq : pc + 1 = q) (h : vv_V Y nL Z σ q L (.int (σ k i) :: st)) : vv_V Y nL Z σ pc L (.int (nI i) :: .ref (Y.2.1 k) :: st) := by
  obtain ⟨p, l, e, R, s, m, args, below, meth, c, post⟩ := Z
  obtain ⟨ok, hx, hb, hml, hr, hown, hlk, hts, hK, hR⟩ := hC
  subst hq
  intro H locs ls hP hS hl
  refine va_zald hx hb hK.1 hP k t (vv_atc hk (he _)) ht (vp_in_nI hi hn) hd ?_
  rw [nI_clamp (Nat.lt_trans hi hn)]
  exact h H locs ls hP hS hl
theorem vv_ist (hC : vv_C Y nL Z cc ret Ts own rm) {k t n : Nat} {cA : ClassId} {i : Nat} {x : Int32} (hk : k < Y.1) (he : ∀ f : Nat → Int32, Y.2.2.1 k f = .inl (cA, n, .inl f)) (ht : Y.2.2.2.2.2.1[t]? = some (cA, .int)) (hi : i < n) (hn : n < 2 ^ 31) (hd : decode cc pc = .ok (.iastore, 1)) (hq : pc + 1 = q) (h : vv_V Y nL Z (vv_up σ k i x) q L (st)) : vv_V Y nL Z σ pc L (.int x :: .int (nI i) :: .ref (Y.2.1 k) :: st) := by
  obtain ⟨p, l, e, R, s, m, args, below, meth, c, post⟩ := Z
  obtain ⟨ok, hx, hb, hml, hr, hown, hlk, hts, hK, hR⟩ := hC
  subst hq
  intro H locs ls hP hS hl
  refine va_iast hx hb hK.1 hP (vv_D ok σ s.heap.size) hS k t (vv_atc hk (he _)) ht (vp_in_nI hi hn) hd (fun H1 locs1 hP1 _ hS1 => ?_)
  rw [nI_clamp (Nat.lt_trans hi hn), vv_set hk (by rw [vv_up_s]; exact he _) (fun i hi => vv_up_n hi)] at hP1
  exact h H1 locs1 ls hP1 hS1 hl
theorem vv_zst (hC : vv_C Y nL Z cc ret Ts own rm) {k t n : Nat} {cA : ClassId} {i : Nat} {x : Int32} (hk : k < Y.1) (he : ∀ f : Nat → Int32, Y.2.2.1 k f = .inl (cA, n, .inl f)) (ht : Y.2.2.2.2.2.1[t]? = some (cA, .boolean)) (hi : i < n) (hn : n < 2 ^ 31) (hd : decode cc pc = .ok (.bastore, 1)) (hq : pc + 1 = q) (h : vv_V Y nL Z (vv_up σ k i (vp_nar .boolean x)) q L (st)) : vv_V Y nL Z σ pc L (.int x :: .int (nI i) :: .ref (Y.2.1 k) :: st) := by
  obtain ⟨p, l, e, R, s, m, args, below, meth, c, post⟩ := Z
  obtain ⟨ok, hx, hb, hml, hr, hown, hlk, hts, hK, hR⟩ := hC
  subst hq
  intro H locs ls hP hS hl
  refine va_zast hx hb hK.1 hP (vv_D ok σ s.heap.size) hS k t (vv_atc hk (he _)) ht (vp_in_nI hi hn) hd (fun H1 locs1 hP1 _ hS1 => ?_)
  rw [nI_clamp (Nat.lt_trans hi hn), vv_set hk (by rw [vv_up_s]; exact he _) (fun i hi => vv_up_n hi)] at hP1
  exact h H1 locs1 ls hP1 hS1 hl
theorem vv_ald (hC : vv_C Y nL Z cc ret Ts own rm) {k t n : Nat} {cA : ClassId} {f : Nat → Option Nat} {i a : Nat} {E : String} (hk : k < Y.1) (he : Y.2.2.1 k (σ k) = .inl (cA, n, .inr (.inr (.inr (.inr f))))) (ht : Y.2.2.2.2.2.1[t]? = some (cA, .object E)) (hi : i < n) (hn : n < 2 ^ 31) (ha : f i = some a) (hd : decode cc pc = .ok (.aaload, 1)) (hq : pc + 1 = q) (h : vv_V Y nL Z σ q L (.ref a :: st)) : vv_V Y nL Z σ pc L (.int (nI i) :: .ref (Y.2.1 k) :: st) := by
  obtain ⟨p, l, e, R, s, m, args, below, meth, c, post⟩ := Z
  obtain ⟨ok, hx, hb, hml, hr, hown, hlk, hts, hK, hR⟩ := hC
  subst hq
  intro H locs ls hP hS hl
  refine va_aldq hx hb hK.1 hP k t (vv_atc hk he) ht (vp_in_nI hi hn) hd ?_
  rw [nI_clamp (Nat.lt_trans hi hn), ha]
  exact h H locs ls hP hS hl
theorem vv_ifnull (hC : vv_C Y nL Z cc ret Ts own rm) {x : Nat} {off : Int} (hd : decode cc pc = .ok (.ifnull off, 3)) (hq : pc + 3 = q) (h : vv_V Y nL Z σ q L (st)) : vv_V Y nL Z σ pc L (.ref x :: st) := by
  obtain ⟨p, l, e, R, s, m, args, below, meth, c, post⟩ := Z
  obtain ⟨ok, hx, hb, hml, hr, hown, hlk, hts, hK, hR⟩ := hC
  subst hq
  intro H locs ls hP hS hl
  exact lv_ifnull hx hb hd (h H locs ls hP hS hl)
theorem vv_ifnullN (hC : vv_C Y nL Z cc ret Ts own rm) {off : Int} {tgt : Nat} (hd : decode cc pc = .ok (.ifnull off, 3)) (ht : (pc : Int) + off = (tgt : Int)) (h : vv_V Y nL Z σ tgt L (st)) : vv_V Y nL Z σ pc L (.null :: st) := by
  obtain ⟨p, l, e, R, s, m, args, below, meth, c, post⟩ := Z
  obtain ⟨ok, hx, hb, hml, hr, hown, hlk, hts, hK, hR⟩ := hC
  intro H locs ls hP hS hl
  exact lv_ifnullN hx hb hd ht (h H locs ls hP hS hl)
theorem vv_ifnonnull (hC : vv_C Y nL Z cc ret Ts own rm) {x : Nat} {off : Int} {tgt : Nat} (hd : decode cc pc = .ok (.ifnonnull off, 3)) (ht : (pc : Int) + off = (tgt : Int)) (h : vv_V Y nL Z σ tgt L (st)) : vv_V Y nL Z σ pc L (.ref x :: st) := by
  obtain ⟨p, l, e, R, s, m, args, below, meth, c, post⟩ := Z
  obtain ⟨ok, hx, hb, hml, hr, hown, hlk, hts, hK, hR⟩ := hC
  intro H locs ls hP hS hl
  exact lv_ifnonnull hx hb hd ht (h H locs ls hP hS hl)
theorem vv_ifnonnullN (hC : vv_C Y nL Z cc ret Ts own rm) {off : Int} (hd : decode cc pc = .ok (.ifnonnull off, 3)) (hq : pc + 3 = q) (h : vv_V Y nL Z σ q L (st)) : vv_V Y nL Z σ pc L (.null :: st) := by
  obtain ⟨p, l, e, R, s, m, args, below, meth, c, post⟩ := Z
  obtain ⟨ok, hx, hb, hml, hr, hown, hlk, hts, hK, hR⟩ := hC
  subst hq
  intro H locs ls hP hS hl
  exact lv_ifnonnullN hx hb hd (h H locs ls hP hS hl)
theorem vv_room {rest : List Value} {m : MethodId} {ls : Array Slot} {st0 : List Value} (h : (rest.map fun v => v.category).sum ≤ 8) : 2 * (F0 m pc ls st0).monitorRoom + (rest.map fun v => v.category).sum ≤ 8 := lv_room h
/-- what a run of a callee gives, of whatever answer -/
theorem vv_back {p : Program} {l : Launch} {e : Env} {R : Room} {s : State} {m : MethodId} {args a : Array Value} {below : List Frame} {meth : Method} {c : Code} {H H0 : Heap} {locs : List Loc} {Q : State → Prop} {ls : Array Slot} {st0 rest : List Value} {post : Option Value → vv_S → Prop}
    (hr : va_Run p l e R s m args below meth c H locs 0 0 0 0 (F0 m pc ls st0) rest (vv_Qc Y H.size post a) (vv_A Y H.size)) (hS : va_S (vv_A Y H0.size) H0 H locs)
    (kk : ∀ (v : Option Value) (σ1 : vv_S) (H1 : Heap) (locs1 : List Loc), post v σ1 → vv_P Y σ1 H1 → va_S (vv_A Y H0.size) H0 H1 locs1 → W p l e R s m args below meth c H1 locs1 0 0 Q (F0 m (pc + 3) ls (v.toList ++ rest))) : W p l e R s m args below meth c H locs 0 0 Q (F0 m pc ls st0) := by
  intro T hT X
  obtain ⟨v, st₀, t, T', Lc, h0, X', hL, e1, e2, ⟨⟨v', σ1, hv, hp, hb⟩, hz, hk⟩, st⟩ := hr T hT X
  cases hv
  rw [h0] at hz hk
  have up : ∀ z, vv_A Y H.size z → vv_A Y H0.size z := fun z hz => hz.elim Or.inl (fun w => Or.inr (Nat.le_trans hS.1 w))
  obtain ⟨t2, a1, b1⟩ := kk v σ1 T'.heap (locs ++ Lc) hp (by rw [e1]; exact hb)
    ⟨Nat.le_trans hS.1 (by rw [e1]; exact hz), fun z h1 h2 => by rw [e1, hk z (Nat.lt_of_lt_of_le h1 hS.1) (fun w => h2 (up z w))]; exact hS.2.1 z h1 h2, fun z hz => by
      rcases List.mem_append.mp hz with h | h
      · exact hS.2.2 z h
      · exact up _ (hL z h)⟩ T' rfl X'
  exact ⟨t2, st t2 a1, b1⟩
theorem vv_callV (hC : vv_C Y nL Z cc ret Ts own rm) {y : MethodName} {bytes : ByteArray} {maxL n index : Nat} {rt : Option FieldType} {ws ws' : List Cond} {rm1 : Room} {As : List Value} {post : Option Value → vv_S → Prop} {k ci N : Nat} {C : String} {T : u_T} {fs : List Value} (hk : k < Y.1) (he : Y.2.2.1 k (σ k) = .inr (ci, fs)) (hc : Y.2.2.2.2.1[ci]? = some (C, T, N)) (hM : vv_M (vv_l Z) Y y ws rm1 (.ref (Y.2.1 k) :: As) σ post) (hG : GoodIn Ts (wsV own index C y ws)) (hw : ws = Cond.code y bytes maxL rt :: ws') (hdd : y.cls = C ∧ y.cls ≠ "java/lang/invoke/MethodHandle" ∧ y.cls ≠ "java/lang/invoke/VarHandle" ∧ (parseMethodDescriptor y.desc).map (fun d => d.parameters.length) = some n) (hd : decode cc pc = .ok (.invokevirtual index, 3)) (hRb : (Nat.ble (rm1.frames + 1) rm.frames && Nat.ble (8 + (maxL + 11) + rm1.locals) rm.locals && Nat.beq rm1.cells 0 && Nat.beq rm1.slots 0 && Nat.ble ((st.map fun v => v.category).sum) 8) = true) (hn : As.length = n) (hq : pc + 3 = q) (kk : ∀ (v : Option Value) (σ1 : vv_S), post v σ1 → vv_V Y nL Z σ1 q L (v.toList ++ st)) : vv_V Y nL Z σ pc L (As.reverse ++ .ref (Y.2.1 k) :: st) := by
  obtain ⟨p, l, e, R, s, m, args, below, meth, c, post⟩ := Z
  obtain ⟨ok, hx, hb, hml, hr, hown, hlk, hts, hK, hR⟩ := hC
  subst hq
  subst hR
  simp only [Bool.and_eq_true] at hRb
  obtain ⟨⟨⟨⟨hR1, hR2⟩, hR3⟩, hR4⟩, hR5⟩ := hRb
  have hR1 := Nat.le_of_ble_eq_true hR1
  have hR2 := Nat.le_of_ble_eq_true hR2
  have hR3 := Nat.eq_of_beq_eq_true hR3
  have hR4 := Nat.eq_of_beq_eq_true hR4
  have hR5 := Nat.le_of_ble_eq_true hR5
  intro H locs ls hP hS hl
  have hrecv : ∃ cellB : Cell, H[Y.2.1 k]? = some cellB ∧ cellB.vm.isStatics = false ∧ s.vm.findClass C = some cellB.cls := va_recv hK.1 hP hc (vv_atc hk he)
  refine vv_back (rest := st) (va_runV (As := As) (rest := st) ⟨hx, hb, hml, hown, hts⟩ (hM H.size) (cwV n hts hG hw hR3 hR4 hdd ⟨hR1, hR2⟩) ⟨vv_blind, hrecv, fun U hU hW => ⟨rfl, by rw [hU], by rw [hU]; exact hP, hK.warm hW⟩⟩ rfl hn hl.1 rfl (vv_room hR5) hd ⟨Nat.zero_le _, Nat.zero_le _⟩) hS (fun v σ1 H1 locs1 hp hP1 hS1 => kk v σ1 hp H1 locs1 ls hP1 hS1 hl)
theorem vv_callVN (hC : vv_C Y nL Z cc ret Ts own rm) {y : MethodName} {bytes : ByteArray} {maxL n index : Nat} {rt : Option FieldType} {ws ws' : List Cond} {rm1 : Room} {As : List Value} {post : Option Value → vv_S → Prop} {k ci N : Nat} {C : String} {T : u_T} {fs : List Value} (hk : k < Y.1) (he : Y.2.2.1 k (σ k) = .inr (ci, fs)) (hc : Y.2.2.2.2.1[ci]? = some (C, T, N)) (hM : vv_M (vv_l Z) Y y ws rm1 (.ref (Y.2.1 k) :: As) σ post) {host : String} (hG : GoodIn Ts ws) (hw : ws = Cond.code y bytes maxL rt :: ws') (hlink : Cond.methodLinkNest own index y host ∈ Y.2.2.2.2.2.2) (hini : Cond.initialized y.cls ∈ Ts) (hinst : Cond.instanceMethod y ∈ Ts) (hsel : Cond.selects C y y ∈ Ts) (hdd : y.cls ≠ "java/lang/invoke/MethodHandle" ∧ y.cls ≠ "java/lang/invoke/VarHandle" ∧ (parseMethodDescriptor y.desc).map (fun d => d.parameters.length) = some n) (hd : decode cc pc = .ok (.invokevirtual index, 3)) (hRb : (Nat.ble (rm1.frames + 1) rm.frames && Nat.ble (8 + (maxL + 11) + rm1.locals) rm.locals && Nat.beq rm1.cells 0 && Nat.beq rm1.slots 0 && Nat.ble ((st.map fun v => v.category).sum) 8) = true) (hn : As.length = n) (hq : pc + 3 = q) (kk : ∀ (v : Option Value) (σ1 : vv_S), post v σ1 → vv_V Y nL Z σ1 q L (v.toList ++ st)) : vv_V Y nL Z σ pc L (As.reverse ++ .ref (Y.2.1 k) :: st) := by
  obtain ⟨p, l, e, R, s, m, args, below, meth, c, post⟩ := Z
  obtain ⟨ok, hx, hb, hml, hr, hown, hlk, hts, hK, hR⟩ := hC
  subst hq
  subst hR
  simp only [Bool.and_eq_true] at hRb
  obtain ⟨⟨⟨⟨hR1, hR2⟩, hR3⟩, hR4⟩, hR5⟩ := hRb
  have hR1 := Nat.le_of_ble_eq_true hR1
  have hR2 := Nat.le_of_ble_eq_true hR2
  have hR3 := Nat.eq_of_beq_eq_true hR3
  have hR4 := Nat.eq_of_beq_eq_true hR4
  have hR5 := Nat.le_of_ble_eq_true hR5
  intro H locs ls hP hS hl
  have hrecv : ∃ cellB : Cell, H[Y.2.1 k]? = some cellB ∧ cellB.vm.isStatics = false ∧ s.vm.findClass C = some cellB.cls := va_recv hK.1 hP hc (vv_atc hk he)
  refine vv_back (rest := st) (va_runVN (As := As) (rest := st) ⟨hx, hb, hml, hown, hts⟩ (hM H.size) ⟨va_cnB n hts hG hw hR3 hR4 (hK.2 _ hlink).2 (hts _ hini) hdd ⟨hR1, hR2⟩, hts _ hinst, hts _ hsel⟩ ⟨vv_blind, hrecv, fun U hU hW => ⟨rfl, by rw [hU], by rw [hU]; exact hP, hK.warm hW⟩⟩ rfl hn hl.1 rfl (vv_room hR5) hd ⟨Nat.zero_le _, Nat.zero_le _⟩) hS (fun v σ1 H1 locs1 hp hP1 hS1 => kk v σ1 hp H1 locs1 ls hP1 hS1 hl)
theorem vv_callS (hC : vv_C Y nL Z cc ret Ts own rm) {y : MethodName} {bytes : ByteArray} {maxL n index : Nat} {rt : Option FieldType} {ws ws' : List Cond} {rm1 : Room} {As : List Value} {post : Option Value → vv_S → Prop} (hM : vv_M (vv_l Z) Y y ws rm1 As σ post) (hG : GoodIn Ts (va_wsS own index y ws)) (hw : ws = Cond.code y bytes maxL rt :: ws') (hdd : y.cls ≠ "java/lang/invoke/MethodHandle" ∧ y.cls ≠ "java/lang/invoke/VarHandle" ∧ (parseMethodDescriptor y.desc).map (fun d => d.parameters.length) = some n) (hd : decode cc pc = .ok (.invokestatic index, 3)) (hRb : (Nat.ble (rm1.frames + 1) rm.frames && Nat.ble (8 + (maxL + 11) + rm1.locals) rm.locals && Nat.beq rm1.cells 0 && Nat.beq rm1.slots 0 && Nat.ble ((st.map fun v => v.category).sum) 8) = true) (hn : As.length = n) (hq : pc + 3 = q) (kk : ∀ (v : Option Value) (σ1 : vv_S), post v σ1 → vv_V Y nL Z σ1 q L (v.toList ++ st)) : vv_V Y nL Z σ pc L (As.reverse ++ st) := by
  obtain ⟨p, l, e, R, s, m, args, below, meth, c, post⟩ := Z
  obtain ⟨ok, hx, hb, hml, hr, hown, hlk, hts, hK, hR⟩ := hC
  subst hq
  subst hR
  simp only [Bool.and_eq_true] at hRb
  obtain ⟨⟨⟨⟨hR1, hR2⟩, hR3⟩, hR4⟩, hR5⟩ := hRb
  have hR1 := Nat.le_of_ble_eq_true hR1
  have hR2 := Nat.le_of_ble_eq_true hR2
  have hR3 := Nat.eq_of_beq_eq_true hR3
  have hR4 := Nat.eq_of_beq_eq_true hR4
  have hR5 := Nat.le_of_ble_eq_true hR5
  intro H locs ls hP hS hl
  refine vv_back (rest := st) (va_runS (As := As) (rest := st) ⟨hx, hb, hml, hown, hts⟩ (hM H.size) (va_cwS n hts hG hw hR3 hR4 hdd ⟨hR1, hR2⟩) ⟨vv_blind, fun U hU hW => ⟨rfl, by rw [hU], by rw [hU]; exact hP, hK.warm hW⟩⟩ rfl hn hl.1 rfl (vv_room hR5) hd ⟨Nat.zero_le _, Nat.zero_le _⟩) hS (fun v σ1 H1 locs1 hp hP1 hS1 => kk v σ1 hp H1 locs1 ls hP1 hS1 hl)
end VROWS
end
section
def pc_nw : List Cond := [Cond.methodLinkNest RX3 48 yX0_init "ParityRow",
  Cond.methodLinkNest RX3 51 yX2_init "ParityRow",
  Cond.fieldLinkNest RX3 107 "ParityRow$Journal" "records" "I" "ParityRow",
  Cond.fieldLinkNest RX3 120 "ParityRow$Disk" "state" "I" "ParityRow",
  Cond.fieldLinkNest RX3 123 "ParityRow$Disk" "built" "I" "ParityRow",
  Cond.methodLinkNest RX3 129 yX0_replace "ParityRow",
  Cond.fieldLinkNest RX3 141 "ParityRow$Disk" "words" "[I" "ParityRow",
  Cond.fieldLinkNest RX3 153 "ParityRow$Disk" "sums" "[I" "ParityRow",
  Cond.fieldLinkNest RX3 156 "ParityRow$Disk" "torn" "[Z" "ParityRow",
  Cond.methodLinkNest RX3 160 yX0_isThere "ParityRow",
  Cond.fieldLinkNest RX3 163 "ParityRow$Disk" "written" "I" "ParityRow",
  Cond.methodLinkNest RX3 166 yX2_freeCells "ParityRow",
  Cond.methodLinkNest RX3 173 yX2_nextSerial "ParityRow",
  Cond.fieldLinkNest RX3 176 "ParityRow$Journal" "markCell" "I" "ParityRow",
  Cond.fieldLinkNest RX3 179 "ParityRow$Journal" "markSerial" "I" "ParityRow",
  Cond.methodLinkNest RX3 182 yX2_entry "ParityRow",
  Cond.fieldLinkNest RX3 186 "ParityRow$Entry" "stripe" "I" "ParityRow",
  Cond.fieldLinkNest RX3 191 "ParityRow$Entry" "parts" "I" "ParityRow",
  Cond.methodLinkNest RX3 197 yX1_has "ParityRow",
  Cond.fieldLinkNest RX3 200 "ParityRow$Entry" "way" "I" "ParityRow",
  Cond.methodLinkNest RX3 209 yX2_latestWith "ParityRow",
  Cond.fieldLinkNest RX3 223 "ParityRow$Entry" "words" "[I" "ParityRow",
  Cond.methodLinkNest RX3 224 yX0_forgetBuilding "ParityRow",
  Cond.methodLinkNest RX3 230 yX0_take "ParityRow",
  Cond.methodLinkNest RX3 234 yX2_free "ParityRow",
  Cond.methodLinkNest RX3 237 yX0_isOn "ParityRow",
  Cond.methodLinkNest RX3 248 yX2_made "ParityRow",
  Cond.methodLinkNest RX3 252 yX1_begin "ParityRow",
  Cond.methodLinkNest RX3 255 yX1_addDatum "ParityRow",
  Cond.methodLinkNest RX3 265 yX1_cells "ParityRow",
  Cond.methodLinkNest RX3 268 yX2_recordsToFree "ParityRow",
  Cond.methodLinkNest RX3 274 yX2_addMade "ParityRow",
  Cond.methodLinkNest RX3 288 yX1_addWords "ParityRow",
  Cond.methodLinkNest RX3 292 yX2_recordsUpTo "ParityRow",
  Cond.methodLinkNest RX2 33 yX1_init "ParityRow",
  Cond.methodLinkNest RX2 44 yX1_cells "ParityRow",
  Cond.fieldLinkNest RX2 48 "ParityRow$Entry" "stripe" "I" "ParityRow",
  Cond.methodLinkNest RX2 51 yX1_has "ParityRow"]
theorem nw_X3_48 : Cond.methodLinkNest RX3 48 yX0_init "ParityRow" ∈ pc_nw := List.mem_of_getElem? (i := 0) rfl
theorem nw_X3_51 : Cond.methodLinkNest RX3 51 yX2_init "ParityRow" ∈ pc_nw := List.mem_of_getElem? (i := 1) rfl
theorem nw_X3_107 : Cond.fieldLinkNest RX3 107 "ParityRow$Journal" "records" "I" "ParityRow" ∈ pc_nw := List.mem_of_getElem? (i := 2) rfl
theorem nw_X3_120 : Cond.fieldLinkNest RX3 120 "ParityRow$Disk" "state" "I" "ParityRow" ∈ pc_nw := List.mem_of_getElem? (i := 3) rfl
theorem nw_X3_123 : Cond.fieldLinkNest RX3 123 "ParityRow$Disk" "built" "I" "ParityRow" ∈ pc_nw := List.mem_of_getElem? (i := 4) rfl
theorem nw_X3_129 : Cond.methodLinkNest RX3 129 yX0_replace "ParityRow" ∈ pc_nw := List.mem_of_getElem? (i := 5) rfl
theorem nw_X3_141 : Cond.fieldLinkNest RX3 141 "ParityRow$Disk" "words" "[I" "ParityRow" ∈ pc_nw := List.mem_of_getElem? (i := 6) rfl
theorem nw_X3_153 : Cond.fieldLinkNest RX3 153 "ParityRow$Disk" "sums" "[I" "ParityRow" ∈ pc_nw := List.mem_of_getElem? (i := 7) rfl
theorem nw_X3_156 : Cond.fieldLinkNest RX3 156 "ParityRow$Disk" "torn" "[Z" "ParityRow" ∈ pc_nw := List.mem_of_getElem? (i := 8) rfl
theorem nw_X3_160 : Cond.methodLinkNest RX3 160 yX0_isThere "ParityRow" ∈ pc_nw := List.mem_of_getElem? (i := 9) rfl
theorem nw_X3_163 : Cond.fieldLinkNest RX3 163 "ParityRow$Disk" "written" "I" "ParityRow" ∈ pc_nw := List.mem_of_getElem? (i := 10) rfl
theorem nw_X3_166 : Cond.methodLinkNest RX3 166 yX2_freeCells "ParityRow" ∈ pc_nw := List.mem_of_getElem? (i := 11) rfl
theorem nw_X3_173 : Cond.methodLinkNest RX3 173 yX2_nextSerial "ParityRow" ∈ pc_nw := List.mem_of_getElem? (i := 12) rfl
theorem nw_X3_176 : Cond.fieldLinkNest RX3 176 "ParityRow$Journal" "markCell" "I" "ParityRow" ∈ pc_nw := List.mem_of_getElem? (i := 13) rfl
theorem nw_X3_179 : Cond.fieldLinkNest RX3 179 "ParityRow$Journal" "markSerial" "I" "ParityRow" ∈ pc_nw := List.mem_of_getElem? (i := 14) rfl
theorem nw_X3_182 : Cond.methodLinkNest RX3 182 yX2_entry "ParityRow" ∈ pc_nw := List.mem_of_getElem? (i := 15) rfl
theorem nw_X3_186 : Cond.fieldLinkNest RX3 186 "ParityRow$Entry" "stripe" "I" "ParityRow" ∈ pc_nw := List.mem_of_getElem? (i := 16) rfl
theorem nw_X3_191 : Cond.fieldLinkNest RX3 191 "ParityRow$Entry" "parts" "I" "ParityRow" ∈ pc_nw := List.mem_of_getElem? (i := 17) rfl
theorem nw_X3_197 : Cond.methodLinkNest RX3 197 yX1_has "ParityRow" ∈ pc_nw := List.mem_of_getElem? (i := 18) rfl
theorem nw_X3_200 : Cond.fieldLinkNest RX3 200 "ParityRow$Entry" "way" "I" "ParityRow" ∈ pc_nw := List.mem_of_getElem? (i := 19) rfl
theorem nw_X3_209 : Cond.methodLinkNest RX3 209 yX2_latestWith "ParityRow" ∈ pc_nw := List.mem_of_getElem? (i := 20) rfl
theorem nw_X3_223 : Cond.fieldLinkNest RX3 223 "ParityRow$Entry" "words" "[I" "ParityRow" ∈ pc_nw := List.mem_of_getElem? (i := 21) rfl
theorem nw_X3_224 : Cond.methodLinkNest RX3 224 yX0_forgetBuilding "ParityRow" ∈ pc_nw := List.mem_of_getElem? (i := 22) rfl
theorem nw_X3_230 : Cond.methodLinkNest RX3 230 yX0_take "ParityRow" ∈ pc_nw := List.mem_of_getElem? (i := 23) rfl
theorem nw_X3_234 : Cond.methodLinkNest RX3 234 yX2_free "ParityRow" ∈ pc_nw := List.mem_of_getElem? (i := 24) rfl
theorem nw_X3_237 : Cond.methodLinkNest RX3 237 yX0_isOn "ParityRow" ∈ pc_nw := List.mem_of_getElem? (i := 25) rfl
theorem nw_X3_248 : Cond.methodLinkNest RX3 248 yX2_made "ParityRow" ∈ pc_nw := List.mem_of_getElem? (i := 26) rfl
theorem nw_X3_252 : Cond.methodLinkNest RX3 252 yX1_begin "ParityRow" ∈ pc_nw := List.mem_of_getElem? (i := 27) rfl
theorem nw_X3_255 : Cond.methodLinkNest RX3 255 yX1_addDatum "ParityRow" ∈ pc_nw := List.mem_of_getElem? (i := 28) rfl
theorem nw_X3_265 : Cond.methodLinkNest RX3 265 yX1_cells "ParityRow" ∈ pc_nw := List.mem_of_getElem? (i := 29) rfl
theorem nw_X3_268 : Cond.methodLinkNest RX3 268 yX2_recordsToFree "ParityRow" ∈ pc_nw := List.mem_of_getElem? (i := 30) rfl
theorem nw_X3_274 : Cond.methodLinkNest RX3 274 yX2_addMade "ParityRow" ∈ pc_nw := List.mem_of_getElem? (i := 31) rfl
theorem nw_X3_288 : Cond.methodLinkNest RX3 288 yX1_addWords "ParityRow" ∈ pc_nw := List.mem_of_getElem? (i := 32) rfl
theorem nw_X3_292 : Cond.methodLinkNest RX3 292 yX2_recordsUpTo "ParityRow" ∈ pc_nw := List.mem_of_getElem? (i := 33) rfl
theorem nw_X2_33 : Cond.methodLinkNest RX2 33 yX1_init "ParityRow" ∈ pc_nw := List.mem_of_getElem? (i := 34) rfl
theorem nw_X2_44 : Cond.methodLinkNest RX2 44 yX1_cells "ParityRow" ∈ pc_nw := List.mem_of_getElem? (i := 35) rfl
theorem nw_X2_48 : Cond.fieldLinkNest RX2 48 "ParityRow$Entry" "stripe" "I" "ParityRow" ∈ pc_nw := List.mem_of_getElem? (i := 36) rfl
theorem nw_X2_51 : Cond.methodLinkNest RX2 51 yX1_has "ParityRow" ∈ pc_nw := List.mem_of_getElem? (i := 37) rfl
theorem pc_nw_nf : ∀ w ∈ pc_nw, vv_nf w := by
  intro w hw
  simp only [pc_nw, List.mem_cons, List.not_mem_nil, or_false] at hw
  rcases hw with rfl | rfl | rfl | rfl | rfl | rfl | rfl | rfl | rfl | rfl | rfl | rfl | rfl | rfl | rfl | rfl | rfl | rfl | rfl | rfl | rfl | rfl | rfl | rfl | rfl | rfl | rfl | rfl | rfl | rfl | rfl | rfl | rfl | rfl | rfl | rfl | rfl | rfl <;> first | exact Or.inl ⟨_, _, _, _, _, _, rfl⟩ | exact Or.inr ⟨_, _, _, _, rfl⟩
end
section
/-! MORE ROWS: answers as equations, switches, loops, whole rows of the store -/
def vv_R (r : Value) (S : vv_S) : Option Value → vv_S → Prop := fun v σ1 => v = some r ∧ σ1 = S
def vv_Rv (S : vv_S) : Option Value → vv_S → Prop := fun v σ1 => v = none ∧ σ1 = S
/-- the store with one row changed -/
def vv_row (σ : vv_S) (k : Nat) (f : Nat → Int32) : vv_S := fun i => if i = k then f else σ i
theorem vv_row_s {σ : vv_S} {k : Nat} {f : Nat → Int32} : vv_row σ k f k = f := if_pos rfl
theorem vv_row_n {σ : vv_S} {k i : Nat} {f : Nat → Int32} (h : i ≠ k) : vv_row σ k f i = σ i := if_neg h
theorem vv_row_self {σ : vv_S} {k : Nat} : vv_row σ k (σ k) = σ := by
  funext i
  by_cases h : i = k
  · rw [h, vv_row_s]
  · rw [vv_row_n h]
theorem vv_row_of {σ : vv_S} {k : Nat} {f : Nat → Int32} (h : f = σ k) : vv_row σ k f = σ := by rw [h, vv_row_self]
theorem vv_row_row {σ : vv_S} {k : Nat} {f g : Nat → Int32} : vv_row (vv_row σ k f) k g = vv_row σ k g := by
  funext i
  by_cases h : i = k
  · rw [h, vv_row_s, vv_row_s]
  · rw [vv_row_n h, vv_row_n h, vv_row_n h]
theorem vv_up_row {σ : vv_S} {k j : Nat} {f : Nat → Int32} {v : Int32} : vv_up (vv_row σ k f) k j v = vv_row σ k (upd f j v) := by
  funext i
  by_cases h : i = k
  · rw [h, vv_up_s, vv_row_s, vv_row_s]
  · rw [vv_up_n h, vv_row_n h, vv_row_n h]
theorem vv_up_is {σ : vv_S} {k j : Nat} {v : Int32} : vv_up σ k j v = vv_row σ k (upd (σ k) j v) := rfl
theorem vv_upd_s {f : Nat → Int32} {j : Nat} {v : Int32} : upd f j v j = v := pk_us
theorem vv_upd_n {f : Nat → Int32} {j i : Nat} {v : Int32} (h : i ≠ j) : upd f j v i = f i := pk_un h
/-- a loop: by what falls -/
theorem vv_ind {α : Type} (μ : α → Nat) {P : α → Prop} (h : ∀ a, (∀ b, μ b < μ a → P b) → P a) (a : α) : P a := by
  have : ∀ n a, μ a < n → P a := by
    intro n
    induction n with
    | zero => intro a ha; exact absurd ha (Nat.not_lt_zero _)
    | succ n ih => intro a ha; exact h a (fun b hb => ih b (by omega))
  exact this (μ a + 1) a (Nat.lt_succ_self _)
section VMORE
variable {Y : vv_Y} {nL : Nat} {Z : vv_Z} {cc : ByteArray} {ret : Option FieldType} {Ts : List Cond} {own : String} {rm : Room} {σ : vv_S} {pc q : Nat} {L L' : List (Nat × Value)} {st : List Value}
theorem vv_kR {r : Value} {S : vv_S} (h : vv_V Y nL Z S q L (r :: st)) : ∀ (v : Option Value) (σ1 : vv_S), vv_R r S v σ1 → vv_V Y nL Z σ1 q L (v.toList ++ st) := by
  rintro v σ1 ⟨rfl, rfl⟩
  exact h
theorem vv_kRv {S : vv_S} (h : vv_V Y nL Z S q L st) : ∀ (v : Option Value) (σ1 : vv_S), vv_Rv S v σ1 → vv_V Y nL Z σ1 q L (v.toList ++ st) := by
  rintro v σ1 ⟨rfl, rfl⟩
  exact h
theorem vv_M.eq {l : Launch} {y : MethodName} {ws : List Cond} {av : List Value} {r r' : Value} {S S' : vv_S} (h : vv_M l Y y ws rm av σ (vv_R r S)) (hr : r = r') (hS : S = S') : vv_M l Y y ws rm av σ (vv_R r' S') := by rw [← hr, ← hS]; exact h
theorem vv_M.imp {l : Launch} {y : MethodName} {ws : List Cond} {av : List Value} {po po' : Option Value → vv_S → Prop} (h : vv_M l Y y ws rm av σ po) (hp : ∀ v σ1, po v σ1 → po' v σ1) : vv_M l Y y ws rm av σ po' := by
  intro sz p e ha hc hk s m args below hf happ hpre htr
  obtain ⟨k, o, h1, h2, h3, h4, h5⟩ := h sz p e ha hc hk s m args below hf happ hpre htr
  obtain ⟨⟨v, σ1, g1, g2, g3⟩, g4⟩ := h4
  exact ⟨k, o, h1, h2, h3, ⟨⟨v, σ1, g1, hp v σ1 g2, g3⟩, g4⟩, h5⟩
theorem vv_tabIn (hC : vv_C Y nL Z cc ret Ts own rm) {dflt lo hi : Int} {offs : Array Int} {len : Nat} {x : Int32} {off : Int} {tgt : Nat} (hd : decode cc pc = .ok (.tableswitch dflt lo hi offs, len)) (h1 : ¬ x.toInt < lo) (h2 : ¬ hi < x.toInt) (ho : offs[(x.toInt - lo).toNat]? = some off) (ht : (pc : Int) + off = (tgt : Int)) (h : vv_V Y nL Z σ tgt L st) : vv_V Y nL Z σ pc L (.int x :: st) := by
  obtain ⟨p, l, e, R, s, m, args, below, meth, c, post⟩ := Z
  obtain ⟨ok, hx, hb, hml, hr, hown, hlk, hts, hK, hR⟩ := hC
  intro H locs ls hP hS hl
  exact lv_tableIn hx hb hd h1 h2 ho ht (h H locs ls hP hS hl)
theorem vv_tabOut (hC : vv_C Y nL Z cc ret Ts own rm) {dflt lo hi : Int} {offs : Array Int} {len : Nat} {x : Int32} {tgt : Nat} (hd : decode cc pc = .ok (.tableswitch dflt lo hi offs, len)) (ho : x.toInt < lo ∨ hi < x.toInt) (ht : (pc : Int) + dflt = (tgt : Int)) (h : vv_V Y nL Z σ tgt L st) : vv_V Y nL Z σ pc L (.int x :: st) := by
  obtain ⟨p, l, e, R, s, m, args, below, meth, c, post⟩ := Z
  obtain ⟨ok, hx, hb, hml, hr, hown, hlk, hts, hK, hR⟩ := hC
  intro H locs ls hP hS hl
  exact lv_tableOut hx hb hd ho ht (h H locs ls hP hS hl)
theorem vv_ldc (hC : vv_C Y nL Z cc ret Ts own rm) {index : Nat} {v : Int32} (hc : Jvm.Cond.constant own index v ∈ Ts) (hd : decode cc pc = .ok (.ldc_w index, 3)) (hq : pc + 3 = q) (h : vv_V Y nL Z σ q L (.int v :: st)) : vv_V Y nL Z σ pc L st := by
  obtain ⟨p, l, e, R, s, m, args, below, meth, c, post⟩ := Z
  obtain ⟨ok, hx, hb, hml, hr, hown, hlk, hts, hK, hR⟩ := hC
  subst hq
  intro H locs ls hP hS hl
  exact lv_ldcw hx hb hown (hts _ hc) hd (h H locs ls hP hS hl)
theorem vv_ldc2 (hC : vv_C Y nL Z cc ret Ts own rm) {index : Nat} {v : Int64} (hc : Jvm.Cond.constantLong own index v ∈ Ts) (hd : decode cc pc = .ok (.ldc2_w index, 3)) (hq : pc + 3 = q) (h : vv_V Y nL Z σ q L (.long v :: st)) : vv_V Y nL Z σ pc L st := by
  obtain ⟨p, l, e, R, s, m, args, below, meth, c, post⟩ := Z
  obtain ⟨ok, hx, hb, hml, hr, hown, hlk, hts, hK, hR⟩ := hC
  subst hq
  intro H locs ls hP hS hl
  exact lv_ldc2 hx hb hown (hts _ hc) hd (h H locs ls hP hS hl)
theorem vv_max (hC : vv_C Y nL Z cc ret Ts own rm) {index : Nat} {x y : Int32} (h1 : Cond.methodLink own index Lib.Math.max.name ∈ Ts) (h2 : Cond.static Lib.Math.max.name ∈ Ts) (h3 : Cond.initialized "java/lang/Math" ∈ Ts) (h4 : Cond.code Lib.Math.max.name Lib.Math.max.code 2 (some .int) ∈ Ts) (hf : Nat.ble 1 rm.frames = true) (hlo : Nat.ble ((st.map fun v => v.category).sum + 13) rm.locals = true) (hd : decode cc pc = .ok (.invokestatic index, 3)) (hq : pc + 3 = q) (h : vv_V Y nL Z σ q L (.int (if x < y then y else x) :: st)) : vv_V Y nL Z σ pc L (.int y :: .int x :: st) := by
  obtain ⟨p, l, e, R, s, m, args, below, meth, c, post⟩ := Z
  obtain ⟨ok, hx, hb, hml, hr, hown, hlk, hts, hK, hR⟩ := hC
  subst hq
  subst hR
  intro H locs ls hP hS hl
  exact va_mmax hx hb (hml.trans hl.1.symm) hown (hts _ h1) (hts _ h2) (hts _ h3) (hts _ h4) (Nat.le_of_ble_eq_true hf) (Nat.le_of_ble_eq_true hlo) (Nat.zero_le _) (Nat.zero_le _) hd (h H locs ls hP hS hl)
theorem vv_min (hC : vv_C Y nL Z cc ret Ts own rm) {index : Nat} {x y : Int32} (h1 : Cond.methodLink own index Lib.Math.min.name ∈ Ts) (h2 : Cond.static Lib.Math.min.name ∈ Ts) (h3 : Cond.initialized "java/lang/Math" ∈ Ts) (h4 : Cond.code Lib.Math.min.name Lib.Math.min.code 2 (some .int) ∈ Ts) (hf : Nat.ble 1 rm.frames = true) (hlo : Nat.ble ((st.map fun v => v.category).sum + 13) rm.locals = true) (hd : decode cc pc = .ok (.invokestatic index, 3)) (hq : pc + 3 = q) (h : vv_V Y nL Z σ q L (.int (if y < x then y else x) :: st)) : vv_V Y nL Z σ pc L (.int y :: .int x :: st) := by
  obtain ⟨p, l, e, R, s, m, args, below, meth, c, post⟩ := Z
  obtain ⟨ok, hx, hb, hml, hr, hown, hlk, hts, hK, hR⟩ := hC
  subst hq
  subst hR
  intro H locs ls hP hS hl
  exact va_mmin hx hb (hml.trans hl.1.symm) hown (hts _ h1) (hts _ h2) (hts _ h3) (hts _ h4) (Nat.le_of_ble_eq_true hf) (Nat.le_of_ble_eq_true hlo) (Nat.zero_le _) (Nat.zero_le _) hd (h H locs ls hP hS hl)
end VMORE
/-! THE CLASS AS A SYSTEM: cells 0 the object, 1 its row of disks, 2 the journal, 3 its row of entries, 4 tally, 5 mixed, 6 + 2 e an entry and behind it its words, 28 + 4 m a disk and behind it words, sums, torn -/
def pc_e (e : Nat) : Nat := 6 + 2 * e
def pc_d (m : Nat) : Nat := 28 + 4 * m
def pc_fD (ad : Nat → Nat) (k : Nat) (f : Nat → Int32) : List Value := [.ref (ad (k + 1)), .ref (ad (k + 2)), .ref (ad (k + 3)), .int (f 3), .int (f 4), .int (f 5)]
def pc_fE (ad : Nat → Nat) (k : Nat) (f : Nat → Int32) : List Value := [.ref (ad (k + 1)), .int (f 1), .int (f 2), .int (f 3)]
def pc_fJ (ad : Nat → Nat) (f : Nat → Int32) : List Value := [.ref (ad 3), .int (f 1), .int (f 2), .int (f 3), .int (f 4), .int (f 5)]
def pc_fP (n : Nat) (ad : Nat → Nat) (f : Nat → Int32) : List Value := [.int (nI n), .int (nI (n - 1)), .ref (ad 1), .ref (ad 2), .ref (ad 4), .ref (ad 5), .int (f 6), .int (f 7), .int (f 8), .int (f 9)]
def pc_ct (n : Nat) (ad : Nat → Nat) (K : Nat → ClassId) (k : Nat) (f : Nat → Int32) : va_E :=
  if k = 0 then .inr (3, pc_fP n ad f) else if k = 1 then .inl (K 2, n, .inr (.inr (.inr (.inr (fun m => some (ad (pc_d m))))))) else
  if k = 2 then .inr (2, pc_fJ ad f) else if k = 3 then .inl (K 3, 11, .inr (.inr (.inr (.inr (fun e => some (ad (pc_e e))))))) else
  if k = 4 then .inl (K 0, 13, .inl f) else if k = 5 then .inl (K 0, 8, .inl f) else
  if k < 28 then (if k % 2 = 0 then .inr (1, pc_fE ad k f) else .inl (K 0, 8 * n, .inl f)) else
  if k % 4 = 0 then .inr (0, pc_fD ad k f) else if k % 4 = 1 then .inl (K 0, 192, .inl f) else if k % 4 = 2 then .inl (K 0, 24, .inl f) else .inl (K 1, 24, .inl f)
def pc_sys (Y : vv_Y) (n : Nat) : Prop := vv_ok Y ∧ (3 ≤ n ∧ n ≤ 6) ∧ Y.1 = 28 + 4 * n ∧ (∃ K : Nat → ClassId, Y.2.2.1 = pc_ct n Y.2.1 K ∧ Y.2.2.2.2.2.1 = [(K 0, .int), (K 1, .boolean), (K 2, .object RX0), (K 3, .object RX1)]) ∧ Y.2.2.2.2.1 = vwCl ∧ Y.2.2.2.2.2.2 = pc_nw
section PCSYS
variable {Y : vv_Y} {n : Nat}
theorem pc_sys.ok (h : pc_sys Y n) : vv_ok Y := h.1
theorem pc_sys.lo (h : pc_sys Y n) : 3 ≤ n := h.2.1.1
theorem pc_sys.hi (h : pc_sys Y n) : n ≤ 6 := h.2.1.2
theorem pc_sys.cl (h : pc_sys Y n) : Y.2.2.2.2.1 = vwCl := h.2.2.2.2.1
theorem pc_sys.nw (h : pc_sys Y n) {w : Cond} (hw : w ∈ pc_nw) : w ∈ Y.2.2.2.2.2.2 := by rw [h.2.2.2.2.2]; exact hw
theorem pc_sys.k (h : pc_sys Y n) {k : Nat} (hk : k < 28) : k < Y.1 := by rw [h.2.2.1]; omega
theorem pc_sys.kd (h : pc_sys Y n) {m j : Nat} (hm : m < n) (hj : j < 4) : pc_d m + j < Y.1 := by rw [h.2.2.1]; unfold pc_d; omega
theorem pc_sys.ke (h : pc_sys Y n) {e j : Nat} (he : e < 11) (hj : j < 2) : pc_e e + j < Y.1 := by rw [h.2.2.1]; unfold pc_e; omega
theorem pc_sys.P (h : pc_sys Y n) (f : Nat → Int32) : Y.2.2.1 0 f = .inr (3, pc_fP n Y.2.1 f) := by obtain ⟨-, -, -, ⟨K, e, -⟩, -⟩ := h; rw [e]; rfl
theorem pc_sys.J (h : pc_sys Y n) (f : Nat → Int32) : Y.2.2.1 2 f = .inr (2, pc_fJ Y.2.1 f) := by obtain ⟨-, -, -, ⟨K, e, -⟩, -⟩ := h; rw [e]; rfl
theorem pc_sys.E (h : pc_sys Y n) {e : Nat} (he : e < 11) (f : Nat → Int32) : Y.2.2.1 (pc_e e) f = .inr (1, pc_fE Y.2.1 (pc_e e) f) := by
  obtain ⟨-, -, -, ⟨K, q, -⟩, -⟩ := h
  rw [q]
  have : pc_e e = 6 + 2 * e := rfl
  unfold pc_ct
  rw [if_neg (by omega), if_neg (by omega), if_neg (by omega), if_neg (by omega), if_neg (by omega), if_neg (by omega), if_pos (by omega), if_pos (by omega)]
theorem pc_sys.D (h : pc_sys Y n) {m : Nat} (f : Nat → Int32) : Y.2.2.1 (pc_d m) f = .inr (0, pc_fD Y.2.1 (pc_d m) f) := by
  obtain ⟨-, -, -, ⟨K, q, -⟩, -⟩ := h
  rw [q]
  have : pc_d m = 28 + 4 * m := rfl
  unfold pc_ct
  rw [if_neg (by omega), if_neg (by omega), if_neg (by omega), if_neg (by omega), if_neg (by omega), if_neg (by omega), if_neg (by omega), if_pos (by omega)]
theorem pc_sys.disks (h : pc_sys Y n) : ∃ K : ClassId, (∀ f, Y.2.2.1 1 f = .inl (K, n, .inr (.inr (.inr (.inr (fun m => some (Y.2.1 (pc_d m)))))))) ∧ Y.2.2.2.2.2.1[2]? = some (K, .object RX0) := by
  obtain ⟨-, -, -, ⟨K, e, t⟩, -⟩ := h
  exact ⟨K 2, fun f => by rw [e]; rfl, by rw [t]; rfl⟩
theorem pc_sys.slots (h : pc_sys Y n) : ∃ K : ClassId, (∀ f, Y.2.2.1 3 f = .inl (K, 11, .inr (.inr (.inr (.inr (fun m => some (Y.2.1 (pc_e m)))))))) ∧ Y.2.2.2.2.2.1[3]? = some (K, .object RX1) := by
  obtain ⟨-, -, -, ⟨K, e, t⟩, -⟩ := h
  exact ⟨K 3, fun f => by rw [e]; rfl, by rw [t]; rfl⟩
/-- which cells are rows of ints, and how long -/
def pc_len (n k : Nat) : Nat := if k = 4 then 13 else if k = 5 then 8 else if k < 28 then 8 * n else if k % 4 = 1 then 192 else 24
theorem pc_sys.row (h : pc_sys Y n) {k : Nat} (hk : k = 4 ∨ k = 5 ∨ (6 ≤ k ∧ k < 28 ∧ k % 2 = 1) ∨ (28 ≤ k ∧ (k % 4 = 1 ∨ k % 4 = 2))) : ∃ K : ClassId, (∀ f, Y.2.2.1 k f = .inl (K, pc_len n k, .inl f)) ∧ Y.2.2.2.2.2.1[0]? = some (K, .int) := by
  obtain ⟨-, -, -, ⟨K, e, t⟩, -⟩ := h
  refine ⟨K 0, fun f => ?_, by rw [t]; rfl⟩
  rw [e]
  rcases hk with rfl | rfl | ⟨h1, h2, h3⟩ | ⟨h1, h2⟩
  · rfl
  · rfl
  · unfold pc_ct pc_len
    rw [if_neg (by omega), if_neg (by omega), if_neg (by omega), if_neg (by omega), if_neg (by omega), if_neg (by omega), if_pos h2, if_neg (by omega), if_neg (by omega), if_neg (by omega), if_pos h2]
  · rcases h2 with h2 | h2
    · have a : pc_ct n Y.2.1 K k f = .inl (K 0, 192, .inl f) := by unfold pc_ct; rw [if_neg (by omega), if_neg (by omega), if_neg (by omega), if_neg (by omega), if_neg (by omega), if_neg (by omega), if_neg (by omega), if_neg (by omega), if_pos h2]
      have b : pc_len n k = 192 := by unfold pc_len; rw [if_neg (by omega), if_neg (by omega), if_neg (by omega), if_pos h2]
      rw [a, b]
    · have a : pc_ct n Y.2.1 K k f = .inl (K 0, 24, .inl f) := by unfold pc_ct; rw [if_neg (by omega), if_neg (by omega), if_neg (by omega), if_neg (by omega), if_neg (by omega), if_neg (by omega), if_neg (by omega), if_neg (by omega), if_neg (by omega), if_pos h2]
      have b : pc_len n k = 24 := by unfold pc_len; rw [if_neg (by omega), if_neg (by omega), if_neg (by omega), if_neg (by omega)]
      rw [a, b]
theorem pc_sys.zrow (h : pc_sys Y n) {m : Nat} : ∃ K : ClassId, (∀ f, Y.2.2.1 (pc_d m + 3) f = .inl (K, 24, .inl f)) ∧ Y.2.2.2.2.2.1[1]? = some (K, .boolean) := by
  obtain ⟨-, -, -, ⟨K, e, t⟩, -⟩ := h
  refine ⟨K 1, fun f => ?_, by rw [t]; rfl⟩
  rw [e]
  have : pc_d m = 28 + 4 * m := rfl
  unfold pc_ct
  rw [if_neg (by omega), if_neg (by omega), if_neg (by omega), if_neg (by omega), if_neg (by omega), if_neg (by omega), if_neg (by omega), if_neg (by omega), if_neg (by omega), if_neg (by omega)]
end PCSYS
end
section
/-! ROWS OVER THE CLASS'S CELLS (by program: wip/tools/mkrowsC.py) -/
section PCROWS
variable {Y : vv_Y} {n : Nat} {nL : Nat} {Z : vv_Z} {cc : ByteArray} {ret : Option FieldType} {Ts : List Cond} {own : String} {rm : Room} {σ : vv_S} {pc q : Nat} {L L' : List (Nat × Value)} {st : List Value}
theorem pc_gP (hY : pc_sys Y n) (hC : vv_C Y nL Z cc ret Ts own rm) (j : Nat) (hin : ∀ w ∈ u_ws RX3 TX3 10, w ∈ Ts) {index : Nat} (hlink : Cond.fieldLink own index "ParityRow" (TX3 j).2.1 (TX3 j).2.2.1 ∈ Ts) (hj : j < 10) (hsame : (TX3 j).1 = "ParityRow") {v : Value} (hv : (pc_fP n Y.2.1 (σ 0))[j]? = some v) (hd : decode cc pc = .ok (.getfield index, 3)) (hq : pc + 3 = q) (h : vv_V Y nL Z σ q L (v :: st)) : vv_V Y nL Z σ pc L (.ref (Y.2.1 0) :: st) :=
  vv_get hC hin (hY.k (by decide)) (hY.P _) (by rw [hY.cl]; rfl) hj hlink hsame hv hd hq h
theorem pc_pP (hY : pc_sys Y n) (hC : vv_C Y nL Z cc ret Ts own rm) (j : Nat) (hin : ∀ w ∈ u_ws RX3 TX3 10, w ∈ Ts) {index : Nat} (hlink : Cond.fieldLink own index "ParityRow" (TX3 j).2.1 (TX3 j).2.2.1 ∈ Ts) (hj : j < 10) (hsame : (TX3 j).1 = "ParityRow") (hfin : (TX3 j).2.2.2 = false) {x : Int32} {ty : FieldType} (hty : parseFieldDescriptor (TX3 j).2.2.1 = some ty) (hn : narrow ty (.int x) = .int x) (hfit : fits ty (.int x) = true) (hset : ∀ f : Nat → Int32, pc_fP n Y.2.1 (upd f j x) = (pc_fP n Y.2.1 f).set j (.int x)) (hd : decode cc pc = .ok (.putfield index, 3)) (hq : pc + 3 = q) (h : vv_V Y nL Z (vv_up σ 0 j x) q L st) : vv_V Y nL Z σ pc L (.int x :: .ref (Y.2.1 0) :: st) :=
  vv_put hC tyX3 tyX3_ok nmX3 hin (hY.k (by decide)) (hY.P _) (by rw [hY.cl]; rfl) hj hlink hsame hfin hty hn hfit hj (by rw [hY.P, hset]) hd hq h
theorem pc_gJ (hY : pc_sys Y n) (hC : vv_C Y nL Z cc ret Ts own rm) (j : Nat) (hin : ∀ w ∈ u_ws RX2 TX2 6, w ∈ Ts) {index : Nat} (hlink : Cond.fieldLink own index "ParityRow$Journal" (TX2 j).2.1 (TX2 j).2.2.1 ∈ Ts) (hj : j < 6) (hsame : (TX2 j).1 = "ParityRow$Journal") {v : Value} (hv : (pc_fJ Y.2.1 (σ 2))[j]? = some v) (hd : decode cc pc = .ok (.getfield index, 3)) (hq : pc + 3 = q) (h : vv_V Y nL Z σ q L (v :: st)) : vv_V Y nL Z σ pc L (.ref (Y.2.1 2) :: st) :=
  vv_get hC hin (hY.k (by decide)) (hY.J _) (by rw [hY.cl]; rfl) hj hlink hsame hv hd hq h
theorem pc_pJ (hY : pc_sys Y n) (hC : vv_C Y nL Z cc ret Ts own rm) (j : Nat) (hin : ∀ w ∈ u_ws RX2 TX2 6, w ∈ Ts) {index : Nat} (hlink : Cond.fieldLink own index "ParityRow$Journal" (TX2 j).2.1 (TX2 j).2.2.1 ∈ Ts) (hj : j < 6) (hsame : (TX2 j).1 = "ParityRow$Journal") (hfin : (TX2 j).2.2.2 = false) {x : Int32} {ty : FieldType} (hty : parseFieldDescriptor (TX2 j).2.2.1 = some ty) (hn : narrow ty (.int x) = .int x) (hfit : fits ty (.int x) = true) (hset : ∀ f : Nat → Int32, pc_fJ Y.2.1 (upd f j x) = (pc_fJ Y.2.1 f).set j (.int x)) (hd : decode cc pc = .ok (.putfield index, 3)) (hq : pc + 3 = q) (h : vv_V Y nL Z (vv_up σ 2 j x) q L st) : vv_V Y nL Z σ pc L (.int x :: .ref (Y.2.1 2) :: st) :=
  vv_put hC tyX2 tyX2_ok nmX2 hin (hY.k (by decide)) (hY.J _) (by rw [hY.cl]; rfl) hj hlink hsame hfin hty hn hfit hj (by rw [hY.J, hset]) hd hq h
theorem pc_gJN (hY : pc_sys Y n) (hC : vv_C Y nL Z cc ret Ts own rm) (j : Nat) (hin : ∀ w ∈ u_ws RX2 TX2 6, w ∈ Ts) {index : Nat} (hlink : Cond.fieldLinkNest own index "ParityRow$Journal" (TX2 j).2.1 (TX2 j).2.2.1 "ParityRow" ∈ pc_nw) (hj : j < 6) (hsame : (TX2 j).1 = "ParityRow$Journal") {v : Value} (hv : (pc_fJ Y.2.1 (σ 2))[j]? = some v) (hd : decode cc pc = .ok (.getfield index, 3)) (hq : pc + 3 = q) (h : vv_V Y nL Z σ q L (v :: st)) : vv_V Y nL Z σ pc L (.ref (Y.2.1 2) :: st) :=
  vv_getN hC hin (hY.k (by decide)) (hY.J _) (by rw [hY.cl]; rfl) hj (hY.nw hlink) hsame hv hd hq h
theorem pc_pJN (hY : pc_sys Y n) (hC : vv_C Y nL Z cc ret Ts own rm) (j : Nat) (hin : ∀ w ∈ u_ws RX2 TX2 6, w ∈ Ts) {index : Nat} (hlink : Cond.fieldLinkNest own index "ParityRow$Journal" (TX2 j).2.1 (TX2 j).2.2.1 "ParityRow" ∈ pc_nw) (hj : j < 6) (hsame : (TX2 j).1 = "ParityRow$Journal") (hfin : (TX2 j).2.2.2 = false) {x : Int32} {ty : FieldType} (hty : parseFieldDescriptor (TX2 j).2.2.1 = some ty) (hn : narrow ty (.int x) = .int x) (hfit : fits ty (.int x) = true) (hset : ∀ f : Nat → Int32, pc_fJ Y.2.1 (upd f j x) = (pc_fJ Y.2.1 f).set j (.int x)) (hd : decode cc pc = .ok (.putfield index, 3)) (hq : pc + 3 = q) (h : vv_V Y nL Z (vv_up σ 2 j x) q L st) : vv_V Y nL Z σ pc L (.int x :: .ref (Y.2.1 2) :: st) :=
  vv_putN hC tyX2 tyX2_ok nmX2 hin (hY.k (by decide)) (hY.J _) (by rw [hY.cl]; rfl) hj (hY.nw hlink) hsame hfin hty hn hfit hj (by rw [hY.J, hset]) hd hq h
theorem pc_gE (hY : pc_sys Y n) (hC : vv_C Y nL Z cc ret Ts own rm) {e : Nat} (he : e < 11) (j : Nat) (hin : ∀ w ∈ u_ws RX1 TX1 4, w ∈ Ts) {index : Nat} (hlink : Cond.fieldLink own index "ParityRow$Entry" (TX1 j).2.1 (TX1 j).2.2.1 ∈ Ts) (hj : j < 4) (hsame : (TX1 j).1 = "ParityRow$Entry") {v : Value} (hv : (pc_fE Y.2.1 (pc_e e) (σ (pc_e e)))[j]? = some v) (hd : decode cc pc = .ok (.getfield index, 3)) (hq : pc + 3 = q) (h : vv_V Y nL Z σ q L (v :: st)) : vv_V Y nL Z σ pc L (.ref (Y.2.1 (pc_e e)) :: st) :=
  vv_get hC hin (hY.ke (j := 0) he (by decide)) (hY.E he _) (by rw [hY.cl]; rfl) hj hlink hsame hv hd hq h
theorem pc_pE (hY : pc_sys Y n) (hC : vv_C Y nL Z cc ret Ts own rm) {e : Nat} (he : e < 11) (j : Nat) (hin : ∀ w ∈ u_ws RX1 TX1 4, w ∈ Ts) {index : Nat} (hlink : Cond.fieldLink own index "ParityRow$Entry" (TX1 j).2.1 (TX1 j).2.2.1 ∈ Ts) (hj : j < 4) (hsame : (TX1 j).1 = "ParityRow$Entry") (hfin : (TX1 j).2.2.2 = false) {x : Int32} {ty : FieldType} (hty : parseFieldDescriptor (TX1 j).2.2.1 = some ty) (hn : narrow ty (.int x) = .int x) (hfit : fits ty (.int x) = true) (hset : ∀ f : Nat → Int32, pc_fE Y.2.1 (pc_e e) (upd f j x) = (pc_fE Y.2.1 (pc_e e) f).set j (.int x)) (hd : decode cc pc = .ok (.putfield index, 3)) (hq : pc + 3 = q) (h : vv_V Y nL Z (vv_up σ (pc_e e) j x) q L st) : vv_V Y nL Z σ pc L (.int x :: .ref (Y.2.1 (pc_e e)) :: st) :=
  vv_put hC tyX1 tyX1_ok nmX1 hin (hY.ke (j := 0) he (by decide)) (hY.E he _) (by rw [hY.cl]; rfl) hj hlink hsame hfin hty hn hfit hj (by rw [(hY.E he), hset]) hd hq h
theorem pc_gEN (hY : pc_sys Y n) (hC : vv_C Y nL Z cc ret Ts own rm) {e : Nat} (he : e < 11) (j : Nat) (hin : ∀ w ∈ u_ws RX1 TX1 4, w ∈ Ts) {index : Nat} (hlink : Cond.fieldLinkNest own index "ParityRow$Entry" (TX1 j).2.1 (TX1 j).2.2.1 "ParityRow" ∈ pc_nw) (hj : j < 4) (hsame : (TX1 j).1 = "ParityRow$Entry") {v : Value} (hv : (pc_fE Y.2.1 (pc_e e) (σ (pc_e e)))[j]? = some v) (hd : decode cc pc = .ok (.getfield index, 3)) (hq : pc + 3 = q) (h : vv_V Y nL Z σ q L (v :: st)) : vv_V Y nL Z σ pc L (.ref (Y.2.1 (pc_e e)) :: st) :=
  vv_getN hC hin (hY.ke (j := 0) he (by decide)) (hY.E he _) (by rw [hY.cl]; rfl) hj (hY.nw hlink) hsame hv hd hq h
theorem pc_pEN (hY : pc_sys Y n) (hC : vv_C Y nL Z cc ret Ts own rm) {e : Nat} (he : e < 11) (j : Nat) (hin : ∀ w ∈ u_ws RX1 TX1 4, w ∈ Ts) {index : Nat} (hlink : Cond.fieldLinkNest own index "ParityRow$Entry" (TX1 j).2.1 (TX1 j).2.2.1 "ParityRow" ∈ pc_nw) (hj : j < 4) (hsame : (TX1 j).1 = "ParityRow$Entry") (hfin : (TX1 j).2.2.2 = false) {x : Int32} {ty : FieldType} (hty : parseFieldDescriptor (TX1 j).2.2.1 = some ty) (hn : narrow ty (.int x) = .int x) (hfit : fits ty (.int x) = true) (hset : ∀ f : Nat → Int32, pc_fE Y.2.1 (pc_e e) (upd f j x) = (pc_fE Y.2.1 (pc_e e) f).set j (.int x)) (hd : decode cc pc = .ok (.putfield index, 3)) (hq : pc + 3 = q) (h : vv_V Y nL Z (vv_up σ (pc_e e) j x) q L st) : vv_V Y nL Z σ pc L (.int x :: .ref (Y.2.1 (pc_e e)) :: st) :=
  vv_putN hC tyX1 tyX1_ok nmX1 hin (hY.ke (j := 0) he (by decide)) (hY.E he _) (by rw [hY.cl]; rfl) hj (hY.nw hlink) hsame hfin hty hn hfit hj (by rw [(hY.E he), hset]) hd hq h
theorem pc_gD (hY : pc_sys Y n) (hC : vv_C Y nL Z cc ret Ts own rm) {m : Nat} (hm : m < n) (j : Nat) (hin : ∀ w ∈ u_ws RX0 TX0 6, w ∈ Ts) {index : Nat} (hlink : Cond.fieldLink own index "ParityRow$Disk" (TX0 j).2.1 (TX0 j).2.2.1 ∈ Ts) (hj : j < 6) (hsame : (TX0 j).1 = "ParityRow$Disk") {v : Value} (hv : (pc_fD Y.2.1 (pc_d m) (σ (pc_d m)))[j]? = some v) (hd : decode cc pc = .ok (.getfield index, 3)) (hq : pc + 3 = q) (h : vv_V Y nL Z σ q L (v :: st)) : vv_V Y nL Z σ pc L (.ref (Y.2.1 (pc_d m)) :: st) :=
  vv_get hC hin (hY.kd (j := 0) hm (by decide)) (hY.D _) (by rw [hY.cl]; rfl) hj hlink hsame hv hd hq h
theorem pc_pD (hY : pc_sys Y n) (hC : vv_C Y nL Z cc ret Ts own rm) {m : Nat} (hm : m < n) (j : Nat) (hin : ∀ w ∈ u_ws RX0 TX0 6, w ∈ Ts) {index : Nat} (hlink : Cond.fieldLink own index "ParityRow$Disk" (TX0 j).2.1 (TX0 j).2.2.1 ∈ Ts) (hj : j < 6) (hsame : (TX0 j).1 = "ParityRow$Disk") (hfin : (TX0 j).2.2.2 = false) {x : Int32} {ty : FieldType} (hty : parseFieldDescriptor (TX0 j).2.2.1 = some ty) (hn : narrow ty (.int x) = .int x) (hfit : fits ty (.int x) = true) (hset : ∀ f : Nat → Int32, pc_fD Y.2.1 (pc_d m) (upd f j x) = (pc_fD Y.2.1 (pc_d m) f).set j (.int x)) (hd : decode cc pc = .ok (.putfield index, 3)) (hq : pc + 3 = q) (h : vv_V Y nL Z (vv_up σ (pc_d m) j x) q L st) : vv_V Y nL Z σ pc L (.int x :: .ref (Y.2.1 (pc_d m)) :: st) :=
  vv_put hC tyX0 tyX0_ok nmX0 hin (hY.kd (j := 0) hm (by decide)) (hY.D _) (by rw [hY.cl]; rfl) hj hlink hsame hfin hty hn hfit hj (by rw [hY.D, hset]) hd hq h
theorem pc_gDN (hY : pc_sys Y n) (hC : vv_C Y nL Z cc ret Ts own rm) {m : Nat} (hm : m < n) (j : Nat) (hin : ∀ w ∈ u_ws RX0 TX0 6, w ∈ Ts) {index : Nat} (hlink : Cond.fieldLinkNest own index "ParityRow$Disk" (TX0 j).2.1 (TX0 j).2.2.1 "ParityRow" ∈ pc_nw) (hj : j < 6) (hsame : (TX0 j).1 = "ParityRow$Disk") {v : Value} (hv : (pc_fD Y.2.1 (pc_d m) (σ (pc_d m)))[j]? = some v) (hd : decode cc pc = .ok (.getfield index, 3)) (hq : pc + 3 = q) (h : vv_V Y nL Z σ q L (v :: st)) : vv_V Y nL Z σ pc L (.ref (Y.2.1 (pc_d m)) :: st) :=
  vv_getN hC hin (hY.kd (j := 0) hm (by decide)) (hY.D _) (by rw [hY.cl]; rfl) hj (hY.nw hlink) hsame hv hd hq h
theorem pc_pDN (hY : pc_sys Y n) (hC : vv_C Y nL Z cc ret Ts own rm) {m : Nat} (hm : m < n) (j : Nat) (hin : ∀ w ∈ u_ws RX0 TX0 6, w ∈ Ts) {index : Nat} (hlink : Cond.fieldLinkNest own index "ParityRow$Disk" (TX0 j).2.1 (TX0 j).2.2.1 "ParityRow" ∈ pc_nw) (hj : j < 6) (hsame : (TX0 j).1 = "ParityRow$Disk") (hfin : (TX0 j).2.2.2 = false) {x : Int32} {ty : FieldType} (hty : parseFieldDescriptor (TX0 j).2.2.1 = some ty) (hn : narrow ty (.int x) = .int x) (hfit : fits ty (.int x) = true) (hset : ∀ f : Nat → Int32, pc_fD Y.2.1 (pc_d m) (upd f j x) = (pc_fD Y.2.1 (pc_d m) f).set j (.int x)) (hd : decode cc pc = .ok (.putfield index, 3)) (hq : pc + 3 = q) (h : vv_V Y nL Z (vv_up σ (pc_d m) j x) q L st) : vv_V Y nL Z σ pc L (.int x :: .ref (Y.2.1 (pc_d m)) :: st) :=
  vv_putN hC tyX0 tyX0_ok nmX0 hin (hY.kd (j := 0) hm (by decide)) (hY.D _) (by rw [hY.cl]; rfl) hj (hY.nw hlink) hsame hfin hty hn hfit hj (by rw [hY.D, hset]) hd hq h
theorem pc_ld_tally (hY : pc_sys Y n) (hC : vv_C Y nL Z cc ret Ts own rm) {i : Nat} (hi : i < 13) (hd : decode cc pc = .ok (.iaload, 1)) (hq : pc + 1 = q) (h : vv_V Y nL Z σ q L (.int (σ 4 i) :: st)) : vv_V Y nL Z σ pc L (.int (nI i) :: .ref (Y.2.1 4) :: st) := by
  obtain ⟨K, hK, hT⟩ := hY.row (k := 4) (Or.inl rfl)
  have hlen : pc_len n 4 = 13 := by unfold pc_len; rfl
  rw [hlen] at hK
  exact vv_ild hC (hY.k (by decide)) hK hT hi (by omega) hd hq h
theorem pc_st_tally (hY : pc_sys Y n) (hC : vv_C Y nL Z cc ret Ts own rm) {i : Nat} {x : Int32} (hi : i < 13) (hd : decode cc pc = .ok (.iastore, 1)) (hq : pc + 1 = q) (h : vv_V Y nL Z (vv_up σ 4 i x) q L st) : vv_V Y nL Z σ pc L (.int x :: .int (nI i) :: .ref (Y.2.1 4) :: st) := by
  obtain ⟨K, hK, hT⟩ := hY.row (k := 4) (Or.inl rfl)
  have hlen : pc_len n 4 = 13 := by unfold pc_len; rfl
  rw [hlen] at hK
  exact vv_ist hC (hY.k (by decide)) hK hT hi (by omega) hd hq h
theorem pc_ld_mixed (hY : pc_sys Y n) (hC : vv_C Y nL Z cc ret Ts own rm) {i : Nat} (hi : i < 8) (hd : decode cc pc = .ok (.iaload, 1)) (hq : pc + 1 = q) (h : vv_V Y nL Z σ q L (.int (σ 5 i) :: st)) : vv_V Y nL Z σ pc L (.int (nI i) :: .ref (Y.2.1 5) :: st) := by
  obtain ⟨K, hK, hT⟩ := hY.row (k := 5) (Or.inr (Or.inl rfl))
  have hlen : pc_len n 5 = 8 := by unfold pc_len; rfl
  rw [hlen] at hK
  exact vv_ild hC (hY.k (by decide)) hK hT hi (by omega) hd hq h
theorem pc_st_mixed (hY : pc_sys Y n) (hC : vv_C Y nL Z cc ret Ts own rm) {i : Nat} {x : Int32} (hi : i < 8) (hd : decode cc pc = .ok (.iastore, 1)) (hq : pc + 1 = q) (h : vv_V Y nL Z (vv_up σ 5 i x) q L st) : vv_V Y nL Z σ pc L (.int x :: .int (nI i) :: .ref (Y.2.1 5) :: st) := by
  obtain ⟨K, hK, hT⟩ := hY.row (k := 5) (Or.inr (Or.inl rfl))
  have hlen : pc_len n 5 = 8 := by unfold pc_len; rfl
  rw [hlen] at hK
  exact vv_ist hC (hY.k (by decide)) hK hT hi (by omega) hd hq h
theorem pc_ld_ew (hY : pc_sys Y n) (hC : vv_C Y nL Z cc ret Ts own rm) {e : Nat} (he : e < 11) {i : Nat} (hi : i < 8 * n) (hd : decode cc pc = .ok (.iaload, 1)) (hq : pc + 1 = q) (h : vv_V Y nL Z σ q L (.int (σ (pc_e e + 1) i) :: st)) : vv_V Y nL Z σ pc L (.int (nI i) :: .ref (Y.2.1 (pc_e e + 1)) :: st) := by
  obtain ⟨K, hK, hT⟩ := hY.row (k := (pc_e e + 1)) (Or.inr (Or.inr (Or.inl (by unfold pc_e; omega))))
  have hlen : pc_len n (pc_e e + 1) = 8 * n := by unfold pc_len pc_e; rw [if_neg (by omega), if_neg (by omega), if_pos (by omega)]
  rw [hlen] at hK
  exact vv_ild hC (hY.ke he (by decide)) hK hT hi (by have := hY.hi; omega) hd hq h
theorem pc_st_ew (hY : pc_sys Y n) (hC : vv_C Y nL Z cc ret Ts own rm) {e : Nat} (he : e < 11) {i : Nat} {x : Int32} (hi : i < 8 * n) (hd : decode cc pc = .ok (.iastore, 1)) (hq : pc + 1 = q) (h : vv_V Y nL Z (vv_up σ (pc_e e + 1) i x) q L st) : vv_V Y nL Z σ pc L (.int x :: .int (nI i) :: .ref (Y.2.1 (pc_e e + 1)) :: st) := by
  obtain ⟨K, hK, hT⟩ := hY.row (k := (pc_e e + 1)) (Or.inr (Or.inr (Or.inl (by unfold pc_e; omega))))
  have hlen : pc_len n (pc_e e + 1) = 8 * n := by unfold pc_len pc_e; rw [if_neg (by omega), if_neg (by omega), if_pos (by omega)]
  rw [hlen] at hK
  exact vv_ist hC (hY.ke he (by decide)) hK hT hi (by have := hY.hi; omega) hd hq h
theorem pc_ld_dw (hY : pc_sys Y n) (hC : vv_C Y nL Z cc ret Ts own rm) {m : Nat} (hm : m < n) {i : Nat} (hi : i < 192) (hd : decode cc pc = .ok (.iaload, 1)) (hq : pc + 1 = q) (h : vv_V Y nL Z σ q L (.int (σ (pc_d m + 1) i) :: st)) : vv_V Y nL Z σ pc L (.int (nI i) :: .ref (Y.2.1 (pc_d m + 1)) :: st) := by
  obtain ⟨K, hK, hT⟩ := hY.row (k := (pc_d m + 1)) (Or.inr (Or.inr (Or.inr (by unfold pc_d; omega))))
  have hlen : pc_len n (pc_d m + 1) = 192 := by unfold pc_len pc_d; rw [if_neg (by omega), if_neg (by omega), if_neg (by omega), if_pos (by omega)]
  rw [hlen] at hK
  exact vv_ild hC (hY.kd hm (by decide)) hK hT hi (by omega) hd hq h
theorem pc_st_dw (hY : pc_sys Y n) (hC : vv_C Y nL Z cc ret Ts own rm) {m : Nat} (hm : m < n) {i : Nat} {x : Int32} (hi : i < 192) (hd : decode cc pc = .ok (.iastore, 1)) (hq : pc + 1 = q) (h : vv_V Y nL Z (vv_up σ (pc_d m + 1) i x) q L st) : vv_V Y nL Z σ pc L (.int x :: .int (nI i) :: .ref (Y.2.1 (pc_d m + 1)) :: st) := by
  obtain ⟨K, hK, hT⟩ := hY.row (k := (pc_d m + 1)) (Or.inr (Or.inr (Or.inr (by unfold pc_d; omega))))
  have hlen : pc_len n (pc_d m + 1) = 192 := by unfold pc_len pc_d; rw [if_neg (by omega), if_neg (by omega), if_neg (by omega), if_pos (by omega)]
  rw [hlen] at hK
  exact vv_ist hC (hY.kd hm (by decide)) hK hT hi (by omega) hd hq h
theorem pc_ld_ds (hY : pc_sys Y n) (hC : vv_C Y nL Z cc ret Ts own rm) {m : Nat} (hm : m < n) {i : Nat} (hi : i < 24) (hd : decode cc pc = .ok (.iaload, 1)) (hq : pc + 1 = q) (h : vv_V Y nL Z σ q L (.int (σ (pc_d m + 2) i) :: st)) : vv_V Y nL Z σ pc L (.int (nI i) :: .ref (Y.2.1 (pc_d m + 2)) :: st) := by
  obtain ⟨K, hK, hT⟩ := hY.row (k := (pc_d m + 2)) (Or.inr (Or.inr (Or.inr (by unfold pc_d; omega))))
  have hlen : pc_len n (pc_d m + 2) = 24 := by unfold pc_len pc_d; rw [if_neg (by omega), if_neg (by omega), if_neg (by omega), if_neg (by omega)]
  rw [hlen] at hK
  exact vv_ild hC (hY.kd hm (by decide)) hK hT hi (by omega) hd hq h
theorem pc_st_ds (hY : pc_sys Y n) (hC : vv_C Y nL Z cc ret Ts own rm) {m : Nat} (hm : m < n) {i : Nat} {x : Int32} (hi : i < 24) (hd : decode cc pc = .ok (.iastore, 1)) (hq : pc + 1 = q) (h : vv_V Y nL Z (vv_up σ (pc_d m + 2) i x) q L st) : vv_V Y nL Z σ pc L (.int x :: .int (nI i) :: .ref (Y.2.1 (pc_d m + 2)) :: st) := by
  obtain ⟨K, hK, hT⟩ := hY.row (k := (pc_d m + 2)) (Or.inr (Or.inr (Or.inr (by unfold pc_d; omega))))
  have hlen : pc_len n (pc_d m + 2) = 24 := by unfold pc_len pc_d; rw [if_neg (by omega), if_neg (by omega), if_neg (by omega), if_neg (by omega)]
  rw [hlen] at hK
  exact vv_ist hC (hY.kd hm (by decide)) hK hT hi (by omega) hd hq h
theorem pc_ld_dt (hY : pc_sys Y n) (hC : vv_C Y nL Z cc ret Ts own rm) {m : Nat} (hm : m < n) {i : Nat} (hi : i < 24) (hd : decode cc pc = .ok (.baload, 1)) (hq : pc + 1 = q) (h : vv_V Y nL Z σ q L (.int (σ (pc_d m + 3) i) :: st)) : vv_V Y nL Z σ pc L (.int (nI i) :: .ref (Y.2.1 (pc_d m + 3)) :: st) := by
  obtain ⟨K, hK, hT⟩ := hY.zrow (m := m)
  exact vv_zld hC (hY.kd hm (by decide)) hK hT hi (by omega) hd hq h
theorem pc_st_dt (hY : pc_sys Y n) (hC : vv_C Y nL Z cc ret Ts own rm) {m : Nat} (hm : m < n) {i : Nat} {x : Int32} (hi : i < 24) (hd : decode cc pc = .ok (.bastore, 1)) (hq : pc + 1 = q) (h : vv_V Y nL Z (vv_up σ (pc_d m + 3) i (vp_nar .boolean x)) q L st) : vv_V Y nL Z σ pc L (.int x :: .int (nI i) :: .ref (Y.2.1 (pc_d m + 3)) :: st) := by
  obtain ⟨K, hK, hT⟩ := hY.zrow (m := m)
  exact vv_zst hC (hY.kd hm (by decide)) hK hT hi (by omega) hd hq h
theorem pc_ld_disks (hY : pc_sys Y n) (hC : vv_C Y nL Z cc ret Ts own rm) {m : Nat} (hm : m < n) (hd : decode cc pc = .ok (.aaload, 1)) (hq : pc + 1 = q) (h : vv_V Y nL Z σ q L (.ref (Y.2.1 (pc_d m)) :: st)) : vv_V Y nL Z σ pc L (.int (nI m) :: .ref (Y.2.1 1) :: st) := by
  obtain ⟨K, hK, hT⟩ := hY.disks
  exact vv_ald hC (hY.k (by decide)) (hK _) hT hm (by have := hY.hi; omega) rfl hd hq h
theorem pc_ld_slots (hY : pc_sys Y n) (hC : vv_C Y nL Z cc ret Ts own rm) {e : Nat} (he : e < 11) (hd : decode cc pc = .ok (.aaload, 1)) (hq : pc + 1 = q) (h : vv_V Y nL Z σ q L (.ref (Y.2.1 (pc_e e)) :: st)) : vv_V Y nL Z σ pc L (.int (nI e) :: .ref (Y.2.1 3) :: st) := by
  obtain ⟨K, hK, hT⟩ := hY.slots
  exact vv_ald hC (hY.k (by decide)) (hK _) hT he (by decide) rfl hd hq h
end PCROWS
end
section
/-! WORDS FOR THE CLASS'S STATE, in terms of its store -/
theorem vv_swOut {x : Int32} (lo : Int) (k : Nat) (h : ∀ j : Nat, j < k → ¬ x.toInt = lo + j) {hi : Int} (e : hi = lo + k - 1) : x.toInt < lo ∨ hi < x.toInt := by
  rcases Int.lt_or_le x.toInt lo with a | a
  · exact Or.inl a
  · rcases Int.lt_or_le hi x.toInt with b | b
    · exact Or.inr b
    · exact absurd (show x.toInt = lo + ((x.toInt - lo).toNat : Int) by omega) (h (x.toInt - lo).toNat (by omega))
theorem vv_swNe {x k : Int32} {a : Int} (h : ¬ x = k) (hk : k.toInt = a) : ¬ x.toInt = a := fun e => h (Int32.toInt_inj.mp (e.trans hk.symm))
/-- rows of ints that a method is handed -/
def pc_rw (n k : Nat) : Prop := k < 28 + 4 * n ∧ (k = 4 ∨ k = 5 ∨ (6 ≤ k ∧ k < 28 ∧ k % 2 = 1) ∨ (28 ≤ k ∧ (k % 4 = 1 ∨ k % 4 = 2)))
theorem pc_rw_mixed {n : Nat} : pc_rw n 5 := ⟨by omega, Or.inr (Or.inl rfl)⟩
theorem pc_rw_ew {n e : Nat} (he : e < 11) : pc_rw n (pc_e e + 1) := ⟨by unfold pc_e; omega, Or.inr (Or.inr (Or.inl (by unfold pc_e; omega)))⟩
theorem pc_rw_dw {n m : Nat} (hm : m < n) : pc_rw n (pc_d m + 1) := ⟨by unfold pc_d; omega, Or.inr (Or.inr (Or.inr (by unfold pc_d; omega)))⟩
theorem pc_len_mixed {n : Nat} : pc_len n 5 = 8 := rfl
theorem pc_len_ew {n e : Nat} (he : e < 11) : pc_len n (pc_e e + 1) = 8 * n := by unfold pc_len pc_e; rw [if_neg (by omega), if_neg (by omega), if_pos (by omega)]
theorem pc_len_dw {n m : Nat} : pc_len n (pc_d m + 1) = 192 := by unfold pc_len pc_d; rw [if_neg (by omega), if_neg (by omega), if_neg (by omega), if_pos (by omega)]
theorem pc_len_lt {n k : Nat} (hn : n ≤ 6) : pc_len n k < 2 ^ 31 := by
  unfold pc_len
  split
  · omega
  · split
    · omega
    · split
      · omega
      · split <;> omega
section PCROW2
variable {Y : vv_Y} {n : Nat} {nL : Nat} {Z : vv_Z} {cc : ByteArray} {ret : Option FieldType} {Ts : List Cond} {own : String} {rm : Room} {σ : vv_S} {pc q : Nat} {L L' : List (Nat × Value)} {st : List Value}
theorem pc_ld_row (hY : pc_sys Y n) (hC : vv_C Y nL Z cc ret Ts own rm) {k : Nat} (hk : pc_rw n k) {i : Nat} (hi : i < pc_len n k) (hd : decode cc pc = .ok (.iaload, 1)) (hq : pc + 1 = q) (h : vv_V Y nL Z σ q L (.int (σ k i) :: st)) : vv_V Y nL Z σ pc L (.int (nI i) :: .ref (Y.2.1 k) :: st) := by
  obtain ⟨K, hK, hT⟩ := hY.row (k := k) hk.2
  exact vv_ild hC (by rw [hY.2.2.1]; exact hk.1) hK hT hi (pc_len_lt hY.hi) hd hq h
end PCROW2
/-- the sum of eight words from b on -/
def pc_sum (f : Nat → Int32) (b : Nat) : Nat → Int32
  | 0 => nI 0
  | i + 1 => pc_sum f b i + f (b + i) * nI (2 * i + 1)
abbrev pc_on (σ : vv_S) (m s : Nat) : Prop := nI s < σ (pc_d m) 4
abbrev pc_there (σ : vv_S) (m s : Nat) : Prop := pc_on σ m s ∧ σ (pc_d m + 3) s = 0 ∧ σ (pc_d m + 2) s = pc_sum (σ (pc_d m + 1)) (s * 8) 8
/-- bit p of a mask, as the class tests it -/
abbrev pc_bit (x : Int32) (p : Nat) : Prop := (x >>> (nI p &&& 31)) &&& nI 1 = nI 1
/-- Integer.bitCount, as the JDK has it -/
def pc_ushr (x y : Int32) : Int32 := (x.toUInt32 >>> (y.toUInt32 &&& Int32.toUInt32 31)).toInt32
def pc_bc1 (x : Int32) : Int32 := x - (pc_ushr x (nI 1) &&& 1431655765)
def pc_bc2 (x : Int32) : Int32 := (x &&& 858993459) + (pc_ushr x (nI 2) &&& 858993459)
def pc_bc3 (x : Int32) : Int32 := (x + pc_ushr x (nI 4)) &&& 252645135
def pc_bc4 (x : Int32) : Int32 := x + pc_ushr x (nI 8)
def pc_bc5 (x : Int32) : Int32 := x + pc_ushr x (nI 16)
def pc_bc (x : Int32) : Int32 := pc_bc5 (pc_bc4 (pc_bc3 (pc_bc2 (pc_bc1 x)))) &&& nI 63
def pc_cells (x : Int32) : Int32 := pc_bc x + nI 2
/-- the k-th entry of the ring -/
abbrev pc_re (o k : Nat) : Nat := (o + k) % 11
/-- which entry has a part of a stripe latest, of the first k of the ring -/
def pc_lat (σ : vv_S) (o s p : Nat) : Nat → Option Nat
  | 0 => none
  | k + 1 => if σ (pc_e (pc_re o k)) 1 = nI s ∧ pc_bit (σ (pc_e (pc_re o k)) 2) p then some (pc_re o k) else pc_lat σ o s p k
def pc_upto (σ : vv_S) (o s : Nat) : Nat → Nat
  | 0 => 0
  | k + 1 => if σ (pc_e (pc_re o k)) 1 = nI s then k + 1 else pc_upto σ o s k
def pc_free (σ : vv_S) (o : Nat) : Nat → Int32
  | 0 => nI 32 - σ 2 3
  | k + 1 => pc_free σ o k + pc_cells (σ (pc_e (pc_re o k)) 2)
def pc_tf (σ : vv_S) (o r : Nat) (c : Int32) : Nat → Nat → Nat
  | 0, k => k
  | f + 1, k => if k < r ∧ pc_free σ o k < c then pc_tf σ o r c f (k + 1) else k
/-- the journal's own row after k of its oldest records are free -/
def pc_fj (σ : vv_S) (o r : Nat) : Nat → (Nat → Int32)
  | 0 => σ 2
  | k + 1 => upd (upd (upd (upd (upd (pc_fj σ o r k) 4 ((pc_fj σ o r k 4 + pc_cells (σ (pc_e (pc_re o k)) 2)) - (pc_fj σ o r k 4 + pc_cells (σ (pc_e (pc_re o k)) 2)) / nI 32 * nI 32)) 5 (pc_fj σ o r k 5 + nI 1)) 3 (pc_fj σ o r k 3 - pc_cells (σ (pc_e (pc_re o k)) 2))) 1 (nI ((pc_re o k + 1) % 11))) 2 (nI (r - k - 1))
def pc_mt (σ : vv_S) (x : Int32) : Nat → Nat → Int32
  | 0, _ => -1
  | f + 1, m => if σ (pc_d m) 3 = x then nI m else pc_mt σ x f (m + 1)
def pc_cnt (σ : vv_S) (s : Nat) : Nat → Nat
  | 0 => 0
  | m + 1 => if pc_there σ m s then pc_cnt σ s m else pc_cnt σ s m + 1
def pc_all (n : Nat) : Int32 := (nI 1 <<< (nI (n - 1) &&& 31)) - nI 1
abbrev pc_pm (n s : Nat) : Nat := n - 1 - s % n
abbrev pc_mo (n s d : Nat) : Nat := (pc_pm n s + 1 + d) % n
theorem vv_iushr {Y : vv_Y} {nL : Nat} {Z : vv_Z} {cc : ByteArray} {ret : Option FieldType} {Ts : List Cond} {own : String} {rm : Room} {σ : vv_S} {pc q : Nat} {L : List (Nat × Value)} {st : List Value} (hC : vv_C Y nL Z cc ret Ts own rm) {x y : Int32} (hd : decode cc pc = .ok (.iushr, 1)) (hq : pc + 1 = q) (h : vv_V Y nL Z σ q L (.int (pc_ushr x y) :: st)) : vv_V Y nL Z σ pc L (.int y :: .int x :: st) := by
  obtain ⟨p, l, e, R, s, m, args, below, meth, c, post⟩ := Z
  obtain ⟨ok, hx, hb, hml, hr, hown, hlk, hts, hK, hR⟩ := hC
  subst hq
  intro H locs ls hP hS hl
  exact lv_iushr hx hb hd rfl (h H locs ls hP hS hl)
/-- a counter that goes down: nI j - 1 is below 0 just when j is 0 -/
theorem pc_jm1 {j : Nat} (h : j < 1000) : nI j - nI 1 < 0 ↔ j = 0 := by
  rcases j with _ | j
  · exact ⟨fun _ => rfl, fun _ => by decide⟩
  · refine ⟨fun h1 => ?_, fun h1 => by omega⟩
    rw [pk_sub (by omega)] at h1
    exact absurd h1 (nI_pos (by omega))
theorem pc_jdec {j : Nat} : nI j + Int32.ofInt (-1) = nI j - nI 1 := by
  rw [Int32.sub_eq_add_neg]
  rfl
theorem pc_mo_lt {n s d : Nat} (h : 3 ≤ n) : pc_mo n s d < n := Nat.mod_lt _ (by omega)
theorem pc_pm_lt {n s : Nat} (h : 3 ≤ n) : pc_pm n s < n := by unfold pc_pm; omega
theorem pc_lat_lt {σ : vv_S} {o s p k e : Nat} (h : pc_lat σ o s p k = some e) : e < 11 := by
  induction k with
  | zero => cases h
  | succ k ih =>
    unfold pc_lat at h
    split at h
    · cases h; exact Nat.mod_lt _ (by decide)
    · exact ih h
theorem vv_up_row_n {σ : vv_S} {k k' j : Nat} {f : Nat → Int32} {v : Int32} (h : k ≠ k') : vv_up (vv_row σ k' f) k j v = vv_row (vv_up σ k j v) k' f := by
  funext i
  by_cases h1 : i = k'
  · rw [h1, vv_row_s, vv_up_n (Ne.symm h), vv_row_s]
  · rw [vv_row_n h1]
    by_cases h2 : i = k
    · rw [h2, vv_up_s, vv_up_s, vv_row_n h]
    · rw [vv_up_n h2, vv_up_n h2, vv_row_n h1]
theorem vv_row_comm {σ : vv_S} {k k' : Nat} {f g : Nat → Int32} (h : k ≠ k') : vv_row (vv_row σ k f) k' g = vv_row (vv_row σ k' g) k f := by
  funext i
  by_cases h1 : i = k'
  · rw [h1, vv_row_s, vv_row_n (Ne.symm h), vv_row_s]
  · rw [vv_row_n h1]
    by_cases h2 : i = k
    · rw [h2, vv_row_s, vv_row_s]
    · rw [vv_row_n h2, vv_row_n h2, vv_row_n h1]
abbrev pc_oth (σ : vv_S) (n m s : Nat) : Prop := pc_cnt σ s n = (if pc_there σ m s then 0 else 1)
def pc_src (σ : vv_S) (n o r s p : Nat) : Nat := if pc_lat σ o s p r = none then (if pc_there σ (pc_mo n s p) s then 0 else if pc_oth σ n (pc_mo n s p) s then 2 else 3) else 1
abbrev pc_nn (σ : vv_S) (n o r s p : Nat) : Prop := pc_lat σ o s p r = none ∧ ¬ pc_there σ (pc_mo n s p) s
def pc_clr (σ : vv_S) : vv_S := vv_row σ 5 (fun j => if j < 8 then nI 0 else σ 5 j)
def pc_mx (σ : vv_S) (f : Nat → Int32) (k b : Nat) : Nat → Int32 := fun j => if j < 8 then f j ^^^ σ k (b + j) else f j
def pc_mxo (σ : vv_S) (x : Int32) (s : Nat) : Nat → (Nat → Int32)
  | 0 => σ 5
  | m + 1 => if nI m = x then pc_mxo σ x s m else pc_mx σ (pc_mxo σ x s m) (pc_d m + 1) (s * 8)
def pc_mxn (σ : vv_S) (n o r s p : Nat) : Nat → Int32 := match pc_lat σ o s p r with
  | some e => pc_mx σ (σ 5) (pc_e e + 1) (p * 8)
  | none => pc_mx σ (σ 5) (pc_d (pc_mo n s p) + 1) (s * 8)
def pc_xst (σ : vv_S) (n : Nat) (x : Int32) (s : Nat) : vv_S := vv_row (pc_clr σ) 5 (pc_mxo (pc_clr σ) x s n)
def pc_fb (τ : vv_S) : Nat → vv_S
  | 0 => τ
  | m + 1 => if pc_fb τ m (pc_d m) 3 = nI 2 then vv_up (pc_fb τ m) (pc_d m) 4 (nI 0) else pc_fb τ m
def pc_tl (σ : vv_S) (w : Nat) : vv_S := vv_up σ 4 w (σ 4 w + nI 1)
def pc_cutS (σ : vv_S) : vv_S := vv_up (vv_up (vv_up (pc_tl σ 0) 0 7 (-1)) 0 6 (nI 1)) 0 9 (nI 0)
def pc_pw (σ : vv_S) (n : Nat) : vv_S := if σ 0 7 = 0 then pc_fb (pc_cutS σ) n else vv_up (pc_tl σ 0) 0 7 (if 0 ≤ σ 0 7 then σ 0 7 - nI 1 else -1)
def pc_tw (σ : vv_S) (m s k b : Nat) (t : Int32) : Nat → Int32 := fun j => if s * 8 ≤ j ∧ j < s * 8 + 8 ∧ nI (j - s * 8) < t then σ k (b + (j - s * 8)) else σ (pc_d m + 1) j
theorem pc_tw_eq {σ : vv_S} {m s k b : Nat} {t : Int32} {i : Nat} (hi : i ≤ 8) (ht : ∀ j, j < i → nI j < t) (hx : i = 8 ∨ t ≤ nI i) : (fun j => if s * 8 ≤ j ∧ j < s * 8 + i then σ k (b + (j - s * 8)) else σ (pc_d m + 1) j) = pc_tw σ m s k b t := by
  funext j
  unfold pc_tw
  by_cases h1 : s * 8 ≤ j ∧ j < s * 8 + i
  · rw [if_pos h1, if_pos ⟨h1.1, by omega, ht _ (by omega)⟩]
  · rw [if_neg h1]
    by_cases h2 : s * 8 ≤ j ∧ j < s * 8 + 8 ∧ nI (j - s * 8) < t
    · rcases hx with hx | hx
      · exact absurd ⟨h2.1, by omega⟩ h1
      · have h3 : nI i ≤ nI (j - s * 8) := nI_le (by omega) (by omega)
        exact absurd (Int32.lt_of_lt_of_le h2.2.2 (Int32.le_trans hx h3)) (fun z => Int32.lt_irrefl z)
    · rw [if_neg h2]
def pc_tk (σ : vv_S) (m s k b : Nat) (t : Int32) : vv_S :=
  let S1 := vv_row σ (pc_d m + 1) (pc_tw σ m s k b t)
  let S2 := if nI 8 < t then vv_up (vv_up S1 (pc_d m + 2) s (pc_sum (σ k) b 8)) (pc_d m + 3) s (nI 0) else vv_up S1 (pc_d m + 3) s (nI 1)
  vv_up S2 (pc_d m) 5 (S2 (pc_d m) 5 + nI 1)
theorem pc_fj_1 {σ : vv_S} {o r : Nat} (ho : σ 2 1 = nI o) (h : o < 11) : ∀ k, pc_fj σ o r k 1 = nI (pc_re o k)
  | 0 => by show σ 2 1 = _; rw [ho]; unfold pc_re; rw [Nat.mod_eq_of_lt (by omega)]; rfl
  | k + 1 => by show nI ((pc_re o k + 1) % 11) = nI (pc_re o (k + 1)); congr 1; unfold pc_re; omega
theorem pc_fj_2 {σ : vv_S} {o r : Nat} (hr : σ 2 2 = nI r) : ∀ k, pc_fj σ o r k 2 = nI (r - k)
  | 0 => hr
  | k + 1 => by show nI (r - k - 1) = nI (r - (k + 1)); congr 1
theorem pc_re_0 {o k : Nat} : pc_re (pc_re o k) 0 = pc_re o k := by unfold pc_re; omega
theorem pc_dn {m m' i j : Nat} (h : m ≠ m') (hi : i < 4) (hj : j < 4) : pc_d m + i ≠ pc_d m' + j := by unfold pc_d; omega
theorem pc_dne {m e i j : Nat} (he : e < 11) (hj : j < 2) : pc_d m + i ≠ pc_e e + j := by unfold pc_d pc_e; omega
def pc_z8 (f : Nat → Int32) : Bool := (List.range 8).all (fun i => decide (f i = 0))
theorem pc_z8_iff {f : Nat → Int32} : pc_z8 f = true ↔ ∀ i, i < 8 → f i = 0 := by
  unfold pc_z8
  rw [List.all_eq_true]
  exact ⟨fun h i hi => of_decide_eq_true (h i (List.mem_range.mpr hi)), fun h i hi => decide_eq_true (h i (List.mem_range.mp hi))⟩
end
section
set_option maxRecDepth 100000 in
set_option maxHeartbeats 4000000 in
theorem cm_X0_isOn (l : Launch) (Y : vv_Y) (n : Nat) (hY : pc_sys Y n) (σ : vv_S) (m : Nat) (s : Nat) (hm : m < n) (hs : s < 24) : vv_M l Y yX0_isOn wsX0_isOn { frames := 0, cells := 0, slots := 0, locals := 0 } [.ref (Y.2.1 (pc_d m)), .int (nI (s))] σ (vv_R (.int (vv_B (nI s < σ (pc_d m) 4))) σ) := by
  refine vv_M.of (cc := cX0_isOn) (maxL := 2) (ret := (some .boolean)) hY.ok (by decide) rfl (Nat.le_of_ble_eq_true rfl) ?_
  intro Z hl hp hC
  subst hl
  have hi_X0 : ∀ w ∈ u_ws RX0 TX0 6, w ∈ wsX0_isOn := by decide +kernel
  have hf_built : Cond.fieldLink RX0 26 "ParityRow$Disk" (TX0 4).2.1 (TX0 4).2.2.1 ∈ wsX0_isOn := by decide +kernel
  have hlo := hY.lo
  have hhi := hY.hi
  refine vv_loc (L' := [(0, .ref (Y.2.1 (pc_d m))), (1, .int (nI (s)))]) rfl ?_
  refine vv_iload_n (q := 1) hC dX0_isOn_0 (x := nI (s)) rfl rfl ?_
  refine vv_aload_n (q := 2) hC dX0_isOn_1 (x := Y.2.1 (pc_d m)) rfl rfl ?_
  refine pc_gD (q := 5) hY hC (by omega) 4 hi_X0 hf_built (by decide) rfl (v := .int (σ (pc_d m) 4)) rfl dX0_isOn_2 rfl ?_
  refine vv_icmp_ge (x := nI (s)) (y := σ (pc_d m) 4) (q := 8) (tgt := 12) hC dX0_isOn_5 (by decide) rfl (fun c_5 => ?_) (fun c_5 => ?_)
  · refine vv_iconst (q := 13) hC (nI 0) dX0_isOn_12 (by decide) rfl ?_
    refine vv_zret (v := nI (0)) hC (by first | rfl | decide) dX0_isOn_13 ?_
    rw [hp]
    exact ⟨congrArg (fun z => some (Value.int z)) (vv_B0 (by grind)).symm, rfl⟩
  · refine vv_iconst (q := 9) hC (nI 1) dX0_isOn_8 (by decide) rfl ?_
    refine vv_goto (tgt := 13) hC dX0_isOn_9 (by decide) ?_
    refine vv_zret (v := nI (1)) hC (by first | rfl | decide) dX0_isOn_13 ?_
    rw [hp]
    exact ⟨congrArg (fun z => some (Value.int z)) (vv_B1 (by grind)).symm, rfl⟩
set_option maxRecDepth 100000 in
set_option maxHeartbeats 4000000 in
theorem cm_X0_sumOf (l : Launch) (Y : vv_Y) (n : Nat) (hY : pc_sys Y n) (σ : vv_S) (k : Nat) (b : Nat) (hk : pc_rw n k) (hb : b + 8 ≤ pc_len n k) : vv_M l Y yX0_sumOf wsX0_sumOf { frames := 0, cells := 0, slots := 0, locals := 0 } [.ref (Y.2.1 (k)), .int (nI (b))] σ (vv_R (.int (pc_sum (σ k) b 8)) σ) := by
  refine vv_M.of (cc := cX0_sumOf) (maxL := 4) (ret := (some .int)) hY.ok (by decide) rfl (Nat.le_of_ble_eq_true rfl) ?_
  intro Z hl hp hC
  subst hl
  have hlo := hY.lo
  have hhi := hY.hi
  have hlen := pc_len_lt (k := k) hY.hi
  refine vv_loc (L' := [(0, .ref (Y.2.1 (k))), (1, .int (nI (b)))]) rfl ?_
  refine vv_iconst (q := 1) hC (nI 0) dX0_sumOf_0 (by decide) rfl ?_
  refine vv_istore_n (L' := [(0, .ref (Y.2.1 (k))), (1, .int (nI (b))), (2, .int (nI (0)))]) (q := 2) hC dX0_sumOf_1 (by decide) rfl rfl rfl ?_
  refine vv_iconst (q := 3) hC (nI 0) dX0_sumOf_2 (by decide) rfl ?_
  refine vv_istore_n (L' := [(0, .ref (Y.2.1 (k))), (1, .int (nI (b))), (2, .int (nI (0))), (3, .int (nI (0)))]) (q := 4) hC dX0_sumOf_3 (by decide) rfl rfl rfl ?_
  have lp_4 : ∀ i : Nat, (i ≤ 8) → vv_V Y 4 Z σ 4 [(0, .ref (Y.2.1 (k))), (1, .int (nI (b))), (2, .int (pc_sum (σ k) b i)), (3, .int (nI (i)))] [] := by
    refine vv_ind (fun i => 8 - i) (fun i ih_4 => ?_)
    intro hi8
    refine vv_iload_n (q := 5) hC dX0_sumOf_4 (x := nI (i)) rfl rfl ?_
    refine vv_bipush (q := 7) hC (nI 8) dX0_sumOf_5 (by decide) rfl ?_
    refine vv_icmpN_ge (x := i) (y := 8) (q := 10) (tgt := 30) hC dX0_sumOf_7 (by decide) (by omega) (by omega) rfl (fun c_7 => ?_) (fun c_7 => ?_)
    · refine vv_iload_n (q := 31) hC dX0_sumOf_30 (x := pc_sum (σ k) b i) rfl rfl ?_
      refine vv_iret (v := pc_sum (σ k) b i) hC dX0_sumOf_31 ?_
      rw [hp]
      have e8 : i = 8 := by omega
      subst e8
      exact ⟨rfl, rfl⟩
    · refine vv_iload_n (q := 11) hC dX0_sumOf_10 (x := pc_sum (σ k) b i) rfl rfl ?_
      refine vv_aload_n (q := 12) hC dX0_sumOf_11 (x := Y.2.1 (k)) rfl rfl ?_
      refine vv_iload_n (q := 13) hC dX0_sumOf_12 (x := nI (b)) rfl rfl ?_
      refine vv_iload_n (q := 14) hC dX0_sumOf_13 (x := nI (i)) rfl rfl ?_
      refine vv_addN (x := b) (y := i) (q := 15) hC dX0_sumOf_14 rfl ?_
      refine pc_ld_row (q := 16) hY hC hk (i := b + i) (by omega) dX0_sumOf_15 rfl ?_
      refine vv_iconst (q := 17) hC (nI 2) dX0_sumOf_16 (by decide) rfl ?_
      refine vv_iload_n (q := 18) hC dX0_sumOf_17 (x := nI (i)) rfl rfl ?_
      refine vv_mulN (x := 2) (y := i) (q := 19) hC dX0_sumOf_18 rfl ?_
      refine vv_iconst (q := 20) hC (nI 1) dX0_sumOf_19 (by decide) rfl ?_
      refine vv_addN (x := 2 * i) (y := 1) (q := 21) hC dX0_sumOf_20 rfl ?_
      refine vv_imul (x := σ k (b + i)) (y := nI ((2 * i) + 1)) (q := 22) hC dX0_sumOf_21 rfl ?_
      refine vv_iadd (x := pc_sum (σ k) b i) (y := (σ k (b + i)) * (nI ((2 * i) + 1))) (q := 23) hC dX0_sumOf_22 rfl ?_
      refine vv_istore_n (L' := [(0, .ref (Y.2.1 (k))), (1, .int (nI (b))), (2, .int ((pc_sum (σ k) b i) + ((σ k (b + i)) * (nI ((2 * i) + 1))))), (3, .int (nI (i)))]) (q := 24) hC dX0_sumOf_23 (by decide) rfl rfl rfl ?_
      refine vv_iincN (x := i) (L' := [(0, .ref (Y.2.1 (k))), (1, .int (nI (b))), (2, .int ((pc_sum (σ k) b i) + ((σ k (b + i)) * (nI ((2 * i) + 1))))), (3, .int (nI (i + 1)))]) (q := 27) hC dX0_sumOf_24 rfl (by decide) rfl rfl rfl ?_
      refine vv_goto (tgt := 4) hC dX0_sumOf_27 (by decide) ?_
      exact ih_4 (i + 1) (by first | omega | (dsimp only; omega))  (by omega)
  exact lp_4 0 (by omega)
set_option maxRecDepth 100000 in
set_option maxHeartbeats 4000000 in
theorem cm_X3_isBlock (l : Launch) (Y : vv_Y) (n : Nat) (hY : pc_sys Y n) (σ : vv_S) (b : Int32) : vv_M l Y yX3_isBlock wsX3_isBlock { frames := 0, cells := 0, slots := 0, locals := 0 } [.ref (Y.2.1 (0)), .int (b)] σ (vv_R (.int (vv_B (¬ b < 0 ∧ b < nI (24 * (n - 1))))) σ) := by
  refine vv_M.of (cc := cX3_isBlock) (maxL := 2) (ret := (some .boolean)) hY.ok (by decide) rfl (Nat.le_of_ble_eq_true rfl) ?_
  intro Z hl hp hC
  subst hl
  have hi_X3 : ∀ w ∈ u_ws RX3 TX3 10, w ∈ wsX3_isBlock := by decide +kernel
  have hf_data : Cond.fieldLink RX3 39 "ParityRow" (TX3 1).2.1 (TX3 1).2.2.1 ∈ wsX3_isBlock := by decide +kernel
  have hlo := hY.lo
  have hhi := hY.hi
  refine vv_loc (L' := [(0, .ref (Y.2.1 (0))), (1, .int (b))]) rfl ?_
  refine vv_iload_n (q := 1) hC dX3_isBlock_0 (x := b) rfl rfl ?_
  refine vv_if_lt (x := b) (q := 4) (tgt := 19) hC dX3_isBlock_1 (by decide) rfl (fun c_1 => ?_) (fun c_1 => ?_)
  · refine vv_iconst (q := 20) hC (nI 0) dX3_isBlock_19 (by decide) rfl ?_
    refine vv_zret (v := nI (0)) hC (by first | rfl | decide) dX3_isBlock_20 ?_
    rw [hp]
    exact ⟨congrArg (fun z => some (Value.int z)) (vv_B0 (by grind)).symm, rfl⟩
  · refine vv_iload_n (q := 5) hC dX3_isBlock_4 (x := b) rfl rfl ?_
    refine vv_bipush (q := 7) hC (nI 24) dX3_isBlock_5 (by decide) rfl ?_
    refine vv_aload_n (q := 8) hC dX3_isBlock_7 (x := Y.2.1 (0)) rfl rfl ?_
    refine pc_gP (q := 11) hY hC 1 hi_X3 hf_data (by decide) rfl (v := .int (nI (n - 1))) rfl dX3_isBlock_8 rfl ?_
    refine vv_mulN (x := 24) (y := n - 1) (q := 12) hC dX3_isBlock_11 rfl ?_
    refine vv_icmp_ge (x := b) (y := nI (24 * (n - 1))) (q := 15) (tgt := 19) hC dX3_isBlock_12 (by decide) rfl (fun c_12 => ?_) (fun c_12 => ?_)
    · refine vv_iconst (q := 20) hC (nI 0) dX3_isBlock_19 (by decide) rfl ?_
      refine vv_zret (v := nI (0)) hC (by first | rfl | decide) dX3_isBlock_20 ?_
      rw [hp]
      exact ⟨congrArg (fun z => some (Value.int z)) (vv_B0 (by grind)).symm, rfl⟩
    · refine vv_iconst (q := 16) hC (nI 1) dX3_isBlock_15 (by decide) rfl ?_
      refine vv_goto (tgt := 20) hC dX3_isBlock_16 (by decide) ?_
      refine vv_zret (v := nI (1)) hC (by first | rfl | decide) dX3_isBlock_20 ?_
      rw [hp]
      exact ⟨congrArg (fun z => some (Value.int z)) (vv_B1 (by grind)).symm, rfl⟩
set_option maxRecDepth 100000 in
set_option maxHeartbeats 4000000 in
theorem cm_X3_isMember (l : Launch) (Y : vv_Y) (n : Nat) (hY : pc_sys Y n) (σ : vv_S) (b : Int32) : vv_M l Y yX3_isMember wsX3_isMember { frames := 0, cells := 0, slots := 0, locals := 0 } [.ref (Y.2.1 (0)), .int (b)] σ (vv_R (.int (vv_B (¬ b < 0 ∧ b < nI n))) σ) := by
  refine vv_M.of (cc := cX3_isMember) (maxL := 2) (ret := (some .boolean)) hY.ok (by decide) rfl (Nat.le_of_ble_eq_true rfl) ?_
  intro Z hl hp hC
  subst hl
  have hi_X3 : ∀ w ∈ u_ws RX3 TX3 10, w ∈ wsX3_isMember := by decide +kernel
  have hf_width : Cond.fieldLink RX3 36 "ParityRow" (TX3 0).2.1 (TX3 0).2.2.1 ∈ wsX3_isMember := by decide +kernel
  have hlo := hY.lo
  have hhi := hY.hi
  refine vv_loc (L' := [(0, .ref (Y.2.1 (0))), (1, .int (b))]) rfl ?_
  refine vv_iload_n (q := 1) hC dX3_isMember_0 (x := b) rfl rfl ?_
  refine vv_if_lt (x := b) (q := 4) (tgt := 16) hC dX3_isMember_1 (by decide) rfl (fun c_1 => ?_) (fun c_1 => ?_)
  · refine vv_iconst (q := 17) hC (nI 0) dX3_isMember_16 (by decide) rfl ?_
    refine vv_zret (v := nI (0)) hC (by first | rfl | decide) dX3_isMember_17 ?_
    rw [hp]
    exact ⟨congrArg (fun z => some (Value.int z)) (vv_B0 (by grind)).symm, rfl⟩
  · refine vv_iload_n (q := 5) hC dX3_isMember_4 (x := b) rfl rfl ?_
    refine vv_aload_n (q := 6) hC dX3_isMember_5 (x := Y.2.1 (0)) rfl rfl ?_
    refine pc_gP (q := 9) hY hC 0 hi_X3 hf_width (by decide) rfl (v := .int (nI (n))) rfl dX3_isMember_6 rfl ?_
    refine vv_icmp_ge (x := b) (y := nI (n)) (q := 12) (tgt := 16) hC dX3_isMember_9 (by decide) rfl (fun c_9 => ?_) (fun c_9 => ?_)
    · refine vv_iconst (q := 17) hC (nI 0) dX3_isMember_16 (by decide) rfl ?_
      refine vv_zret (v := nI (0)) hC (by first | rfl | decide) dX3_isMember_17 ?_
      rw [hp]
      exact ⟨congrArg (fun z => some (Value.int z)) (vv_B0 (by grind)).symm, rfl⟩
    · refine vv_iconst (q := 13) hC (nI 1) dX3_isMember_12 (by decide) rfl ?_
      refine vv_goto (tgt := 17) hC dX3_isMember_13 (by decide) ?_
      refine vv_zret (v := nI (1)) hC (by first | rfl | decide) dX3_isMember_17 ?_
      rw [hp]
      exact ⟨congrArg (fun z => some (Value.int z)) (vv_B1 (by grind)).symm, rfl⟩
set_option maxRecDepth 100000 in
set_option maxHeartbeats 4000000 in
theorem cm_X3_isStripe (l : Launch) (Y : vv_Y) (n : Nat) (hY : pc_sys Y n) (σ : vv_S) (b : Int32) : vv_M l Y yX3_isStripe wsX3_isStripe { frames := 0, cells := 0, slots := 0, locals := 0 } [.int (b)] σ (vv_R (.int (vv_B (¬ b < 0 ∧ b < nI 24))) σ) := by
  refine vv_M.of (cc := cX3_isStripe) (maxL := 1) (ret := (some .boolean)) hY.ok (by decide) rfl (Nat.le_of_ble_eq_true rfl) ?_
  intro Z hl hp hC
  subst hl
  have hlo := hY.lo
  have hhi := hY.hi
  refine vv_loc (L' := [(0, .int (b))]) rfl ?_
  refine vv_iload_n (q := 1) hC dX3_isStripe_0 (x := b) rfl rfl ?_
  refine vv_if_lt (x := b) (q := 4) (tgt := 14) hC dX3_isStripe_1 (by decide) rfl (fun c_1 => ?_) (fun c_1 => ?_)
  · refine vv_iconst (q := 15) hC (nI 0) dX3_isStripe_14 (by decide) rfl ?_
    refine vv_zret (v := nI (0)) hC (by first | rfl | decide) dX3_isStripe_15 ?_
    rw [hp]
    exact ⟨congrArg (fun z => some (Value.int z)) (vv_B0 (by grind)).symm, rfl⟩
  · refine vv_iload_n (q := 5) hC dX3_isStripe_4 (x := b) rfl rfl ?_
    refine vv_bipush (q := 7) hC (nI 24) dX3_isStripe_5 (by decide) rfl ?_
    refine vv_icmp_ge (x := b) (y := nI (24)) (q := 10) (tgt := 14) hC dX3_isStripe_7 (by decide) rfl (fun c_7 => ?_) (fun c_7 => ?_)
    · refine vv_iconst (q := 15) hC (nI 0) dX3_isStripe_14 (by decide) rfl ?_
      refine vv_zret (v := nI (0)) hC (by first | rfl | decide) dX3_isStripe_15 ?_
      rw [hp]
      exact ⟨congrArg (fun z => some (Value.int z)) (vv_B0 (by grind)).symm, rfl⟩
    · refine vv_iconst (q := 11) hC (nI 1) dX3_isStripe_10 (by decide) rfl ?_
      refine vv_goto (tgt := 15) hC dX3_isStripe_11 (by decide) ?_
      refine vv_zret (v := nI (1)) hC (by first | rfl | decide) dX3_isStripe_15 ?_
      rw [hp]
      exact ⟨congrArg (fun z => some (Value.int z)) (vv_B1 (by grind)).symm, rfl⟩
set_option maxRecDepth 100000 in
set_option maxHeartbeats 4000000 in
theorem cm_X3_parityMember (l : Launch) (Y : vv_Y) (n : Nat) (hY : pc_sys Y n) (σ : vv_S) (s : Nat) (hs : s < 24) : vv_M l Y yX3_parityMember wsX3_parityMember { frames := 0, cells := 0, slots := 0, locals := 0 } [.ref (Y.2.1 (0)), .int (nI (s))] σ (vv_R (.int (nI (pc_pm n s))) σ) := by
  refine vv_M.of (cc := cX3_parityMember) (maxL := 2) (ret := (some .int)) hY.ok (by decide) rfl (Nat.le_of_ble_eq_true rfl) ?_
  intro Z hl hp hC
  subst hl
  have hi_X3 : ∀ w ∈ u_ws RX3 TX3 10, w ∈ wsX3_parityMember := by decide +kernel
  have hf_width : Cond.fieldLink RX3 36 "ParityRow" (TX3 0).2.1 (TX3 0).2.2.1 ∈ wsX3_parityMember := by decide +kernel
  have hlo := hY.lo
  have hhi := hY.hi
  refine vv_loc (L' := [(0, .ref (Y.2.1 (0))), (1, .int (nI (s)))]) rfl ?_
  refine vv_aload_n (q := 1) hC dX3_parityMember_0 (x := Y.2.1 (0)) rfl rfl ?_
  refine pc_gP (q := 4) hY hC 0 hi_X3 hf_width (by decide) rfl (v := .int (nI (n))) rfl dX3_parityMember_1 rfl ?_
  refine vv_iconst (q := 5) hC (nI 1) dX3_parityMember_4 (by decide) rfl ?_
  refine vv_subN (x := n) (y := 1) (q := 6) hC dX3_parityMember_5 (by omega) rfl ?_
  refine vv_iload_n (q := 7) hC dX3_parityMember_6 (x := nI (s)) rfl rfl ?_
  refine vv_aload_n (q := 8) hC dX3_parityMember_7 (x := Y.2.1 (0)) rfl rfl ?_
  refine pc_gP (q := 11) hY hC 0 hi_X3 hf_width (by decide) rfl (v := .int (nI (n))) rfl dX3_parityMember_8 rfl ?_
  refine vv_remN (x := s) (y := n) (q := 12) hC dX3_parityMember_11 (by omega) (by omega) (by omega) rfl ?_
  refine vv_subN (x := n - 1) (y := s % n) (q := 13) hC dX3_parityMember_12 (by have := Nat.mod_lt s (show 0 < n by omega); omega) rfl ?_
  refine vv_iret (v := nI ((n - 1) - (s % n))) hC dX3_parityMember_13 ?_
  rw [hp]
  exact ⟨congrArg (fun z => some (Value.int z)) (by first | rfl | grind), rfl⟩
set_option maxRecDepth 100000 in
set_option maxHeartbeats 4000000 in
theorem cm_X3_memberOf (l : Launch) (Y : vv_Y) (n : Nat) (hY : pc_sys Y n) (σ : vv_S) (s : Nat) (d : Nat) (hs : s < 24) (hd : d < n) : vv_M l Y yX3_memberOf wsX3_memberOf { frames := 1, cells := 0, slots := 0, locals := 21 } [.ref (Y.2.1 (0)), .int (nI (s)), .int (nI (d))] σ (vv_R (.int (nI (pc_mo n s d))) σ) := by
  refine vv_M.of (cc := cX3_memberOf) (maxL := 3) (ret := (some .int)) hY.ok (by decide) rfl (Nat.le_of_ble_eq_true rfl) ?_
  intro Z hl hp hC
  subst hl
  have hi_X3 : ∀ w ∈ u_ws RX3 TX3 10, w ∈ wsX3_memberOf := by decide +kernel
  have hf_width : Cond.fieldLink RX3 36 "ParityRow" (TX3 0).2.1 (TX3 0).2.2.1 ∈ wsX3_memberOf := by decide +kernel
  have hlo := hY.lo
  have hhi := hY.hi
  have hpm := pc_pm_lt (n := n) (s := s) hY.lo
  refine vv_loc (L' := [(0, .ref (Y.2.1 (0))), (1, .int (nI (s))), (2, .int (nI (d)))]) rfl ?_
  refine vv_aload_n (q := 1) hC dX3_memberOf_0 (x := Y.2.1 (0)) rfl rfl ?_
  refine vv_iload_n (q := 2) hC dX3_memberOf_1 (x := nI (s)) rfl rfl ?_
  refine vv_callV (n := 1) (k := 0) (As := [.int (nI (s))]) (st := []) (q := 5) hC (hY.k (by decide)) (hY.P _) (by rw [hY.cl]; rfl) (cm_X3_parityMember _ Y n hY σ s (by omega)) gX3_memberOf_X3_parityMember rfl (by decide +kernel) dX3_memberOf_2 rfl rfl rfl (vv_kR ?_)
  refine vv_iconst (q := 6) hC (nI 1) dX3_memberOf_5 (by decide) rfl ?_
  refine vv_addN (x := pc_pm n s) (y := 1) (q := 7) hC dX3_memberOf_6 rfl ?_
  refine vv_iload_n (q := 8) hC dX3_memberOf_7 (x := nI (d)) rfl rfl ?_
  refine vv_addN (x := (pc_pm n s) + 1) (y := d) (q := 9) hC dX3_memberOf_8 rfl ?_
  refine vv_aload_n (q := 10) hC dX3_memberOf_9 (x := Y.2.1 (0)) rfl rfl ?_
  refine pc_gP (q := 13) hY hC 0 hi_X3 hf_width (by decide) rfl (v := .int (nI (n))) rfl dX3_memberOf_10 rfl ?_
  refine vv_remN (x := ((pc_pm n s) + 1) + d) (y := n) (q := 14) hC dX3_memberOf_13 (by omega) (by omega) (by omega) rfl ?_
  refine vv_iret (v := nI ((((pc_pm n s) + 1) + d) % n)) hC dX3_memberOf_14 ?_
  rw [hp]
  exact ⟨congrArg (fun z => some (Value.int z)) (by first | rfl | grind), rfl⟩
end
section
set_option maxRecDepth 100000 in
set_option maxHeartbeats 4000000 in
theorem cm_J6_bitCount_0f7a4 (l : Launch) (Y : vv_Y) (n : Nat) (hY : pc_sys Y n) (σ : vv_S) (x : Int32) : vv_M l Y yJ6_bitCount_0f7a4 wsJ6_bitCount_0f7a4 { frames := 0, cells := 0, slots := 0, locals := 0 } [.int (x)] σ (vv_R (.int (pc_bc x)) σ) := by
  refine vv_M.of (cc := cJ6_bitCount_0f7a4) (maxL := 1) (ret := (some .int)) hY.ok (by decide) rfl (Nat.le_of_ble_eq_true rfl) ?_
  intro Z hl hp hC
  subst hl
  have hlo := hY.lo
  have hhi := hY.hi
  refine vv_loc (L' := [(0, .int (x))]) rfl ?_
  refine vv_iload_n (q := 1) hC dJ6_bitCount_0f7a4_0 (x := x) rfl rfl ?_
  refine vv_iload_n (q := 2) hC dJ6_bitCount_0f7a4_1 (x := x) rfl rfl ?_
  refine vv_iconst (q := 3) hC (nI 1) dJ6_bitCount_0f7a4_2 (by decide) rfl ?_
  refine vv_iushr (x := x) (y := nI (1)) (q := 4) hC dJ6_bitCount_0f7a4_3 rfl ?_
  refine vv_ldc (v := 1431655765) (q := 7) hC (by decide +kernel) dJ6_bitCount_0f7a4_4 rfl ?_
  refine vv_iand (x := pc_ushr x (nI (1))) (y := 1431655765) (q := 8) hC dJ6_bitCount_0f7a4_7 rfl ?_
  refine vv_isub (x := x) (y := (pc_ushr x (nI (1))) &&& 1431655765) (q := 9) hC dJ6_bitCount_0f7a4_8 rfl ?_
  refine vv_istore_n (L' := [(0, .int (x - ((pc_ushr x (nI (1))) &&& 1431655765)))]) (q := 10) hC dJ6_bitCount_0f7a4_9 (by decide) rfl rfl rfl ?_
  refine vv_loc (L' := [(0, .int (pc_bc1 x))]) (rfl) ?_
  refine vv_iload_n (q := 11) hC dJ6_bitCount_0f7a4_10 (x := pc_bc1 x) rfl rfl ?_
  refine vv_ldc (v := 858993459) (q := 14) hC (by decide +kernel) dJ6_bitCount_0f7a4_11 rfl ?_
  refine vv_iand (x := pc_bc1 x) (y := 858993459) (q := 15) hC dJ6_bitCount_0f7a4_14 rfl ?_
  refine vv_iload_n (q := 16) hC dJ6_bitCount_0f7a4_15 (x := pc_bc1 x) rfl rfl ?_
  refine vv_iconst (q := 17) hC (nI 2) dJ6_bitCount_0f7a4_16 (by decide) rfl ?_
  refine vv_iushr (x := pc_bc1 x) (y := nI (2)) (q := 18) hC dJ6_bitCount_0f7a4_17 rfl ?_
  refine vv_ldc (v := 858993459) (q := 21) hC (by decide +kernel) dJ6_bitCount_0f7a4_18 rfl ?_
  refine vv_iand (x := pc_ushr (pc_bc1 x) (nI (2))) (y := 858993459) (q := 22) hC dJ6_bitCount_0f7a4_21 rfl ?_
  refine vv_iadd (x := (pc_bc1 x) &&& 858993459) (y := (pc_ushr (pc_bc1 x) (nI (2))) &&& 858993459) (q := 23) hC dJ6_bitCount_0f7a4_22 rfl ?_
  refine vv_istore_n (L' := [(0, .int (((pc_bc1 x) &&& 858993459) + ((pc_ushr (pc_bc1 x) (nI (2))) &&& 858993459)))]) (q := 24) hC dJ6_bitCount_0f7a4_23 (by decide) rfl rfl rfl ?_
  refine vv_loc (L' := [(0, .int (pc_bc2 (pc_bc1 x)))]) (rfl) ?_
  refine vv_iload_n (q := 25) hC dJ6_bitCount_0f7a4_24 (x := pc_bc2 (pc_bc1 x)) rfl rfl ?_
  refine vv_iload_n (q := 26) hC dJ6_bitCount_0f7a4_25 (x := pc_bc2 (pc_bc1 x)) rfl rfl ?_
  refine vv_iconst (q := 27) hC (nI 4) dJ6_bitCount_0f7a4_26 (by decide) rfl ?_
  refine vv_iushr (x := pc_bc2 (pc_bc1 x)) (y := nI (4)) (q := 28) hC dJ6_bitCount_0f7a4_27 rfl ?_
  refine vv_iadd (x := pc_bc2 (pc_bc1 x)) (y := pc_ushr (pc_bc2 (pc_bc1 x)) (nI (4))) (q := 29) hC dJ6_bitCount_0f7a4_28 rfl ?_
  refine vv_ldc (v := 252645135) (q := 32) hC (by decide +kernel) dJ6_bitCount_0f7a4_29 rfl ?_
  refine vv_iand (x := (pc_bc2 (pc_bc1 x)) + (pc_ushr (pc_bc2 (pc_bc1 x)) (nI (4)))) (y := 252645135) (q := 33) hC dJ6_bitCount_0f7a4_32 rfl ?_
  refine vv_istore_n (L' := [(0, .int (((pc_bc2 (pc_bc1 x)) + (pc_ushr (pc_bc2 (pc_bc1 x)) (nI (4)))) &&& 252645135))]) (q := 34) hC dJ6_bitCount_0f7a4_33 (by decide) rfl rfl rfl ?_
  refine vv_loc (L' := [(0, .int (pc_bc3 (pc_bc2 (pc_bc1 x))))]) (rfl) ?_
  refine vv_iload_n (q := 35) hC dJ6_bitCount_0f7a4_34 (x := pc_bc3 (pc_bc2 (pc_bc1 x))) rfl rfl ?_
  refine vv_iload_n (q := 36) hC dJ6_bitCount_0f7a4_35 (x := pc_bc3 (pc_bc2 (pc_bc1 x))) rfl rfl ?_
  refine vv_bipush (q := 38) hC (nI 8) dJ6_bitCount_0f7a4_36 (by decide) rfl ?_
  refine vv_iushr (x := pc_bc3 (pc_bc2 (pc_bc1 x))) (y := nI (8)) (q := 39) hC dJ6_bitCount_0f7a4_38 rfl ?_
  refine vv_iadd (x := pc_bc3 (pc_bc2 (pc_bc1 x))) (y := pc_ushr (pc_bc3 (pc_bc2 (pc_bc1 x))) (nI (8))) (q := 40) hC dJ6_bitCount_0f7a4_39 rfl ?_
  refine vv_istore_n (L' := [(0, .int ((pc_bc3 (pc_bc2 (pc_bc1 x))) + (pc_ushr (pc_bc3 (pc_bc2 (pc_bc1 x))) (nI (8)))))]) (q := 41) hC dJ6_bitCount_0f7a4_40 (by decide) rfl rfl rfl ?_
  refine vv_loc (L' := [(0, .int (pc_bc4 (pc_bc3 (pc_bc2 (pc_bc1 x)))))]) (rfl) ?_
  refine vv_iload_n (q := 42) hC dJ6_bitCount_0f7a4_41 (x := pc_bc4 (pc_bc3 (pc_bc2 (pc_bc1 x)))) rfl rfl ?_
  refine vv_iload_n (q := 43) hC dJ6_bitCount_0f7a4_42 (x := pc_bc4 (pc_bc3 (pc_bc2 (pc_bc1 x)))) rfl rfl ?_
  refine vv_bipush (q := 45) hC (nI 16) dJ6_bitCount_0f7a4_43 (by decide) rfl ?_
  refine vv_iushr (x := pc_bc4 (pc_bc3 (pc_bc2 (pc_bc1 x)))) (y := nI (16)) (q := 46) hC dJ6_bitCount_0f7a4_45 rfl ?_
  refine vv_iadd (x := pc_bc4 (pc_bc3 (pc_bc2 (pc_bc1 x)))) (y := pc_ushr (pc_bc4 (pc_bc3 (pc_bc2 (pc_bc1 x)))) (nI (16))) (q := 47) hC dJ6_bitCount_0f7a4_46 rfl ?_
  refine vv_istore_n (L' := [(0, .int ((pc_bc4 (pc_bc3 (pc_bc2 (pc_bc1 x)))) + (pc_ushr (pc_bc4 (pc_bc3 (pc_bc2 (pc_bc1 x)))) (nI (16)))))]) (q := 48) hC dJ6_bitCount_0f7a4_47 (by decide) rfl rfl rfl ?_
  refine vv_loc (L' := [(0, .int (pc_bc5 (pc_bc4 (pc_bc3 (pc_bc2 (pc_bc1 x))))))]) (rfl) ?_
  refine vv_iload_n (q := 49) hC dJ6_bitCount_0f7a4_48 (x := pc_bc5 (pc_bc4 (pc_bc3 (pc_bc2 (pc_bc1 x))))) rfl rfl ?_
  refine vv_bipush (q := 51) hC (nI 63) dJ6_bitCount_0f7a4_49 (by decide) rfl ?_
  refine vv_iand (x := pc_bc5 (pc_bc4 (pc_bc3 (pc_bc2 (pc_bc1 x))))) (y := nI (63)) (q := 52) hC dJ6_bitCount_0f7a4_51 rfl ?_
  refine vv_iret (v := (pc_bc5 (pc_bc4 (pc_bc3 (pc_bc2 (pc_bc1 x))))) &&& (nI (63))) hC dJ6_bitCount_0f7a4_52 ?_
  rw [hp]
  exact ⟨rfl, rfl⟩
set_option maxRecDepth 100000 in
set_option maxHeartbeats 4000000 in
theorem cm_X0_isThere (l : Launch) (Y : vv_Y) (n : Nat) (hY : pc_sys Y n) (σ : vv_S) (m : Nat) (s : Nat) (hm : m < n) (hs : s < 24) : vv_M l Y yX0_isThere wsX0_isThere { frames := 1, cells := 0, slots := 0, locals := 23 } [.ref (Y.2.1 (pc_d m)), .int (nI (s))] σ (vv_R (.int (vv_B (pc_there σ m s))) σ) := by
  refine vv_M.of (cc := cX0_isThere) (maxL := 2) (ret := (some .boolean)) hY.ok (by decide) rfl (Nat.le_of_ble_eq_true rfl) ?_
  intro Z hl hp hC
  subst hl
  have hi_X0 : ∀ w ∈ u_ws RX0 TX0 6, w ∈ wsX0_isThere := by decide +kernel
  have hf_torn : Cond.fieldLink RX0 18 "ParityRow$Disk" (TX0 2).2.1 (TX0 2).2.2.1 ∈ wsX0_isThere := by decide +kernel
  have hf_sums : Cond.fieldLink RX0 15 "ParityRow$Disk" (TX0 1).2.1 (TX0 1).2.2.1 ∈ wsX0_isThere := by decide +kernel
  have hf_words : Cond.fieldLink RX0 9 "ParityRow$Disk" (TX0 0).2.1 (TX0 0).2.2.1 ∈ wsX0_isThere := by decide +kernel
  have hlo := hY.lo
  have hhi := hY.hi
  refine vv_loc (L' := [(0, .ref (Y.2.1 (pc_d m))), (1, .int (nI (s)))]) rfl ?_
  refine vv_aload_n (q := 1) hC dX0_isThere_0 (x := Y.2.1 (pc_d m)) rfl rfl ?_
  refine vv_iload_n (q := 2) hC dX0_isThere_1 (x := nI (s)) rfl rfl ?_
  refine vv_callV (n := 1) (k := pc_d m) (As := [.int (nI (s))]) (st := []) (q := 5) hC (hY.kd (j := 0) (by omega) (by decide)) (hY.D _) (by rw [hY.cl]; rfl) (cm_X0_isOn _ Y n hY σ m s (by omega) (by omega)) gX0_isThere_X0_isOn rfl (by decide +kernel) dX0_isThere_2 rfl rfl rfl (vv_kR ?_)
  refine vv_ifB_eq (b := nI s < σ (pc_d m) 4) (q := 8) (tgt := 41) hC dX0_isThere_5 (by decide) rfl (fun c_5 => ?_) (fun c_5 => ?_)
  · refine vv_iconst (q := 42) hC (nI 0) dX0_isThere_41 (by decide) rfl ?_
    refine vv_zret (v := nI (0)) hC (by first | rfl | decide) dX0_isThere_42 ?_
    rw [hp]
    exact ⟨congrArg (fun z => some (Value.int z)) (vv_B0 (by grind)).symm, rfl⟩
  · refine vv_aload_n (q := 9) hC dX0_isThere_8 (x := Y.2.1 (pc_d m)) rfl rfl ?_
    refine pc_gD (q := 12) hY hC (by omega) 2 hi_X0 hf_torn (by decide) rfl (v := .ref (Y.2.1 (pc_d m + 3))) rfl dX0_isThere_9 rfl ?_
    refine vv_iload_n (q := 13) hC dX0_isThere_12 (x := nI (s)) rfl rfl ?_
    refine pc_ld_dt (q := 14) hY hC (by omega) (i := s) (by omega) dX0_isThere_13 rfl ?_
    refine vv_if_ne (x := σ (pc_d m + 3) s) (q := 17) (tgt := 41) hC dX0_isThere_14 (by decide) rfl (fun c_14 => ?_) (fun c_14 => ?_)
    · refine vv_iconst (q := 42) hC (nI 0) dX0_isThere_41 (by decide) rfl ?_
      refine vv_zret (v := nI (0)) hC (by first | rfl | decide) dX0_isThere_42 ?_
      rw [hp]
      exact ⟨congrArg (fun z => some (Value.int z)) (vv_B0 (by grind)).symm, rfl⟩
    · refine vv_aload_n (q := 18) hC dX0_isThere_17 (x := Y.2.1 (pc_d m)) rfl rfl ?_
      refine pc_gD (q := 21) hY hC (by omega) 1 hi_X0 hf_sums (by decide) rfl (v := .ref (Y.2.1 (pc_d m + 2))) rfl dX0_isThere_18 rfl ?_
      refine vv_iload_n (q := 22) hC dX0_isThere_21 (x := nI (s)) rfl rfl ?_
      refine pc_ld_ds (q := 23) hY hC (by omega) (i := s) (by omega) dX0_isThere_22 rfl ?_
      refine vv_aload_n (q := 24) hC dX0_isThere_23 (x := Y.2.1 (pc_d m)) rfl rfl ?_
      refine pc_gD (q := 27) hY hC (by omega) 0 hi_X0 hf_words (by decide) rfl (v := .ref (Y.2.1 (pc_d m + 1))) rfl dX0_isThere_24 rfl ?_
      refine vv_iload_n (q := 28) hC dX0_isThere_27 (x := nI (s)) rfl rfl ?_
      refine vv_bipush (q := 30) hC (nI 8) dX0_isThere_28 (by decide) rfl ?_
      refine vv_mulN (x := s) (y := 8) (q := 31) hC dX0_isThere_30 rfl ?_
      refine vv_callS (n := 2) (As := [.ref (Y.2.1 (pc_d m + 1)), .int (nI (s * 8))]) (st := [.int (σ (pc_d m + 2) s)]) (q := 34) hC (cm_X0_sumOf _ Y n hY σ (pc_d m + 1) (s * 8) (pc_rw_dw hm) (by rw [pc_len_dw]; omega)) gX0_isThere_X0_sumOf rfl (by decide +kernel) dX0_isThere_31 rfl rfl rfl (vv_kR ?_)
      refine vv_icmp_ne (x := σ (pc_d m + 2) s) (y := pc_sum (σ (pc_d m + 1)) (s * 8) 8) (q := 37) (tgt := 41) hC dX0_isThere_34 (by decide) rfl (fun c_34 => ?_) (fun c_34 => ?_)
      · refine vv_iconst (q := 42) hC (nI 0) dX0_isThere_41 (by decide) rfl ?_
        refine vv_zret (v := nI (0)) hC (by first | rfl | decide) dX0_isThere_42 ?_
        rw [hp]
        exact ⟨congrArg (fun z => some (Value.int z)) (vv_B0 (by grind)).symm, rfl⟩
      · refine vv_iconst (q := 38) hC (nI 1) dX0_isThere_37 (by decide) rfl ?_
        refine vv_goto (tgt := 42) hC dX0_isThere_38 (by decide) ?_
        refine vv_zret (v := nI (1)) hC (by first | rfl | decide) dX0_isThere_42 ?_
        rw [hp]
        exact ⟨congrArg (fun z => some (Value.int z)) (vv_B1 (by grind)).symm, rfl⟩
set_option maxRecDepth 100000 in
set_option maxHeartbeats 4000000 in
theorem cm_X0_forgetBuilding (l : Launch) (Y : vv_Y) (n : Nat) (hY : pc_sys Y n) (σ : vv_S) (m : Nat) (hm : m < n) : vv_M l Y yX0_forgetBuilding wsX0_forgetBuilding { frames := 0, cells := 0, slots := 0, locals := 0 } [.ref (Y.2.1 (pc_d m))] σ (vv_Rv (if σ (pc_d m) 3 = nI 2 then vv_up σ (pc_d m) 4 (nI 0) else σ)) := by
  refine vv_M.of (cc := cX0_forgetBuilding) (maxL := 1) (ret := none) hY.ok (by decide) rfl (Nat.le_of_ble_eq_true rfl) ?_
  intro Z hl hp hC
  subst hl
  have hi_X0 : ∀ w ∈ u_ws RX0 TX0 6, w ∈ wsX0_forgetBuilding := by decide +kernel
  have hf_state : Cond.fieldLink RX0 22 "ParityRow$Disk" (TX0 3).2.1 (TX0 3).2.2.1 ∈ wsX0_forgetBuilding := by decide +kernel
  have hf_built : Cond.fieldLink RX0 26 "ParityRow$Disk" (TX0 4).2.1 (TX0 4).2.2.1 ∈ wsX0_forgetBuilding := by decide +kernel
  have hlo := hY.lo
  have hhi := hY.hi
  refine vv_loc (L' := [(0, .ref (Y.2.1 (pc_d m)))]) rfl ?_
  refine vv_aload_n (q := 1) hC dX0_forgetBuilding_0 (x := Y.2.1 (pc_d m)) rfl rfl ?_
  refine pc_gD (q := 4) hY hC (by omega) 3 hi_X0 hf_state (by decide) rfl (v := .int (σ (pc_d m) 3)) rfl dX0_forgetBuilding_1 rfl ?_
  refine vv_iconst (q := 5) hC (nI 2) dX0_forgetBuilding_4 (by decide) rfl ?_
  refine vv_icmp_ne (x := σ (pc_d m) 3) (y := nI (2)) (q := 8) (tgt := 13) hC dX0_forgetBuilding_5 (by decide) rfl (fun c_5 => ?_) (fun c_5 => ?_)
  · refine vv_vret hC dX0_forgetBuilding_13 ?_
    rw [hp]
    first | exact ⟨rfl, (if_neg c_5).symm⟩ | exact ⟨rfl, (if_pos c_5).symm⟩
  · refine vv_aload_n (q := 9) hC dX0_forgetBuilding_8 (x := Y.2.1 (pc_d m)) rfl rfl ?_
    refine vv_iconst (q := 10) hC (nI 0) dX0_forgetBuilding_9 (by decide) rfl ?_
    refine pc_pD (q := 13) hY hC (by omega) 4 hi_X0 hf_built (by decide) rfl rfl (x := nI (0)) (ty := .int) (by decide +kernel) rfl rfl (fun _ => rfl) dX0_forgetBuilding_10 rfl ?_
    refine vv_vret hC dX0_forgetBuilding_13 ?_
    rw [hp]
    first | exact ⟨rfl, (if_neg c_5).symm⟩ | exact ⟨rfl, (if_pos c_5).symm⟩
set_option maxRecDepth 100000 in
set_option maxHeartbeats 4000000 in
theorem cm_X1_begin (l : Launch) (Y : vv_Y) (n : Nat) (hY : pc_sys Y n) (σ : vv_S) (e : Nat) (s : Nat) (he : e < 11) : vv_M l Y yX1_begin wsX1_begin { frames := 0, cells := 0, slots := 0, locals := 0 } [.ref (Y.2.1 (pc_e e)), .int (nI (s))] σ (vv_Rv (vv_up (vv_up σ (pc_e e) 1 (nI s)) (pc_e e) 2 (nI 0))) := by
  refine vv_M.of (cc := cX1_begin) (maxL := 2) (ret := none) hY.ok (by decide) rfl (Nat.le_of_ble_eq_true rfl) ?_
  intro Z hl hp hC
  subst hl
  have hi_X1 : ∀ w ∈ u_ws RX1 TX1 4, w ∈ wsX1_begin := by decide +kernel
  have hf_stripe : Cond.fieldLink RX1 9 "ParityRow$Entry" (TX1 1).2.1 (TX1 1).2.2.1 ∈ wsX1_begin := by decide +kernel
  have hf_parts : Cond.fieldLink RX1 15 "ParityRow$Entry" (TX1 2).2.1 (TX1 2).2.2.1 ∈ wsX1_begin := by decide +kernel
  have hlo := hY.lo
  have hhi := hY.hi
  refine vv_loc (L' := [(0, .ref (Y.2.1 (pc_e e))), (1, .int (nI (s)))]) rfl ?_
  refine vv_aload_n (q := 1) hC dX1_begin_0 (x := Y.2.1 (pc_e e)) rfl rfl ?_
  refine vv_iload_n (q := 2) hC dX1_begin_1 (x := nI (s)) rfl rfl ?_
  refine pc_pE (q := 5) hY hC (by omega) 1 hi_X1 hf_stripe (by decide) rfl rfl (x := nI (s)) (ty := .int) (by decide +kernel) rfl rfl (fun _ => rfl) dX1_begin_2 rfl ?_
  refine vv_aload_n (q := 6) hC dX1_begin_5 (x := Y.2.1 (pc_e e)) rfl rfl ?_
  refine vv_iconst (q := 7) hC (nI 0) dX1_begin_6 (by decide) rfl ?_
  refine pc_pE (q := 10) hY hC (by omega) 2 hi_X1 hf_parts (by decide) rfl rfl (x := nI (0)) (ty := .int) (by decide +kernel) rfl rfl (fun _ => rfl) dX1_begin_7 rfl ?_
  refine vv_vret hC dX1_begin_10 ?_
  rw [hp]
  exact ⟨rfl, rfl⟩
set_option maxRecDepth 100000 in
set_option maxHeartbeats 4000000 in
theorem cm_X1_has (l : Launch) (Y : vv_Y) (n : Nat) (hY : pc_sys Y n) (σ : vv_S) (e : Nat) (p : Nat) (he : e < 11) : vv_M l Y yX1_has wsX1_has { frames := 0, cells := 0, slots := 0, locals := 0 } [.ref (Y.2.1 (pc_e e)), .int (nI (p))] σ (vv_R (.int (vv_B (pc_bit (σ (pc_e e) 2) p))) σ) := by
  refine vv_M.of (cc := cX1_has) (maxL := 2) (ret := (some .boolean)) hY.ok (by decide) rfl (Nat.le_of_ble_eq_true rfl) ?_
  intro Z hl hp hC
  subst hl
  have hi_X1 : ∀ w ∈ u_ws RX1 TX1 4, w ∈ wsX1_has := by decide +kernel
  have hf_parts : Cond.fieldLink RX1 15 "ParityRow$Entry" (TX1 2).2.1 (TX1 2).2.2.1 ∈ wsX1_has := by decide +kernel
  have hlo := hY.lo
  have hhi := hY.hi
  refine vv_loc (L' := [(0, .ref (Y.2.1 (pc_e e))), (1, .int (nI (p)))]) rfl ?_
  refine vv_aload_n (q := 1) hC dX1_has_0 (x := Y.2.1 (pc_e e)) rfl rfl ?_
  refine pc_gE (q := 4) hY hC (by omega) 2 hi_X1 hf_parts (by decide) rfl (v := .int (σ (pc_e e) 2)) rfl dX1_has_1 rfl ?_
  refine vv_iload_n (q := 5) hC dX1_has_4 (x := nI (p)) rfl rfl ?_
  refine vv_ishr (x := σ (pc_e e) 2) (y := nI (p)) (q := 6) hC dX1_has_5 rfl ?_
  refine vv_iconst (q := 7) hC (nI 1) dX1_has_6 (by decide) rfl ?_
  refine vv_iand (x := (σ (pc_e e) 2) >>> ((nI (p)) &&& 31)) (y := nI (1)) (q := 8) hC dX1_has_7 rfl ?_
  refine vv_iconst (q := 9) hC (nI 1) dX1_has_8 (by decide) rfl ?_
  refine vv_icmp_ne (x := ((σ (pc_e e) 2) >>> ((nI (p)) &&& 31)) &&& (nI (1))) (y := nI (1)) (q := 12) (tgt := 16) hC dX1_has_9 (by decide) rfl (fun c_9 => ?_) (fun c_9 => ?_)
  · refine vv_iconst (q := 17) hC (nI 0) dX1_has_16 (by decide) rfl ?_
    refine vv_zret (v := nI (0)) hC (by first | rfl | decide) dX1_has_17 ?_
    rw [hp]
    exact ⟨congrArg (fun z => some (Value.int z)) (vv_B0 (by grind)).symm, rfl⟩
  · refine vv_iconst (q := 13) hC (nI 1) dX1_has_12 (by decide) rfl ?_
    refine vv_goto (tgt := 17) hC dX1_has_13 (by decide) ?_
    refine vv_zret (v := nI (1)) hC (by first | rfl | decide) dX1_has_17 ?_
    rw [hp]
    exact ⟨congrArg (fun z => some (Value.int z)) (vv_B1 (by grind)).symm, rfl⟩
set_option maxRecDepth 100000 in
set_option maxHeartbeats 4000000 in
theorem cm_X1_cells (l : Launch) (Y : vv_Y) (n : Nat) (hY : pc_sys Y n) (σ : vv_S) (e : Nat) (he : e < 11) : vv_M l Y yX1_cells wsX1_cells { frames := 1, cells := 0, slots := 0, locals := 20 } [.ref (Y.2.1 (pc_e e))] σ (vv_R (.int (pc_cells (σ (pc_e e) 2))) σ) := by
  refine vv_M.of (cc := cX1_cells) (maxL := 1) (ret := (some .int)) hY.ok (by decide) rfl (Nat.le_of_ble_eq_true rfl) ?_
  intro Z hl hp hC
  subst hl
  have hi_X1 : ∀ w ∈ u_ws RX1 TX1 4, w ∈ wsX1_cells := by decide +kernel
  have hf_parts : Cond.fieldLink RX1 15 "ParityRow$Entry" (TX1 2).2.1 (TX1 2).2.2.1 ∈ wsX1_cells := by decide +kernel
  have hlo := hY.lo
  have hhi := hY.hi
  refine vv_loc (L' := [(0, .ref (Y.2.1 (pc_e e)))]) rfl ?_
  refine vv_aload_n (q := 1) hC dX1_cells_0 (x := Y.2.1 (pc_e e)) rfl rfl ?_
  refine pc_gE (q := 4) hY hC (by omega) 2 hi_X1 hf_parts (by decide) rfl (v := .int (σ (pc_e e) 2)) rfl dX1_cells_1 rfl ?_
  refine vv_callS (n := 1) (As := [.int (σ (pc_e e) 2)]) (st := []) (q := 7) hC (cm_J6_bitCount_0f7a4 _ Y n hY σ (σ (pc_e e) 2) ) gX1_cells_J6_bitCount_0f7a4 rfl (by decide +kernel) dX1_cells_4 rfl rfl rfl (vv_kR ?_)
  refine vv_iconst (q := 8) hC (nI 2) dX1_cells_7 (by decide) rfl ?_
  refine vv_iadd (x := pc_bc (σ (pc_e e) 2)) (y := nI (2)) (q := 9) hC dX1_cells_8 rfl ?_
  refine vv_iret (v := (pc_bc (σ (pc_e e) 2)) + (nI (2))) hC dX1_cells_9 ?_
  rw [hp]
  exact ⟨congrArg (fun z => some (Value.int z)) (by first | rfl | grind), rfl⟩
set_option maxRecDepth 100000 in
set_option maxHeartbeats 4000000 in
theorem cm_X2_entry (l : Launch) (Y : vv_Y) (n : Nat) (hY : pc_sys Y n) (σ : vv_S) (o : Nat) (k : Nat) (ho : σ 2 1 = nI o) (ho11 : o < 11) (hk : k ≤ 10) : vv_M l Y yX2_entry wsX2_entry { frames := 0, cells := 0, slots := 0, locals := 0 } [.ref (Y.2.1 (2)), .int (nI (k))] σ (vv_R (.ref (Y.2.1 (pc_e (pc_re o k)))) σ) := by
  refine vv_M.of (cc := cX2_entry) (maxL := 2) (ret := (some (.object "ParityRow$Entry"))) hY.ok (by decide) rfl (Nat.le_of_ble_eq_true rfl) ?_
  intro Z hl hp hC
  subst hl
  have hi_X2 : ∀ w ∈ u_ws RX2 TX2 6, w ∈ wsX2_entry := by decide +kernel
  have hf_slots : Cond.fieldLink RX2 11 "ParityRow$Journal" (TX2 0).2.1 (TX2 0).2.2.1 ∈ wsX2_entry := by decide +kernel
  have hf_oldest : Cond.fieldLink RX2 17 "ParityRow$Journal" (TX2 1).2.1 (TX2 1).2.2.1 ∈ wsX2_entry := by decide +kernel
  have hlo := hY.lo
  have hhi := hY.hi
  refine vv_loc (L' := [(0, .ref (Y.2.1 (2))), (1, .int (nI (k)))]) rfl ?_
  refine vv_aload_n (q := 1) hC dX2_entry_0 (x := Y.2.1 (2)) rfl rfl ?_
  refine pc_gJ (q := 4) hY hC 0 hi_X2 hf_slots (by decide) rfl (v := .ref (Y.2.1 (3))) rfl dX2_entry_1 rfl ?_
  refine vv_aload_n (q := 5) hC dX2_entry_4 (x := Y.2.1 (2)) rfl rfl ?_
  refine pc_gJ (q := 8) hY hC 1 hi_X2 hf_oldest (by decide) rfl (v := .int (σ 2 1)) rfl dX2_entry_5 rfl ?_
  refine vv_top (y := nI (o)) (ho) ?_
  refine vv_iload_n (q := 9) hC dX2_entry_8 (x := nI (k)) rfl rfl ?_
  refine vv_addN (x := o) (y := k) (q := 10) hC dX2_entry_9 rfl ?_
  refine vv_bipush (q := 12) hC (nI 11) dX2_entry_10 (by decide) rfl ?_
  refine vv_remN (x := o + k) (y := 11) (q := 13) hC dX2_entry_12 (by omega) (by omega) (by omega) rfl ?_
  refine pc_ld_slots (q := 14) (e := (o + k) % 11) hY hC (Nat.mod_lt _ (by decide)) dX2_entry_13 rfl ?_
  refine vv_aret (v := .ref (Y.2.1 (pc_e ((o + k) % 11)))) hC (Or.inr ⟨_, rfl⟩) dX2_entry_14 ?_
  rw [hp]
  exact ⟨rfl, rfl⟩
set_option maxRecDepth 100000 in
set_option maxHeartbeats 4000000 in
theorem cm_X2_made (l : Launch) (Y : vv_Y) (n : Nat) (hY : pc_sys Y n) (σ : vv_S) (o : Nat) (r : Nat) (ho : σ 2 1 = nI o) (ho11 : o < 11) (hr : σ 2 2 = nI r) (hr10 : r ≤ 10) : vv_M l Y yX2_made wsX2_made { frames := 1, cells := 0, slots := 0, locals := 21 } [.ref (Y.2.1 (2))] σ (vv_R (.ref (Y.2.1 (pc_e (pc_re o r)))) σ) := by
  refine vv_M.of (cc := cX2_made) (maxL := 1) (ret := (some (.object "ParityRow$Entry"))) hY.ok (by decide) rfl (Nat.le_of_ble_eq_true rfl) ?_
  intro Z hl hp hC
  subst hl
  have hi_X2 : ∀ w ∈ u_ws RX2 TX2 6, w ∈ wsX2_made := by decide +kernel
  have hf_records : Cond.fieldLink RX2 21 "ParityRow$Journal" (TX2 2).2.1 (TX2 2).2.2.1 ∈ wsX2_made := by decide +kernel
  have hlo := hY.lo
  have hhi := hY.hi
  refine vv_loc (L' := [(0, .ref (Y.2.1 (2)))]) rfl ?_
  refine vv_aload_n (q := 1) hC dX2_made_0 (x := Y.2.1 (2)) rfl rfl ?_
  refine vv_aload_n (q := 2) hC dX2_made_1 (x := Y.2.1 (2)) rfl rfl ?_
  refine pc_gJ (q := 5) hY hC 2 hi_X2 hf_records (by decide) rfl (v := .int (σ 2 2)) rfl dX2_made_2 rfl ?_
  refine vv_top (y := nI (r)) (hr) ?_
  refine vv_callV (n := 1) (k := 2) (As := [.int (nI (r))]) (st := []) (q := 8) hC (hY.k (by decide)) (hY.J _) (by rw [hY.cl]; rfl) (cm_X2_entry _ Y n hY σ o r ho ho11 (by omega)) gX2_made_X2_entry rfl (by decide +kernel) dX2_made_5 rfl rfl rfl (vv_kR ?_)
  refine vv_aret (v := .ref (Y.2.1 (pc_e (pc_re o r)))) hC (Or.inr ⟨_, rfl⟩) dX2_made_8 ?_
  rw [hp]
  exact ⟨rfl, rfl⟩
set_option maxRecDepth 100000 in
set_option maxHeartbeats 4000000 in
theorem cm_X2_addMade (l : Launch) (Y : vv_Y) (n : Nat) (hY : pc_sys Y n) (σ : vv_S) (o : Nat) (r : Nat) (ho : σ 2 1 = nI o) (ho11 : o < 11) (hr : σ 2 2 = nI r) (hr10 : r ≤ 10) : vv_M l Y yX2_addMade wsX2_addMade { frames := 2, cells := 0, slots := 0, locals := 41 } [.ref (Y.2.1 (2))] σ (vv_Rv (vv_up (vv_up σ 2 3 (σ 2 3 + pc_cells (σ (pc_e (pc_re o r)) 2))) 2 2 (nI (r + 1)))) := by
  refine vv_M.of (cc := cX2_addMade) (maxL := 1) (ret := none) hY.ok (by decide) rfl (Nat.le_of_ble_eq_true rfl) ?_
  intro Z hl hp hC
  subst hl
  have hi_X2 : ∀ w ∈ u_ws RX2 TX2 6, w ∈ wsX2_addMade := by decide +kernel
  have hf_usedCells : Cond.fieldLink RX2 24 "ParityRow$Journal" (TX2 3).2.1 (TX2 3).2.2.1 ∈ wsX2_addMade := by decide +kernel
  have hf_records : Cond.fieldLink RX2 21 "ParityRow$Journal" (TX2 2).2.1 (TX2 2).2.2.1 ∈ wsX2_addMade := by decide +kernel
  have hlo := hY.lo
  have hhi := hY.hi
  refine vv_loc (L' := [(0, .ref (Y.2.1 (2)))]) rfl ?_
  refine vv_aload_n (q := 1) hC dX2_addMade_0 (x := Y.2.1 (2)) rfl rfl ?_
  refine vv_dup (q := 2) hC dX2_addMade_1 rfl rfl ?_
  refine pc_gJ (q := 5) hY hC 3 hi_X2 hf_usedCells (by decide) rfl (v := .int (σ 2 3)) rfl dX2_addMade_2 rfl ?_
  refine vv_aload_n (q := 6) hC dX2_addMade_5 (x := Y.2.1 (2)) rfl rfl ?_
  refine vv_callV (n := 0) (k := 2) (As := []) (st := [.int (σ 2 3), .ref (Y.2.1 (2))]) (q := 9) hC (hY.k (by decide)) (hY.J _) (by rw [hY.cl]; rfl) (cm_X2_made _ Y n hY σ o r ho ho11 hr hr10) gX2_addMade_X2_made rfl (by decide +kernel) dX2_addMade_6 rfl rfl rfl (vv_kR ?_)
  refine vv_callVN (n := 0) (k := pc_e (pc_re o r)) (As := []) (st := [.int (σ 2 3), .ref (Y.2.1 (2))]) (q := 12) hC (hY.ke (j := 0) (Nat.mod_lt _ (by decide)) (by decide)) (hY.E (Nat.mod_lt _ (by decide)) _) (by rw [hY.cl]; rfl) (cm_X1_cells _ Y n hY σ (pc_re o r) (Nat.mod_lt _ (by decide))) gX2_addMade_X1_cells_n44 rfl (hY.nw nw_X2_44) (by decide +kernel) (by decide +kernel) (by decide +kernel) (by decide +kernel) dX2_addMade_9 rfl rfl rfl (vv_kR ?_)
  refine vv_iadd (x := σ 2 3) (y := pc_cells (σ (pc_e (pc_re o r)) 2)) (q := 13) hC dX2_addMade_12 rfl ?_
  refine pc_pJ (q := 16) hY hC 3 hi_X2 hf_usedCells (by decide) rfl rfl (x := (σ 2 3) + (pc_cells (σ (pc_e (pc_re o r)) 2))) (ty := .int) (by decide +kernel) rfl rfl (fun _ => rfl) dX2_addMade_13 rfl ?_
  refine vv_aload_n (q := 17) hC dX2_addMade_16 (x := Y.2.1 (2)) rfl rfl ?_
  refine vv_dup (q := 18) hC dX2_addMade_17 rfl rfl ?_
  refine pc_gJ (q := 21) hY hC 2 hi_X2 hf_records (by decide) rfl (v := .int ((vv_up σ 2 3 ((σ 2 3) + (pc_cells (σ (pc_e (pc_re o r)) 2)))) 2 2)) rfl dX2_addMade_18 rfl ?_
  refine vv_top (y := nI (r)) (hr) ?_
  refine vv_iconst (q := 22) hC (nI 1) dX2_addMade_21 (by decide) rfl ?_
  refine vv_addN (x := r) (y := 1) (q := 23) hC dX2_addMade_22 rfl ?_
  refine pc_pJ (q := 26) hY hC 2 hi_X2 hf_records (by decide) rfl rfl (x := nI (r + 1)) (ty := .int) (by decide +kernel) rfl rfl (fun _ => rfl) dX2_addMade_23 rfl ?_
  refine vv_vret hC dX2_addMade_26 ?_
  rw [hp]
  exact ⟨rfl, rfl⟩
set_option maxRecDepth 100000 in
set_option maxHeartbeats 4000000 in
theorem cm_X2_freeCells (l : Launch) (Y : vv_Y) (n : Nat) (hY : pc_sys Y n) (σ : vv_S) : vv_M l Y yX2_freeCells wsX2_freeCells { frames := 0, cells := 0, slots := 0, locals := 0 } [.ref (Y.2.1 (2))] σ (vv_R (.int (nI 32 - σ 2 3)) σ) := by
  refine vv_M.of (cc := cX2_freeCells) (maxL := 1) (ret := (some .int)) hY.ok (by decide) rfl (Nat.le_of_ble_eq_true rfl) ?_
  intro Z hl hp hC
  subst hl
  have hi_X2 : ∀ w ∈ u_ws RX2 TX2 6, w ∈ wsX2_freeCells := by decide +kernel
  have hf_usedCells : Cond.fieldLink RX2 24 "ParityRow$Journal" (TX2 3).2.1 (TX2 3).2.2.1 ∈ wsX2_freeCells := by decide +kernel
  have hlo := hY.lo
  have hhi := hY.hi
  refine vv_loc (L' := [(0, .ref (Y.2.1 (2)))]) rfl ?_
  refine vv_bipush (q := 2) hC (nI 32) dX2_freeCells_0 (by decide) rfl ?_
  refine vv_aload_n (q := 3) hC dX2_freeCells_2 (x := Y.2.1 (2)) rfl rfl ?_
  refine pc_gJ (q := 6) hY hC 3 hi_X2 hf_usedCells (by decide) rfl (v := .int (σ 2 3)) rfl dX2_freeCells_3 rfl ?_
  refine vv_isub (x := nI (32)) (y := σ 2 3) (q := 7) hC dX2_freeCells_6 rfl ?_
  refine vv_iret (v := (nI (32)) - (σ 2 3)) hC dX2_freeCells_7 ?_
  rw [hp]
  exact ⟨congrArg (fun z => some (Value.int z)) (by first | rfl | grind), rfl⟩
set_option maxRecDepth 100000 in
set_option maxHeartbeats 4000000 in
theorem cm_X2_nextSerial (l : Launch) (Y : vv_Y) (n : Nat) (hY : pc_sys Y n) (σ : vv_S) : vv_M l Y yX2_nextSerial wsX2_nextSerial { frames := 0, cells := 0, slots := 0, locals := 0 } [.ref (Y.2.1 (2))] σ (vv_R (.int (σ 2 5 + σ 2 2)) σ) := by
  refine vv_M.of (cc := cX2_nextSerial) (maxL := 1) (ret := (some .int)) hY.ok (by decide) rfl (Nat.le_of_ble_eq_true rfl) ?_
  intro Z hl hp hC
  subst hl
  have hi_X2 : ∀ w ∈ u_ws RX2 TX2 6, w ∈ wsX2_nextSerial := by decide +kernel
  have hf_markSerial : Cond.fieldLink RX2 30 "ParityRow$Journal" (TX2 5).2.1 (TX2 5).2.2.1 ∈ wsX2_nextSerial := by decide +kernel
  have hf_records : Cond.fieldLink RX2 21 "ParityRow$Journal" (TX2 2).2.1 (TX2 2).2.2.1 ∈ wsX2_nextSerial := by decide +kernel
  have hlo := hY.lo
  have hhi := hY.hi
  refine vv_loc (L' := [(0, .ref (Y.2.1 (2)))]) rfl ?_
  refine vv_aload_n (q := 1) hC dX2_nextSerial_0 (x := Y.2.1 (2)) rfl rfl ?_
  refine pc_gJ (q := 4) hY hC 5 hi_X2 hf_markSerial (by decide) rfl (v := .int (σ 2 5)) rfl dX2_nextSerial_1 rfl ?_
  refine vv_aload_n (q := 5) hC dX2_nextSerial_4 (x := Y.2.1 (2)) rfl rfl ?_
  refine pc_gJ (q := 8) hY hC 2 hi_X2 hf_records (by decide) rfl (v := .int (σ 2 2)) rfl dX2_nextSerial_5 rfl ?_
  refine vv_iadd (x := σ 2 5) (y := σ 2 2) (q := 9) hC dX2_nextSerial_8 rfl ?_
  refine vv_iret (v := (σ 2 5) + (σ 2 2)) hC dX2_nextSerial_9 ?_
  rw [hp]
  exact ⟨congrArg (fun z => some (Value.int z)) (by first | rfl | grind), rfl⟩
set_option maxRecDepth 100000 in
set_option maxHeartbeats 4000000 in
theorem cm_X2_latestWith (l : Launch) (Y : vv_Y) (n : Nat) (hY : pc_sys Y n) (σ : vv_S) (o : Nat) (r : Nat) (s : Nat) (p : Nat) (ho : σ 2 1 = nI o) (ho11 : o < 11) (hr : σ 2 2 = nI r) (hr10 : r ≤ 10) : vv_M l Y yX2_latestWith wsX2_latestWith { frames := 1, cells := 0, slots := 0, locals := 21 } [.ref (Y.2.1 (2)), .int (nI (s)), .int (nI (p))] σ (vv_R (va_rf ((pc_lat σ o s p r).map (fun e => Y.2.1 (pc_e e)))) σ) := by
  refine vv_M.of (cc := cX2_latestWith) (maxL := 5) (ret := (some (.object "ParityRow$Entry"))) hY.ok (by decide) rfl (Nat.le_of_ble_eq_true rfl) ?_
  intro Z hl hp hC
  subst hl
  have hi_X1 : ∀ w ∈ u_ws RX1 TX1 4, w ∈ wsX2_latestWith := by decide +kernel
  have hi_X2 : ∀ w ∈ u_ws RX2 TX2 6, w ∈ wsX2_latestWith := by decide +kernel
  have hf_records : Cond.fieldLink RX2 21 "ParityRow$Journal" (TX2 2).2.1 (TX2 2).2.2.1 ∈ wsX2_latestWith := by decide +kernel
  have hlo := hY.lo
  have hhi := hY.hi
  refine vv_loc (L' := [(0, .ref (Y.2.1 (2))), (1, .int (nI (s))), (2, .int (nI (p)))]) rfl ?_
  refine vv_aload_n (q := 1) hC dX2_latestWith_0 (x := Y.2.1 (2)) rfl rfl ?_
  refine pc_gJ (q := 4) hY hC 2 hi_X2 hf_records (by decide) rfl (v := .int (σ 2 2)) rfl dX2_latestWith_1 rfl ?_
  refine vv_top (y := nI (r)) (hr) ?_
  refine vv_iconst (q := 5) hC (nI 1) dX2_latestWith_4 (by decide) rfl ?_
  refine vv_isub (x := nI (r)) (y := nI (1)) (q := 6) hC dX2_latestWith_5 rfl ?_
  refine vv_istore_n (L' := [(0, .ref (Y.2.1 (2))), (1, .int (nI (s))), (2, .int (nI (p))), (3, .int ((nI (r)) - (nI (1))))]) (q := 7) hC dX2_latestWith_6 (by decide) rfl rfl rfl ?_
  have lp_7 : ∀ j : Nat, (j ≤ r) → (pc_lat σ o s p r = pc_lat σ o s p j) → vv_V Y 5 Z σ 7 [(0, .ref (Y.2.1 (2))), (1, .int (nI (s))), (2, .int (nI (p))), (3, .int (nI j - nI 1))] [] := by
    refine vv_ind (fun j => j) (fun j ih_7 => ?_)
    intro hj hv
    refine vv_iload_n (q := 8) hC dX2_latestWith_7 (x := nI j - nI 1) rfl rfl ?_
    refine vv_if_lt (x := nI j - nI 1) (q := 11) (tgt := 45) hC dX2_latestWith_8 (by decide) rfl (fun c_8 => ?_) (fun c_8 => ?_)
    · refine vv_null (q := 46) hC dX2_latestWith_45 rfl ?_
      refine vv_aret (v := .null) hC (Or.inl rfl) dX2_latestWith_46 ?_
      rw [hp]
      rw [hv, (pc_jm1 (by omega)).mp c_8]
      exact ⟨rfl, rfl⟩
    · have hj0 : 0 < j := Nat.pos_of_ne_zero (fun z => c_8 ((pc_jm1 (by omega)).mpr z))
      refine vv_loc (L' := [(0, .ref (Y.2.1 (2))), (1, .int (nI (s))), (2, .int (nI (p))), (3, .int (nI (j - 1)))]) (by rw [pk_sub (by omega)]) ?_
      refine vv_aload_n (q := 12) hC dX2_latestWith_11 (x := Y.2.1 (2)) rfl rfl ?_
      refine vv_iload_n (q := 13) hC dX2_latestWith_12 (x := nI (j - 1)) rfl rfl ?_
      refine vv_callV (n := 1) (k := 2) (As := [.int (nI (j - 1))]) (st := []) (q := 16) hC (hY.k (by decide)) (hY.J _) (by rw [hY.cl]; rfl) (cm_X2_entry _ Y n hY σ o (j - 1) ho ho11 (by omega)) gX2_latestWith_X2_entry rfl (by decide +kernel) dX2_latestWith_13 rfl rfl rfl (vv_kR ?_)
      refine vv_astore (L' := [(0, .ref (Y.2.1 (2))), (1, .int (nI (s))), (2, .int (nI (p))), (3, .int (nI (j - 1))), (4, .ref (Y.2.1 (pc_e (pc_re o (j - 1)))))]) (q := 18) hC dX2_latestWith_16 (by decide) rfl rfl rfl ?_
      refine vv_aload (q := 20) hC dX2_latestWith_18 (x := Y.2.1 (pc_e (pc_re o (j - 1)))) rfl rfl ?_
      refine pc_gEN (q := 23) hY hC (Nat.mod_lt _ (by decide)) 1 hi_X1 nw_X2_48 (by decide) rfl (v := .int (σ (pc_e (pc_re o (j - 1))) 1)) rfl dX2_latestWith_20 rfl ?_
      refine vv_iload_n (q := 24) hC dX2_latestWith_23 (x := nI (s)) rfl rfl ?_
      refine vv_icmp_ne (x := σ (pc_e (pc_re o (j - 1))) 1) (y := nI (s)) (q := 27) (tgt := 39) hC dX2_latestWith_24 (by decide) rfl (fun c_24 => ?_) (fun c_24 => ?_)
      · refine vv_iinc (L' := [(0, .ref (Y.2.1 (2))), (1, .int (nI (s))), (2, .int (nI (p))), (3, .int (nI (j - 1) - nI 1)), (4, .ref (Y.2.1 (pc_e (pc_re o (j - 1)))))]) (q := 42) hC (nI (j - 1) - nI 1) dX2_latestWith_39 rfl (pc_jdec) (by decide) rfl rfl rfl ?_
        refine vv_goto (tgt := 7) hC dX2_latestWith_42 (by decide) ?_
        refine vv_sub (L' := [(0, .ref (Y.2.1 (2))), (1, .int (nI (s))), (2, .int (nI (p))), (3, .int (nI (j - 1) - nI 1))]) (by simp) ?_
        exact ih_7 (j - 1) (by first | omega | (dsimp only; omega))  (by omega) (by rw [hv]; obtain ⟨j, rfl⟩ : ∃ i, j = i + 1 := ⟨j - 1, by omega⟩; exact if_neg (fun z => by first | exact c_24 z.1 | exact c_33 z.2))
      · refine vv_aload (q := 29) hC dX2_latestWith_27 (x := Y.2.1 (pc_e (pc_re o (j - 1)))) rfl rfl ?_
        refine vv_iload_n (q := 30) hC dX2_latestWith_29 (x := nI (p)) rfl rfl ?_
        refine vv_callVN (n := 1) (k := pc_e (pc_re o (j - 1))) (As := [.int (nI (p))]) (st := []) (q := 33) hC (hY.ke (j := 0) (Nat.mod_lt _ (by decide)) (by decide)) (hY.E (Nat.mod_lt _ (by decide)) _) (by rw [hY.cl]; rfl) (cm_X1_has _ Y n hY σ (pc_re o (j - 1)) p (Nat.mod_lt _ (by decide))) gX2_latestWith_X1_has_n51 rfl (hY.nw nw_X2_51) (by decide +kernel) (by decide +kernel) (by decide +kernel) (by decide +kernel) dX2_latestWith_30 rfl rfl rfl (vv_kR ?_)
        refine vv_ifB_eq (b := pc_bit (σ (pc_e (pc_re o (j - 1))) 2) p) (q := 36) (tgt := 39) hC dX2_latestWith_33 (by decide) rfl (fun c_33 => ?_) (fun c_33 => ?_)
        · refine vv_iinc (L' := [(0, .ref (Y.2.1 (2))), (1, .int (nI (s))), (2, .int (nI (p))), (3, .int (nI (j - 1) - nI 1)), (4, .ref (Y.2.1 (pc_e (pc_re o (j - 1)))))]) (q := 42) hC (nI (j - 1) - nI 1) dX2_latestWith_39 rfl (pc_jdec) (by decide) rfl rfl rfl ?_
          refine vv_goto (tgt := 7) hC dX2_latestWith_42 (by decide) ?_
          refine vv_sub (L' := [(0, .ref (Y.2.1 (2))), (1, .int (nI (s))), (2, .int (nI (p))), (3, .int (nI (j - 1) - nI 1))]) (by simp) ?_
          exact ih_7 (j - 1) (by first | omega | (dsimp only; omega))  (by omega) (by rw [hv]; obtain ⟨j, rfl⟩ : ∃ i, j = i + 1 := ⟨j - 1, by omega⟩; exact if_neg (fun z => by first | exact c_24 z.1 | exact c_33 z.2))
        · refine vv_aload (q := 38) hC dX2_latestWith_36 (x := Y.2.1 (pc_e (pc_re o (j - 1)))) rfl rfl ?_
          refine vv_aret (v := .ref (Y.2.1 (pc_e (pc_re o (j - 1))))) hC (Or.inr ⟨_, rfl⟩) dX2_latestWith_38 ?_
          rw [hp]
          rw [hv]
          obtain ⟨j, rfl⟩ : ∃ i, j = i + 1 := ⟨j - 1, by omega⟩
          exact ⟨by rw [show pc_lat σ o s p (j + 1) = some (pc_re o j) from if_pos ⟨c_24, c_33⟩]; rfl, rfl⟩
  exact lp_7 r (by omega) rfl
set_option maxRecDepth 100000 in
set_option maxHeartbeats 4000000 in
theorem cm_X2_recordsUpTo (l : Launch) (Y : vv_Y) (n : Nat) (hY : pc_sys Y n) (σ : vv_S) (o : Nat) (r : Nat) (s : Nat) (ho : σ 2 1 = nI o) (ho11 : o < 11) (hr : σ 2 2 = nI r) (hr10 : r ≤ 10) : vv_M l Y yX2_recordsUpTo wsX2_recordsUpTo { frames := 1, cells := 0, slots := 0, locals := 21 } [.ref (Y.2.1 (2)), .int (nI (s))] σ (vv_R (.int (nI (pc_upto σ o s r))) σ) := by
  refine vv_M.of (cc := cX2_recordsUpTo) (maxL := 4) (ret := (some .int)) hY.ok (by decide) rfl (Nat.le_of_ble_eq_true rfl) ?_
  intro Z hl hp hC
  subst hl
  have hi_X1 : ∀ w ∈ u_ws RX1 TX1 4, w ∈ wsX2_recordsUpTo := by decide +kernel
  have hi_X2 : ∀ w ∈ u_ws RX2 TX2 6, w ∈ wsX2_recordsUpTo := by decide +kernel
  have hf_records : Cond.fieldLink RX2 21 "ParityRow$Journal" (TX2 2).2.1 (TX2 2).2.2.1 ∈ wsX2_recordsUpTo := by decide +kernel
  have hlo := hY.lo
  have hhi := hY.hi
  refine vv_loc (L' := [(0, .ref (Y.2.1 (2))), (1, .int (nI (s)))]) rfl ?_
  refine vv_iconst (q := 1) hC (nI 0) dX2_recordsUpTo_0 (by decide) rfl ?_
  refine vv_istore_n (L' := [(0, .ref (Y.2.1 (2))), (1, .int (nI (s))), (2, .int (nI (0)))]) (q := 2) hC dX2_recordsUpTo_1 (by decide) rfl rfl rfl ?_
  refine vv_iconst (q := 3) hC (nI 0) dX2_recordsUpTo_2 (by decide) rfl ?_
  refine vv_istore_n (L' := [(0, .ref (Y.2.1 (2))), (1, .int (nI (s))), (2, .int (nI (0))), (3, .int (nI (0)))]) (q := 4) hC dX2_recordsUpTo_3 (by decide) rfl rfl rfl ?_
  have lp_4 : ∀ k : Nat, (k ≤ r) → vv_V Y 4 Z σ 4 [(0, .ref (Y.2.1 (2))), (1, .int (nI (s))), (2, .int (nI (pc_upto σ o s k))), (3, .int (nI (k)))] [] := by
    refine vv_ind (fun k => r - k) (fun k ih_4 => ?_)
    intro hk
    refine vv_iload_n (q := 5) hC dX2_recordsUpTo_4 (x := nI (k)) rfl rfl ?_
    refine vv_aload_n (q := 6) hC dX2_recordsUpTo_5 (x := Y.2.1 (2)) rfl rfl ?_
    refine pc_gJ (q := 9) hY hC 2 hi_X2 hf_records (by decide) rfl (v := .int (σ 2 2)) rfl dX2_recordsUpTo_6 rfl ?_
    refine vv_top (y := nI (r)) (hr) ?_
    refine vv_icmpN_ge (x := k) (y := r) (q := 12) (tgt := 34) hC dX2_recordsUpTo_9 (by decide) (by omega) (by omega) rfl (fun c_9 => ?_) (fun c_9 => ?_)
    · refine vv_iload_n (q := 35) hC dX2_recordsUpTo_34 (x := nI (pc_upto σ o s k)) rfl rfl ?_
      refine vv_iret (v := nI (pc_upto σ o s k)) hC dX2_recordsUpTo_35 ?_
      rw [hp]
      have ek : k = r := by omega
      subst ek
      exact ⟨rfl, rfl⟩
    · refine vv_aload_n (q := 13) hC dX2_recordsUpTo_12 (x := Y.2.1 (2)) rfl rfl ?_
      refine vv_iload_n (q := 14) hC dX2_recordsUpTo_13 (x := nI (k)) rfl rfl ?_
      refine vv_callV (n := 1) (k := 2) (As := [.int (nI (k))]) (st := []) (q := 17) hC (hY.k (by decide)) (hY.J _) (by rw [hY.cl]; rfl) (cm_X2_entry _ Y n hY σ o k ho ho11 (by omega)) gX2_recordsUpTo_X2_entry rfl (by decide +kernel) dX2_recordsUpTo_14 rfl rfl rfl (vv_kR ?_)
      refine pc_gEN (q := 20) hY hC (Nat.mod_lt _ (by decide)) 1 hi_X1 nw_X2_48 (by decide) rfl (v := .int (σ (pc_e (pc_re o k)) 1)) rfl dX2_recordsUpTo_17 rfl ?_
      refine vv_iload_n (q := 21) hC dX2_recordsUpTo_20 (x := nI (s)) rfl rfl ?_
      refine vv_icmp_ne (x := σ (pc_e (pc_re o k)) 1) (y := nI (s)) (q := 24) (tgt := 28) hC dX2_recordsUpTo_21 (by decide) rfl (fun c_21 => ?_) (fun c_21 => ?_)
      · refine vv_iincN (x := k) (L' := [(0, .ref (Y.2.1 (2))), (1, .int (nI (s))), (2, .int (nI (pc_upto σ o s k))), (3, .int (nI (k + 1)))]) (q := 31) hC dX2_recordsUpTo_28 rfl (by decide) rfl rfl rfl ?_
        refine vv_goto (tgt := 4) hC dX2_recordsUpTo_31 (by decide) ?_
        refine vv_loc (L' := [(0, .ref (Y.2.1 (2))), (1, .int (nI (s))), (2, .int (nI (pc_upto σ o s (k + 1)))), (3, .int (nI ((k + 1))))]) (by rw [show pc_upto σ o s (k + 1) = _ from by first | exact if_pos c_21 | exact if_neg c_21]) ?_
        exact ih_4 (k + 1) (by first | omega | (dsimp only; omega))  (by omega)
      · refine vv_iload_n (q := 25) hC dX2_recordsUpTo_24 (x := nI (k)) rfl rfl ?_
        refine vv_iconst (q := 26) hC (nI 1) dX2_recordsUpTo_25 (by decide) rfl ?_
        refine vv_addN (x := k) (y := 1) (q := 27) hC dX2_recordsUpTo_26 rfl ?_
        refine vv_istore_n (L' := [(0, .ref (Y.2.1 (2))), (1, .int (nI (s))), (2, .int (nI (k + 1))), (3, .int (nI (k)))]) (q := 28) hC dX2_recordsUpTo_27 (by decide) rfl rfl rfl ?_
        refine vv_iincN (x := k) (L' := [(0, .ref (Y.2.1 (2))), (1, .int (nI (s))), (2, .int (nI (k + 1))), (3, .int (nI (k + 1)))]) (q := 31) hC dX2_recordsUpTo_28 rfl (by decide) rfl rfl rfl ?_
        refine vv_goto (tgt := 4) hC dX2_recordsUpTo_31 (by decide) ?_
        refine vv_loc (L' := [(0, .ref (Y.2.1 (2))), (1, .int (nI (s))), (2, .int (nI (pc_upto σ o s (k + 1)))), (3, .int (nI ((k + 1))))]) (by rw [show pc_upto σ o s (k + 1) = _ from by first | exact if_pos c_21 | exact if_neg c_21]) ?_
        exact ih_4 (k + 1) (by first | omega | (dsimp only; omega))  (by omega)
  exact lp_4 0 (by omega)
set_option maxRecDepth 100000 in
set_option maxHeartbeats 4000000 in
theorem cm_X2_recordsToFree (l : Launch) (Y : vv_Y) (n : Nat) (hY : pc_sys Y n) (σ : vv_S) (o : Nat) (r : Nat) (c : Int32) (ho : σ 2 1 = nI o) (ho11 : o < 11) (hr : σ 2 2 = nI r) (hr10 : r ≤ 10) : vv_M l Y yX2_recordsToFree wsX2_recordsToFree { frames := 2, cells := 0, slots := 0, locals := 40 } [.ref (Y.2.1 (2)), .int (c)] σ (vv_R (.int (nI (pc_tf σ o r c r 0))) σ) := by
  refine vv_M.of (cc := cX2_recordsToFree) (maxL := 4) (ret := (some .int)) hY.ok (by decide) rfl (Nat.le_of_ble_eq_true rfl) ?_
  intro Z hl hp hC
  subst hl
  have hi_X2 : ∀ w ∈ u_ws RX2 TX2 6, w ∈ wsX2_recordsToFree := by decide +kernel
  have hf_records : Cond.fieldLink RX2 21 "ParityRow$Journal" (TX2 2).2.1 (TX2 2).2.2.1 ∈ wsX2_recordsToFree := by decide +kernel
  have hlo := hY.lo
  have hhi := hY.hi
  refine vv_loc (L' := [(0, .ref (Y.2.1 (2))), (1, .int (c))]) rfl ?_
  refine vv_aload_n (q := 1) hC dX2_recordsToFree_0 (x := Y.2.1 (2)) rfl rfl ?_
  refine vv_callV (n := 0) (k := 2) (As := []) (st := []) (q := 4) hC (hY.k (by decide)) (hY.J _) (by rw [hY.cl]; rfl) (cm_X2_freeCells _ Y n hY σ  ) gX2_recordsToFree_X2_freeCells rfl (by decide +kernel) dX2_recordsToFree_1 rfl rfl rfl (vv_kR ?_)
  refine vv_istore_n (L' := [(0, .ref (Y.2.1 (2))), (1, .int (c)), (2, .int (nI 32 - σ 2 3))]) (q := 5) hC dX2_recordsToFree_4 (by decide) rfl rfl rfl ?_
  refine vv_iconst (q := 6) hC (nI 0) dX2_recordsToFree_5 (by decide) rfl ?_
  refine vv_istore_n (L' := [(0, .ref (Y.2.1 (2))), (1, .int (c)), (2, .int (nI 32 - σ 2 3)), (3, .int (nI (0)))]) (q := 7) hC dX2_recordsToFree_6 (by decide) rfl rfl rfl ?_
  have lp_7 : ∀ k : Nat, (k ≤ r) → (pc_tf σ o r c r 0 = pc_tf σ o r c (r - k) k) → vv_V Y 4 Z σ 7 [(0, .ref (Y.2.1 (2))), (1, .int (c)), (2, .int (pc_free σ o k)), (3, .int (nI (k)))] [] := by
    refine vv_ind (fun k => r - k) (fun k ih_7 => ?_)
    intro hk hv
    refine vv_iload_n (q := 8) hC dX2_recordsToFree_7 (x := nI (k)) rfl rfl ?_
    refine vv_aload_n (q := 9) hC dX2_recordsToFree_8 (x := Y.2.1 (2)) rfl rfl ?_
    refine pc_gJ (q := 12) hY hC 2 hi_X2 hf_records (by decide) rfl (v := .int (σ 2 2)) rfl dX2_recordsToFree_9 rfl ?_
    refine vv_top (y := nI (r)) (hr) ?_
    refine vv_icmpN_ge (x := k) (y := r) (q := 15) (tgt := 37) hC dX2_recordsToFree_12 (by decide) (by omega) (by omega) rfl (fun c_12 => ?_) (fun c_12 => ?_)
    · refine vv_iload_n (q := 38) hC dX2_recordsToFree_37 (x := nI (k)) rfl rfl ?_
      refine vv_iret (v := nI (k)) hC dX2_recordsToFree_38 ?_
      rw [hp]
      rw [hv]
      first
        | (rw [show r - k = 0 by omega]; exact ⟨rfl, rfl⟩)
        | (rw [show r - k = (r - (k + 1)) + 1 by omega, show pc_tf σ o r c (r - (k + 1) + 1) k = k from if_neg (fun z => absurd z.2 (Int32.not_lt.mpr c_17))]; exact ⟨rfl, rfl⟩)
    · refine vv_iload_n (q := 16) hC dX2_recordsToFree_15 (x := pc_free σ o k) rfl rfl ?_
      refine vv_iload_n (q := 17) hC dX2_recordsToFree_16 (x := c) rfl rfl ?_
      refine vv_icmp_ge (x := pc_free σ o k) (y := c) (q := 20) (tgt := 37) hC dX2_recordsToFree_17 (by decide) rfl (fun c_17 => ?_) (fun c_17 => ?_)
      · refine vv_iload_n (q := 38) hC dX2_recordsToFree_37 (x := nI (k)) rfl rfl ?_
        refine vv_iret (v := nI (k)) hC dX2_recordsToFree_38 ?_
        rw [hp]
        rw [hv]
        first
          | (rw [show r - k = 0 by omega]; exact ⟨rfl, rfl⟩)
          | (rw [show r - k = (r - (k + 1)) + 1 by omega, show pc_tf σ o r c (r - (k + 1) + 1) k = k from if_neg (fun z => absurd z.2 (Int32.not_lt.mpr c_17))]; exact ⟨rfl, rfl⟩)
      · refine vv_iload_n (q := 21) hC dX2_recordsToFree_20 (x := pc_free σ o k) rfl rfl ?_
        refine vv_aload_n (q := 22) hC dX2_recordsToFree_21 (x := Y.2.1 (2)) rfl rfl ?_
        refine vv_iload_n (q := 23) hC dX2_recordsToFree_22 (x := nI (k)) rfl rfl ?_
        refine vv_callV (n := 1) (k := 2) (As := [.int (nI (k))]) (st := [.int (pc_free σ o k)]) (q := 26) hC (hY.k (by decide)) (hY.J _) (by rw [hY.cl]; rfl) (cm_X2_entry _ Y n hY σ o k ho ho11 (by omega)) gX2_recordsToFree_X2_entry rfl (by decide +kernel) dX2_recordsToFree_23 rfl rfl rfl (vv_kR ?_)
        refine vv_callVN (n := 0) (k := pc_e (pc_re o k)) (As := []) (st := [.int (pc_free σ o k)]) (q := 29) hC (hY.ke (j := 0) (Nat.mod_lt _ (by decide)) (by decide)) (hY.E (Nat.mod_lt _ (by decide)) _) (by rw [hY.cl]; rfl) (cm_X1_cells _ Y n hY σ (pc_re o k) (Nat.mod_lt _ (by decide))) gX2_recordsToFree_X1_cells_n44 rfl (hY.nw nw_X2_44) (by decide +kernel) (by decide +kernel) (by decide +kernel) (by decide +kernel) dX2_recordsToFree_26 rfl rfl rfl (vv_kR ?_)
        refine vv_iadd (x := pc_free σ o k) (y := pc_cells (σ (pc_e (pc_re o k)) 2)) (q := 30) hC dX2_recordsToFree_29 rfl ?_
        refine vv_istore_n (L' := [(0, .ref (Y.2.1 (2))), (1, .int (c)), (2, .int ((pc_free σ o k) + (pc_cells (σ (pc_e (pc_re o k)) 2)))), (3, .int (nI (k)))]) (q := 31) hC dX2_recordsToFree_30 (by decide) rfl rfl rfl ?_
        refine vv_iincN (x := k) (L' := [(0, .ref (Y.2.1 (2))), (1, .int (c)), (2, .int ((pc_free σ o k) + (pc_cells (σ (pc_e (pc_re o k)) 2)))), (3, .int (nI (k + 1)))]) (q := 34) hC dX2_recordsToFree_31 rfl (by decide) rfl rfl rfl ?_
        refine vv_goto (tgt := 7) hC dX2_recordsToFree_34 (by decide) ?_
        exact ih_7 (k + 1) (by first | omega | (dsimp only; omega))  (by omega) (by rw [hv, show r - k = (r - (k + 1)) + 1 by omega]; exact if_pos ⟨by omega, Int32.not_le.mp c_17⟩)
  exact lp_7 0 (by omega) rfl
end
section
theorem pc_cnt_le {σ : vv_S} {s : Nat} : ∀ {n : Nat}, pc_cnt σ s n ≤ n
  | 0 => Nat.le_refl 0
  | n + 1 => by have := pc_cnt_le (σ := σ) (s := s) (n := n); unfold pc_cnt; split <;> omega
set_option maxRecDepth 100000 in
set_option maxHeartbeats 4000000 in
theorem cm_X3_isCut (l : Launch) (Y : vv_Y) (n : Nat) (hY : pc_sys Y n) (σ : vv_S) (b : Int32) : vv_M l Y yX3_isCut wsX3_isCut { frames := 0, cells := 0, slots := 0, locals := 0 } [.int (b)] σ (vv_R (.int (vv_B (¬ b < -1 ∧ ¬ nI 1000 < b))) σ) := by
  refine vv_M.of (cc := cX3_isCut) (maxL := 1) (ret := (some .boolean)) hY.ok (by decide) rfl (Nat.le_of_ble_eq_true rfl) ?_
  intro Z hl hp hC
  subst hl
  have hlo := hY.lo
  have hhi := hY.hi
  refine vv_loc (L' := [(0, .int (b))]) rfl ?_
  refine vv_iload_n (q := 1) hC dX3_isCut_0 (x := b) rfl rfl ?_
  refine vv_iconst (q := 2) hC ((-1)) dX3_isCut_1 (by decide) rfl ?_
  refine vv_icmp_lt (x := b) (y := (-1)) (q := 5) (tgt := 16) hC dX3_isCut_2 (by decide) rfl (fun c_2 => ?_) (fun c_2 => ?_)
  · refine vv_iconst (q := 17) hC (nI 0) dX3_isCut_16 (by decide) rfl ?_
    refine vv_zret (v := nI (0)) hC (by first | rfl | decide) dX3_isCut_17 ?_
    rw [hp]
    exact ⟨congrArg (fun z => some (Value.int z)) (vv_B0 (by grind)).symm, rfl⟩
  · refine vv_iload_n (q := 6) hC dX3_isCut_5 (x := b) rfl rfl ?_
    refine vv_sipush (q := 9) hC (nI 1000) dX3_isCut_6 (by decide) rfl ?_
    refine vv_icmp_gt (x := b) (y := nI (1000)) (q := 12) (tgt := 16) hC dX3_isCut_9 (by decide) rfl (fun c_9 => ?_) (fun c_9 => ?_)
    · refine vv_iconst (q := 17) hC (nI 0) dX3_isCut_16 (by decide) rfl ?_
      refine vv_zret (v := nI (0)) hC (by first | rfl | decide) dX3_isCut_17 ?_
      rw [hp]
      exact ⟨congrArg (fun z => some (Value.int z)) (vv_B0 (by grind)).symm, rfl⟩
    · refine vv_iconst (q := 13) hC (nI 1) dX3_isCut_12 (by decide) rfl ?_
      refine vv_goto (tgt := 17) hC dX3_isCut_13 (by decide) ?_
      refine vv_zret (v := nI (1)) hC (by first | rfl | decide) dX3_isCut_17 ?_
      rw [hp]
      exact ⟨congrArg (fun z => some (Value.int z)) (vv_B1 (by grind)).symm, rfl⟩
set_option maxRecDepth 100000 in
set_option maxHeartbeats 4000000 in
theorem cm_X3_allData (l : Launch) (Y : vv_Y) (n : Nat) (hY : pc_sys Y n) (σ : vv_S) : vv_M l Y yX3_allData wsX3_allData { frames := 0, cells := 0, slots := 0, locals := 0 } [.ref (Y.2.1 (0))] σ (vv_R (.int (pc_all n)) σ) := by
  refine vv_M.of (cc := cX3_allData) (maxL := 1) (ret := (some .int)) hY.ok (by decide) rfl (Nat.le_of_ble_eq_true rfl) ?_
  intro Z hl hp hC
  subst hl
  have hi_X3 : ∀ w ∈ u_ws RX3 TX3 10, w ∈ wsX3_allData := by decide +kernel
  have hf_data : Cond.fieldLink RX3 39 "ParityRow" (TX3 1).2.1 (TX3 1).2.2.1 ∈ wsX3_allData := by decide +kernel
  have hlo := hY.lo
  have hhi := hY.hi
  refine vv_loc (L' := [(0, .ref (Y.2.1 (0)))]) rfl ?_
  refine vv_iconst (q := 1) hC (nI 1) dX3_allData_0 (by decide) rfl ?_
  refine vv_aload_n (q := 2) hC dX3_allData_1 (x := Y.2.1 (0)) rfl rfl ?_
  refine pc_gP (q := 5) hY hC 1 hi_X3 hf_data (by decide) rfl (v := .int (nI (n - 1))) rfl dX3_allData_2 rfl ?_
  refine vv_ishl (x := nI (1)) (y := nI (n - 1)) (q := 6) hC dX3_allData_5 rfl ?_
  refine vv_iconst (q := 7) hC (nI 1) dX3_allData_6 (by decide) rfl ?_
  refine vv_isub (x := (nI (1)) <<< ((nI (n - 1)) &&& 31)) (y := nI (1)) (q := 8) hC dX3_allData_7 rfl ?_
  refine vv_iret (v := ((nI (1)) <<< ((nI (n - 1)) &&& 31)) - (nI (1))) hC dX3_allData_8 ?_
  rw [hp]
  exact ⟨rfl, rfl⟩
set_option maxRecDepth 100000 in
set_option maxHeartbeats 4000000 in
theorem cm_X3_recordsKnown (l : Launch) (Y : vv_Y) (n : Nat) (hY : pc_sys Y n) (σ : vv_S) : vv_M l Y yX3_recordsKnown wsX3_recordsKnown { frames := 0, cells := 0, slots := 0, locals := 0 } [.ref (Y.2.1 (0))] σ (vv_R (.int (if σ 0 6 = 0 then σ 2 2 else nI 0)) σ) := by
  refine vv_M.of (cc := cX3_recordsKnown) (maxL := 1) (ret := (some .int)) hY.ok (by decide) rfl (Nat.le_of_ble_eq_true rfl) ?_
  intro Z hl hp hC
  subst hl
  have hi_X2 : ∀ w ∈ u_ws RX2 TX2 6, w ∈ wsX3_recordsKnown := by decide +kernel
  have hi_X3 : ∀ w ∈ u_ws RX3 TX3 10, w ∈ wsX3_recordsKnown := by decide +kernel
  have hf_down : Cond.fieldLink RX3 16 "ParityRow" (TX3 6).2.1 (TX3 6).2.2.1 ∈ wsX3_recordsKnown := by decide +kernel
  have hf_log : Cond.fieldLink RX3 54 "ParityRow" (TX3 3).2.1 (TX3 3).2.2.1 ∈ wsX3_recordsKnown := by decide +kernel
  have hlo := hY.lo
  have hhi := hY.hi
  refine vv_loc (L' := [(0, .ref (Y.2.1 (0)))]) rfl ?_
  refine vv_aload_n (q := 1) hC dX3_recordsKnown_0 (x := Y.2.1 (0)) rfl rfl ?_
  refine pc_gP (q := 4) hY hC 6 hi_X3 hf_down (by decide) rfl (v := .int (σ 0 6)) rfl dX3_recordsKnown_1 rfl ?_
  refine vv_if_eq (x := σ 0 6) (q := 7) (tgt := 11) hC dX3_recordsKnown_4 (by decide) rfl (fun c_4 => ?_) (fun c_4 => ?_)
  · refine vv_aload_n (q := 12) hC dX3_recordsKnown_11 (x := Y.2.1 (0)) rfl rfl ?_
    refine pc_gP (q := 15) hY hC 3 hi_X3 hf_log (by decide) rfl (v := .ref (Y.2.1 (2))) rfl dX3_recordsKnown_12 rfl ?_
    refine pc_gJN (q := 18) hY hC 2 hi_X2 nw_X3_107 (by decide) rfl (v := .int (σ 2 2)) rfl dX3_recordsKnown_15 rfl ?_
    refine vv_iret (v := σ 2 2) hC dX3_recordsKnown_18 ?_
    rw [hp]
    first | exact ⟨by rw [if_pos c_4], rfl⟩ | exact ⟨by rw [if_neg c_4], rfl⟩
  · refine vv_iconst (q := 8) hC (nI 0) dX3_recordsKnown_7 (by decide) rfl ?_
    refine vv_goto (tgt := 18) hC dX3_recordsKnown_8 (by decide) ?_
    refine vv_iret (v := nI (0)) hC dX3_recordsKnown_18 ?_
    rw [hp]
    first | exact ⟨by rw [if_pos c_4], rfl⟩ | exact ⟨by rw [if_neg c_4], rfl⟩
set_option maxRecDepth 100000 in
set_option maxHeartbeats 4000000 in
theorem cm_X3_memberThat (l : Launch) (Y : vv_Y) (n : Nat) (hY : pc_sys Y n) (σ : vv_S) (x : Int32) : vv_M l Y yX3_memberThat wsX3_memberThat { frames := 0, cells := 0, slots := 0, locals := 0 } [.ref (Y.2.1 (0)), .int (x)] σ (vv_R (.int (pc_mt σ x n 0)) σ) := by
  refine vv_M.of (cc := cX3_memberThat) (maxL := 3) (ret := (some .int)) hY.ok (by decide) rfl (Nat.le_of_ble_eq_true rfl) ?_
  intro Z hl hp hC
  subst hl
  have hi_X0 : ∀ w ∈ u_ws RX0 TX0 6, w ∈ wsX3_memberThat := by decide +kernel
  have hi_X3 : ∀ w ∈ u_ws RX3 TX3 10, w ∈ wsX3_memberThat := by decide +kernel
  have hf_width : Cond.fieldLink RX3 36 "ParityRow" (TX3 0).2.1 (TX3 0).2.2.1 ∈ wsX3_memberThat := by decide +kernel
  have hf_disks : Cond.fieldLink RX3 44 "ParityRow" (TX3 2).2.1 (TX3 2).2.2.1 ∈ wsX3_memberThat := by decide +kernel
  have hlo := hY.lo
  have hhi := hY.hi
  refine vv_loc (L' := [(0, .ref (Y.2.1 (0))), (1, .int (x))]) rfl ?_
  refine vv_iconst (q := 1) hC (nI 0) dX3_memberThat_0 (by decide) rfl ?_
  refine vv_istore_n (L' := [(0, .ref (Y.2.1 (0))), (1, .int (x)), (2, .int (nI (0)))]) (q := 2) hC dX3_memberThat_1 (by decide) rfl rfl rfl ?_
  have lp_2 : ∀ m : Nat, (m ≤ n) → (pc_mt σ x n 0 = pc_mt σ x (n - m) m) → vv_V Y 3 Z σ 2 [(0, .ref (Y.2.1 (0))), (1, .int (x)), (2, .int (nI (m)))] [] := by
    refine vv_ind (fun m => n - m) (fun m ih_2 => ?_)
    intro hm hv
    refine vv_iload_n (q := 3) hC dX3_memberThat_2 (x := nI (m)) rfl rfl ?_
    refine vv_aload_n (q := 4) hC dX3_memberThat_3 (x := Y.2.1 (0)) rfl rfl ?_
    refine pc_gP (q := 7) hY hC 0 hi_X3 hf_width (by decide) rfl (v := .int (nI (n))) rfl dX3_memberThat_4 rfl ?_
    refine vv_icmpN_ge (x := m) (y := n) (q := 10) (tgt := 31) hC dX3_memberThat_7 (by decide) (by omega) (by omega) rfl (fun c_7 => ?_) (fun c_7 => ?_)
    · refine vv_iconst (q := 32) hC ((-1)) dX3_memberThat_31 (by decide) rfl ?_
      refine vv_iret (v := (-1)) hC dX3_memberThat_32 ?_
      rw [hp]
      rw [hv, show n - m = 0 by omega]
      exact ⟨rfl, rfl⟩
    · refine vv_aload_n (q := 11) hC dX3_memberThat_10 (x := Y.2.1 (0)) rfl rfl ?_
      refine pc_gP (q := 14) hY hC 2 hi_X3 hf_disks (by decide) rfl (v := .ref (Y.2.1 (1))) rfl dX3_memberThat_11 rfl ?_
      refine vv_iload_n (q := 15) hC dX3_memberThat_14 (x := nI (m)) rfl rfl ?_
      refine pc_ld_disks (q := 16) (m := m) hY hC (by omega) dX3_memberThat_15 rfl ?_
      refine pc_gDN (q := 19) hY hC (by omega) 3 hi_X0 nw_X3_120 (by decide) rfl (v := .int (σ (pc_d m) 3)) rfl dX3_memberThat_16 rfl ?_
      refine vv_iload_n (q := 20) hC dX3_memberThat_19 (x := x) rfl rfl ?_
      refine vv_icmp_ne (x := σ (pc_d m) 3) (y := x) (q := 23) (tgt := 25) hC dX3_memberThat_20 (by decide) rfl (fun c_20 => ?_) (fun c_20 => ?_)
      · refine vv_iincN (x := m) (L' := [(0, .ref (Y.2.1 (0))), (1, .int (x)), (2, .int (nI (m + 1)))]) (q := 28) hC dX3_memberThat_25 rfl (by decide) rfl rfl rfl ?_
        refine vv_goto (tgt := 2) hC dX3_memberThat_28 (by decide) ?_
        exact ih_2 (m + 1) (by first | omega | (dsimp only; omega))  (by omega) (by rw [hv, show n - m = (n - (m + 1)) + 1 by omega]; exact if_neg c_20)
      · refine vv_iload_n (q := 24) hC dX3_memberThat_23 (x := nI (m)) rfl rfl ?_
        refine vv_iret (v := nI (m)) hC dX3_memberThat_24 ?_
        rw [hp]
        rw [hv, show n - m = (n - (m + 1)) + 1 by omega]
        exact ⟨by rw [show pc_mt σ x (n - (m + 1) + 1) m = nI m from if_pos c_20], rfl⟩
  exact lp_2 0 (by omega) rfl
set_option maxRecDepth 100000 in
set_option maxHeartbeats 4000000 in
theorem cm_X3_allOn (l : Launch) (Y : vv_Y) (n : Nat) (hY : pc_sys Y n) (σ : vv_S) : vv_M l Y yX3_allOn wsX3_allOn { frames := 1, cells := 0, slots := 0, locals := 22 } [.ref (Y.2.1 (0))] σ (vv_R (.int (vv_B (pc_mt σ (nI 1) n 0 = -1 ∧ pc_mt σ (nI 2) n 0 = -1))) σ) := by
  refine vv_M.of (cc := cX3_allOn) (maxL := 1) (ret := (some .boolean)) hY.ok (by decide) rfl (Nat.le_of_ble_eq_true rfl) ?_
  intro Z hl hp hC
  subst hl
  have hlo := hY.lo
  have hhi := hY.hi
  refine vv_loc (L' := [(0, .ref (Y.2.1 (0)))]) rfl ?_
  refine vv_aload_n (q := 1) hC dX3_allOn_0 (x := Y.2.1 (0)) rfl rfl ?_
  refine vv_iconst (q := 2) hC (nI 1) dX3_allOn_1 (by decide) rfl ?_
  refine vv_callV (n := 1) (k := 0) (As := [.int (nI (1))]) (st := []) (q := 5) hC (hY.k (by decide)) (hY.P _) (by rw [hY.cl]; rfl) (cm_X3_memberThat _ Y n hY σ (nI (1)) ) gX3_allOn_X3_memberThat rfl (by decide +kernel) dX3_allOn_2 rfl rfl rfl (vv_kR ?_)
  refine vv_iconst (q := 6) hC ((-1)) dX3_allOn_5 (by decide) rfl ?_
  refine vv_icmp_ne (x := pc_mt σ (nI (1)) n 0) (y := (-1)) (q := 9) (tgt := 22) hC dX3_allOn_6 (by decide) rfl (fun c_6 => ?_) (fun c_6 => ?_)
  · refine vv_iconst (q := 23) hC (nI 0) dX3_allOn_22 (by decide) rfl ?_
    refine vv_zret (v := nI (0)) hC (by first | rfl | decide) dX3_allOn_23 ?_
    rw [hp]
    exact ⟨congrArg (fun z => some (Value.int z)) (vv_B0 (by grind)).symm, rfl⟩
  · refine vv_aload_n (q := 10) hC dX3_allOn_9 (x := Y.2.1 (0)) rfl rfl ?_
    refine vv_iconst (q := 11) hC (nI 2) dX3_allOn_10 (by decide) rfl ?_
    refine vv_callV (n := 1) (k := 0) (As := [.int (nI (2))]) (st := []) (q := 14) hC (hY.k (by decide)) (hY.P _) (by rw [hY.cl]; rfl) (cm_X3_memberThat _ Y n hY σ (nI (2)) ) gX3_allOn_X3_memberThat rfl (by decide +kernel) dX3_allOn_11 rfl rfl rfl (vv_kR ?_)
    refine vv_iconst (q := 15) hC ((-1)) dX3_allOn_14 (by decide) rfl ?_
    refine vv_icmp_ne (x := pc_mt σ (nI (2)) n 0) (y := (-1)) (q := 18) (tgt := 22) hC dX3_allOn_15 (by decide) rfl (fun c_15 => ?_) (fun c_15 => ?_)
    · refine vv_iconst (q := 23) hC (nI 0) dX3_allOn_22 (by decide) rfl ?_
      refine vv_zret (v := nI (0)) hC (by first | rfl | decide) dX3_allOn_23 ?_
      rw [hp]
      exact ⟨congrArg (fun z => some (Value.int z)) (vv_B0 (by grind)).symm, rfl⟩
    · refine vv_iconst (q := 19) hC (nI 1) dX3_allOn_18 (by decide) rfl ?_
      refine vv_goto (tgt := 23) hC dX3_allOn_19 (by decide) ?_
      refine vv_zret (v := nI (1)) hC (by first | rfl | decide) dX3_allOn_23 ?_
      rw [hp]
      exact ⟨congrArg (fun z => some (Value.int z)) (vv_B1 (by grind)).symm, rfl⟩
set_option maxRecDepth 100000 in
set_option maxHeartbeats 4000000 in
theorem cm_X3_countNotThere (l : Launch) (Y : vv_Y) (n : Nat) (hY : pc_sys Y n) (σ : vv_S) (s : Nat) (hs : s < 24) : vv_M l Y yX3_countNotThere wsX3_countNotThere { frames := 2, cells := 0, slots := 0, locals := 44 } [.ref (Y.2.1 (0)), .int (nI (s))] σ (vv_R (.int (nI (pc_cnt σ s n))) σ) := by
  refine vv_M.of (cc := cX3_countNotThere) (maxL := 4) (ret := (some .int)) hY.ok (by decide) rfl (Nat.le_of_ble_eq_true rfl) ?_
  intro Z hl hp hC
  subst hl
  have hi_X3 : ∀ w ∈ u_ws RX3 TX3 10, w ∈ wsX3_countNotThere := by decide +kernel
  have hf_width : Cond.fieldLink RX3 36 "ParityRow" (TX3 0).2.1 (TX3 0).2.2.1 ∈ wsX3_countNotThere := by decide +kernel
  have hf_disks : Cond.fieldLink RX3 44 "ParityRow" (TX3 2).2.1 (TX3 2).2.2.1 ∈ wsX3_countNotThere := by decide +kernel
  have hlo := hY.lo
  have hhi := hY.hi
  refine vv_loc (L' := [(0, .ref (Y.2.1 (0))), (1, .int (nI (s)))]) rfl ?_
  refine vv_iconst (q := 1) hC (nI 0) dX3_countNotThere_0 (by decide) rfl ?_
  refine vv_istore_n (L' := [(0, .ref (Y.2.1 (0))), (1, .int (nI (s))), (2, .int (nI (0)))]) (q := 2) hC dX3_countNotThere_1 (by decide) rfl rfl rfl ?_
  refine vv_iconst (q := 3) hC (nI 0) dX3_countNotThere_2 (by decide) rfl ?_
  refine vv_istore_n (L' := [(0, .ref (Y.2.1 (0))), (1, .int (nI (s))), (2, .int (nI (0))), (3, .int (nI (0)))]) (q := 4) hC dX3_countNotThere_3 (by decide) rfl rfl rfl ?_
  have lp_4 : ∀ m : Nat, (m ≤ n) → vv_V Y 4 Z σ 4 [(0, .ref (Y.2.1 (0))), (1, .int (nI (s))), (2, .int (nI (pc_cnt σ s m))), (3, .int (nI (m)))] [] := by
    refine vv_ind (fun m => n - m) (fun m ih_4 => ?_)
    intro hm
    refine vv_iload_n (q := 5) hC dX3_countNotThere_4 (x := nI (m)) rfl rfl ?_
    refine vv_aload_n (q := 6) hC dX3_countNotThere_5 (x := Y.2.1 (0)) rfl rfl ?_
    refine pc_gP (q := 9) hY hC 0 hi_X3 hf_width (by decide) rfl (v := .int (nI (n))) rfl dX3_countNotThere_6 rfl ?_
    refine vv_icmpN_ge (x := m) (y := n) (q := 12) (tgt := 34) hC dX3_countNotThere_9 (by decide) (by omega) (by omega) rfl (fun c_9 => ?_) (fun c_9 => ?_)
    · refine vv_iload_n (q := 35) hC dX3_countNotThere_34 (x := nI (pc_cnt σ s m)) rfl rfl ?_
      refine vv_iret (v := nI (pc_cnt σ s m)) hC dX3_countNotThere_35 ?_
      rw [hp]
      have em : m = n := by omega
      subst em
      exact ⟨rfl, rfl⟩
    · refine vv_aload_n (q := 13) hC dX3_countNotThere_12 (x := Y.2.1 (0)) rfl rfl ?_
      refine pc_gP (q := 16) hY hC 2 hi_X3 hf_disks (by decide) rfl (v := .ref (Y.2.1 (1))) rfl dX3_countNotThere_13 rfl ?_
      refine vv_iload_n (q := 17) hC dX3_countNotThere_16 (x := nI (m)) rfl rfl ?_
      refine pc_ld_disks (q := 18) (m := m) hY hC (by omega) dX3_countNotThere_17 rfl ?_
      refine vv_iload_n (q := 19) hC dX3_countNotThere_18 (x := nI (s)) rfl rfl ?_
      refine vv_callVN (n := 1) (k := pc_d m) (As := [.int (nI (s))]) (st := []) (q := 22) hC (hY.kd (j := 0) (by omega) (by decide)) (hY.D _) (by rw [hY.cl]; rfl) (cm_X0_isThere _ Y n hY σ m s (by omega) (by omega)) gX3_countNotThere_X0_isThere_n160 rfl (hY.nw nw_X3_160) (by decide +kernel) (by decide +kernel) (by decide +kernel) (by decide +kernel) dX3_countNotThere_19 rfl rfl rfl (vv_kR ?_)
      refine vv_ifB_ne (b := pc_there σ m s) (q := 25) (tgt := 28) hC dX3_countNotThere_22 (by decide) rfl (fun c_22 => ?_) (fun c_22 => ?_)
      · refine vv_iincN (x := m) (L' := [(0, .ref (Y.2.1 (0))), (1, .int (nI (s))), (2, .int (nI (pc_cnt σ s m))), (3, .int (nI (m + 1)))]) (q := 31) hC dX3_countNotThere_28 rfl (by decide) rfl rfl rfl ?_
        refine vv_goto (tgt := 4) hC dX3_countNotThere_31 (by decide) ?_
        refine vv_loc (L' := [(0, .ref (Y.2.1 (0))), (1, .int (nI (s))), (2, .int (nI (pc_cnt σ s (m + 1)))), (3, .int (nI ((m + 1))))]) (by rw [show pc_cnt σ s (m + 1) = _ from by first | exact if_pos c_22 | exact if_neg c_22]) ?_
        exact ih_4 (m + 1) (by first | omega | (dsimp only; omega))  (by omega)
      · refine vv_iincN (x := pc_cnt σ s m) (L' := [(0, .ref (Y.2.1 (0))), (1, .int (nI (s))), (2, .int (nI ((pc_cnt σ s m) + 1))), (3, .int (nI (m)))]) (q := 28) hC dX3_countNotThere_25 rfl (by decide) rfl rfl rfl ?_
        refine vv_iincN (x := m) (L' := [(0, .ref (Y.2.1 (0))), (1, .int (nI (s))), (2, .int (nI ((pc_cnt σ s m) + 1))), (3, .int (nI (m + 1)))]) (q := 31) hC dX3_countNotThere_28 rfl (by decide) rfl rfl rfl ?_
        refine vv_goto (tgt := 4) hC dX3_countNotThere_31 (by decide) ?_
        refine vv_loc (L' := [(0, .ref (Y.2.1 (0))), (1, .int (nI (s))), (2, .int (nI (pc_cnt σ s (m + 1)))), (3, .int (nI ((m + 1))))]) (by rw [show pc_cnt σ s (m + 1) = _ from by first | exact if_pos c_22 | exact if_neg c_22]) ?_
        exact ih_4 (m + 1) (by first | omega | (dsimp only; omega))  (by omega)
  exact lp_4 0 (by omega)
set_option maxRecDepth 100000 in
set_option maxHeartbeats 4000000 in
theorem cm_X3_othersThere (l : Launch) (Y : vv_Y) (n : Nat) (hY : pc_sys Y n) (σ : vv_S) (m : Nat) (s : Nat) (hm : m < n) (hs : s < 24) : vv_M l Y yX3_othersThere wsX3_othersThere { frames := 3, cells := 0, slots := 0, locals := 67 } [.ref (Y.2.1 (0)), .int (nI (m)), .int (nI (s))] σ (vv_R (.int (vv_B (pc_oth σ n m s))) σ) := by
  refine vv_M.of (cc := cX3_othersThere) (maxL := 3) (ret := (some .boolean)) hY.ok (by decide) rfl (Nat.le_of_ble_eq_true rfl) ?_
  intro Z hl hp hC
  subst hl
  have hi_X3 : ∀ w ∈ u_ws RX3 TX3 10, w ∈ wsX3_othersThere := by decide +kernel
  have hf_disks : Cond.fieldLink RX3 44 "ParityRow" (TX3 2).2.1 (TX3 2).2.2.1 ∈ wsX3_othersThere := by decide +kernel
  have hlo := hY.lo
  have hhi := hY.hi
  have hcn : pc_cnt σ s n ≤ n := pc_cnt_le
  refine vv_loc (L' := [(0, .ref (Y.2.1 (0))), (1, .int (nI (m))), (2, .int (nI (s)))]) rfl ?_
  refine vv_aload_n (q := 1) hC dX3_othersThere_0 (x := Y.2.1 (0)) rfl rfl ?_
  refine vv_iload_n (q := 2) hC dX3_othersThere_1 (x := nI (s)) rfl rfl ?_
  refine vv_callV (n := 1) (k := 0) (As := [.int (nI (s))]) (st := []) (q := 5) hC (hY.k (by decide)) (hY.P _) (by rw [hY.cl]; rfl) (cm_X3_countNotThere _ Y n hY σ s (by omega)) gX3_othersThere_X3_countNotThere rfl (by decide +kernel) dX3_othersThere_2 rfl rfl rfl (vv_kR ?_)
  refine vv_aload_n (q := 6) hC dX3_othersThere_5 (x := Y.2.1 (0)) rfl rfl ?_
  refine pc_gP (q := 9) hY hC 2 hi_X3 hf_disks (by decide) rfl (v := .ref (Y.2.1 (1))) rfl dX3_othersThere_6 rfl ?_
  refine vv_iload_n (q := 10) hC dX3_othersThere_9 (x := nI (m)) rfl rfl ?_
  refine pc_ld_disks (q := 11) (m := m) hY hC (by omega) dX3_othersThere_10 rfl ?_
  refine vv_iload_n (q := 12) hC dX3_othersThere_11 (x := nI (s)) rfl rfl ?_
  refine vv_callVN (n := 1) (k := pc_d m) (As := [.int (nI (s))]) (st := [.int (nI (pc_cnt σ s n))]) (q := 15) hC (hY.kd (j := 0) (by omega) (by decide)) (hY.D _) (by rw [hY.cl]; rfl) (cm_X0_isThere _ Y n hY σ m s (by omega) (by omega)) gX3_othersThere_X0_isThere_n160 rfl (hY.nw nw_X3_160) (by decide +kernel) (by decide +kernel) (by decide +kernel) (by decide +kernel) dX3_othersThere_12 rfl rfl rfl (vv_kR ?_)
  refine vv_ifB_eq (b := pc_there σ m s) (q := 18) (tgt := 22) hC dX3_othersThere_15 (by decide) rfl (fun c_15 => ?_) (fun c_15 => ?_)
  · refine vv_iconst (q := 23) hC (nI 1) dX3_othersThere_22 (by decide) rfl ?_
    refine vv_icmpN_ne (x := pc_cnt σ s n) (y := 1) (q := 26) (tgt := 30) hC dX3_othersThere_23 (by decide) (by omega) (by omega) rfl (fun c_23 => ?_) (fun c_23 => ?_)
    · refine vv_iconst (q := 31) hC (nI 0) dX3_othersThere_30 (by decide) rfl ?_
      refine vv_zret (v := nI (0)) hC (by first | rfl | decide) dX3_othersThere_31 ?_
      rw [hp]
      first
        | exact ⟨congrArg (fun z => some (Value.int z)) (vv_B1 (by unfold pc_oth; first | (rw [if_pos c_15]; exact c_23) | (rw [if_neg c_15]; exact c_23))).symm, rfl⟩
        | exact ⟨congrArg (fun z => some (Value.int z)) (vv_B0 (by unfold pc_oth; first | (rw [if_pos c_15]; exact c_23) | (rw [if_neg c_15]; exact c_23))).symm, rfl⟩
    · refine vv_iconst (q := 27) hC (nI 1) dX3_othersThere_26 (by decide) rfl ?_
      refine vv_goto (tgt := 31) hC dX3_othersThere_27 (by decide) ?_
      refine vv_zret (v := nI (1)) hC (by first | rfl | decide) dX3_othersThere_31 ?_
      rw [hp]
      first
        | exact ⟨congrArg (fun z => some (Value.int z)) (vv_B1 (by unfold pc_oth; first | (rw [if_pos c_15]; exact c_23) | (rw [if_neg c_15]; exact c_23))).symm, rfl⟩
        | exact ⟨congrArg (fun z => some (Value.int z)) (vv_B0 (by unfold pc_oth; first | (rw [if_pos c_15]; exact c_23) | (rw [if_neg c_15]; exact c_23))).symm, rfl⟩
  · refine vv_iconst (q := 19) hC (nI 0) dX3_othersThere_18 (by decide) rfl ?_
    refine vv_goto (tgt := 23) hC dX3_othersThere_19 (by decide) ?_
    refine vv_icmpN_ne (x := pc_cnt σ s n) (y := 0) (q := 26) (tgt := 30) hC dX3_othersThere_23 (by decide) (by omega) (by omega) rfl (fun c_23 => ?_) (fun c_23 => ?_)
    · refine vv_iconst (q := 31) hC (nI 0) dX3_othersThere_30 (by decide) rfl ?_
      refine vv_zret (v := nI (0)) hC (by first | rfl | decide) dX3_othersThere_31 ?_
      rw [hp]
      first
        | exact ⟨congrArg (fun z => some (Value.int z)) (vv_B1 (by unfold pc_oth; first | (rw [if_pos c_15]; exact c_23) | (rw [if_neg c_15]; exact c_23))).symm, rfl⟩
        | exact ⟨congrArg (fun z => some (Value.int z)) (vv_B0 (by unfold pc_oth; first | (rw [if_pos c_15]; exact c_23) | (rw [if_neg c_15]; exact c_23))).symm, rfl⟩
    · refine vv_iconst (q := 27) hC (nI 1) dX3_othersThere_26 (by decide) rfl ?_
      refine vv_goto (tgt := 31) hC dX3_othersThere_27 (by decide) ?_
      refine vv_zret (v := nI (1)) hC (by first | rfl | decide) dX3_othersThere_31 ?_
      rw [hp]
      first
        | exact ⟨congrArg (fun z => some (Value.int z)) (vv_B1 (by unfold pc_oth; first | (rw [if_pos c_15]; exact c_23) | (rw [if_neg c_15]; exact c_23))).symm, rfl⟩
        | exact ⟨congrArg (fun z => some (Value.int z)) (vv_B0 (by unfold pc_oth; first | (rw [if_pos c_15]; exact c_23) | (rw [if_neg c_15]; exact c_23))).symm, rfl⟩
set_option maxRecDepth 100000 in
set_option maxHeartbeats 4000000 in
theorem cm_X3_sourceOf (l : Launch) (Y : vv_Y) (n : Nat) (hY : pc_sys Y n) (σ : vv_S) (o : Nat) (r : Nat) (s : Nat) (p : Nat) (ho : σ 2 1 = nI o) (ho11 : o < 11) (hr : σ 2 2 = nI r) (hr10 : r ≤ 10) (hs : s < 24) (hp9 : p < n) : vv_M l Y yX3_sourceOf wsX3_sourceOf { frames := 4, cells := 0, slots := 0, locals := 89 } [.ref (Y.2.1 (0)), .int (nI (s)), .int (nI (p))] σ (vv_R (.int (nI (pc_src σ n o r s p))) σ) := by
  refine vv_M.of (cc := cX3_sourceOf) (maxL := 4) (ret := (some .int)) hY.ok (by decide) rfl (Nat.le_of_ble_eq_true rfl) ?_
  intro Z hl hp hC
  subst hl
  have hi_X3 : ∀ w ∈ u_ws RX3 TX3 10, w ∈ wsX3_sourceOf := by decide +kernel
  have hf_log : Cond.fieldLink RX3 54 "ParityRow" (TX3 3).2.1 (TX3 3).2.2.1 ∈ wsX3_sourceOf := by decide +kernel
  have hf_disks : Cond.fieldLink RX3 44 "ParityRow" (TX3 2).2.1 (TX3 2).2.2.1 ∈ wsX3_sourceOf := by decide +kernel
  have hlo := hY.lo
  have hhi := hY.hi
  refine vv_loc (L' := [(0, .ref (Y.2.1 (0))), (1, .int (nI (s))), (2, .int (nI (p)))]) rfl ?_
  refine vv_aload_n (q := 1) hC dX3_sourceOf_0 (x := Y.2.1 (0)) rfl rfl ?_
  refine pc_gP (q := 4) hY hC 3 hi_X3 hf_log (by decide) rfl (v := .ref (Y.2.1 (2))) rfl dX3_sourceOf_1 rfl ?_
  refine vv_iload_n (q := 5) hC dX3_sourceOf_4 (x := nI (s)) rfl rfl ?_
  refine vv_iload_n (q := 6) hC dX3_sourceOf_5 (x := nI (p)) rfl rfl ?_
  refine vv_callVN (n := 2) (k := 2) (As := [.int (nI (s)), .int (nI (p))]) (st := []) (q := 9) hC (hY.k (by decide)) (hY.J _) (by rw [hY.cl]; rfl) (cm_X2_latestWith _ Y n hY σ o r s p ho ho11 hr hr10) gX3_sourceOf_X2_latestWith_n209 rfl (hY.nw nw_X3_209) (by decide +kernel) (by decide +kernel) (by decide +kernel) (by decide +kernel) dX3_sourceOf_6 rfl rfl rfl (vv_kR ?_)
  rcases hlat_6 : pc_lat σ o s p r with _ | e
  · refine vv_stk (st' := [.null]) rfl ?_
    refine vv_ifnullN (tgt := 14) hC dX3_sourceOf_9 (by decide) ?_
    refine vv_aload_n (q := 15) hC dX3_sourceOf_14 (x := Y.2.1 (0)) rfl rfl ?_
    refine vv_iload_n (q := 16) hC dX3_sourceOf_15 (x := nI (s)) rfl rfl ?_
    refine vv_iload_n (q := 17) hC dX3_sourceOf_16 (x := nI (p)) rfl rfl ?_
    refine vv_callV (n := 2) (k := 0) (As := [.int (nI (s)), .int (nI (p))]) (st := []) (q := 20) hC (hY.k (by decide)) (hY.P _) (by rw [hY.cl]; rfl) (cm_X3_memberOf _ Y n hY σ s p (by omega) (by omega)) gX3_sourceOf_X3_memberOf rfl (by decide +kernel) dX3_sourceOf_17 rfl rfl rfl (vv_kR ?_)
    refine vv_istore_n (L' := [(0, .ref (Y.2.1 (0))), (1, .int (nI (s))), (2, .int (nI (p))), (3, .int (nI (pc_mo n s p)))]) (q := 21) hC dX3_sourceOf_20 (by decide) rfl rfl rfl ?_
    refine vv_aload_n (q := 22) hC dX3_sourceOf_21 (x := Y.2.1 (0)) rfl rfl ?_
    refine pc_gP (q := 25) hY hC 2 hi_X3 hf_disks (by decide) rfl (v := .ref (Y.2.1 (1))) rfl dX3_sourceOf_22 rfl ?_
    refine vv_iload_n (q := 26) hC dX3_sourceOf_25 (x := nI (pc_mo n s p)) rfl rfl ?_
    refine pc_ld_disks (q := 27) (m := pc_mo n s p) hY hC (pc_mo_lt hlo) dX3_sourceOf_26 rfl ?_
    refine vv_iload_n (q := 28) hC dX3_sourceOf_27 (x := nI (s)) rfl rfl ?_
    refine vv_callVN (n := 1) (k := pc_d (pc_mo n s p)) (As := [.int (nI (s))]) (st := []) (q := 31) hC (hY.kd (j := 0) (pc_mo_lt hlo) (by decide)) (hY.D _) (by rw [hY.cl]; rfl) (cm_X0_isThere _ Y n hY σ (pc_mo n s p) s (pc_mo_lt hlo) (by omega)) gX3_sourceOf_X0_isThere_n160 rfl (hY.nw nw_X3_160) (by decide +kernel) (by decide +kernel) (by decide +kernel) (by decide +kernel) dX3_sourceOf_28 rfl rfl rfl (vv_kR ?_)
    refine vv_ifB_eq (b := pc_there σ (pc_mo n s p) s) (q := 34) (tgt := 36) hC dX3_sourceOf_31 (by decide) rfl (fun c_31 => ?_) (fun c_31 => ?_)
    · refine vv_aload_n (q := 37) hC dX3_sourceOf_36 (x := Y.2.1 (0)) rfl rfl ?_
      refine vv_iload_n (q := 38) hC dX3_sourceOf_37 (x := nI (pc_mo n s p)) rfl rfl ?_
      refine vv_iload_n (q := 39) hC dX3_sourceOf_38 (x := nI (s)) rfl rfl ?_
      refine vv_callV (n := 2) (k := 0) (As := [.int (nI (pc_mo n s p)), .int (nI (s))]) (st := []) (q := 42) hC (hY.k (by decide)) (hY.P _) (by rw [hY.cl]; rfl) (cm_X3_othersThere _ Y n hY σ (pc_mo n s p) s (pc_mo_lt hlo) (by omega)) gX3_sourceOf_X3_othersThere rfl (by decide +kernel) dX3_sourceOf_39 rfl rfl rfl (vv_kR ?_)
      refine vv_ifB_eq (b := pc_oth σ n (pc_mo n s p) s) (q := 45) (tgt := 49) hC dX3_sourceOf_42 (by decide) rfl (fun c_42 => ?_) (fun c_42 => ?_)
      · refine vv_iconst (q := 50) hC (nI 3) dX3_sourceOf_49 (by decide) rfl ?_
        refine vv_iret (v := nI (3)) hC dX3_sourceOf_50 ?_
        rw [hp]
        unfold pc_src
        first
          | (rw [if_neg (by rw [hlat_6]; exact fun h => by cases h)]; exact ⟨rfl, rfl⟩)
          | (rw [if_pos hlat_6, if_pos c_31]; exact ⟨rfl, rfl⟩)
          | (rw [if_pos hlat_6, if_neg c_31, if_pos c_42]; exact ⟨rfl, rfl⟩)
          | (rw [if_pos hlat_6, if_neg c_31, if_neg c_42]; exact ⟨rfl, rfl⟩)
      · refine vv_iconst (q := 46) hC (nI 2) dX3_sourceOf_45 (by decide) rfl ?_
        refine vv_goto (tgt := 50) hC dX3_sourceOf_46 (by decide) ?_
        refine vv_iret (v := nI (2)) hC dX3_sourceOf_50 ?_
        rw [hp]
        unfold pc_src
        first
          | (rw [if_neg (by rw [hlat_6]; exact fun h => by cases h)]; exact ⟨rfl, rfl⟩)
          | (rw [if_pos hlat_6, if_pos c_31]; exact ⟨rfl, rfl⟩)
          | (rw [if_pos hlat_6, if_neg c_31, if_pos c_42]; exact ⟨rfl, rfl⟩)
          | (rw [if_pos hlat_6, if_neg c_31, if_neg c_42]; exact ⟨rfl, rfl⟩)
    · refine vv_iconst (q := 35) hC (nI 0) dX3_sourceOf_34 (by decide) rfl ?_
      refine vv_iret (v := nI (0)) hC dX3_sourceOf_35 ?_
      rw [hp]
      unfold pc_src
      first
        | (rw [if_neg (by rw [hlat_6]; exact fun h => by cases h)]; exact ⟨rfl, rfl⟩)
        | (rw [if_pos hlat_6, if_pos c_31]; exact ⟨rfl, rfl⟩)
        | (rw [if_pos hlat_6, if_neg c_31, if_pos c_42]; exact ⟨rfl, rfl⟩)
        | (rw [if_pos hlat_6, if_neg c_31, if_neg c_42]; exact ⟨rfl, rfl⟩)
  · have he_e : e < 11 := pc_lat_lt hlat_6
    refine vv_stk (st' := [.ref (Y.2.1 (pc_e e))]) rfl ?_
    refine vv_ifnull (q := 12) hC dX3_sourceOf_9 rfl ?_
    refine vv_iconst (q := 13) hC (nI 1) dX3_sourceOf_12 (by decide) rfl ?_
    refine vv_iret (v := nI (1)) hC dX3_sourceOf_13 ?_
    rw [hp]
    unfold pc_src
    first
      | (rw [if_neg (by rw [hlat_6]; exact fun h => by cases h)]; exact ⟨rfl, rfl⟩)
      | (rw [if_pos hlat_6, if_pos c_31]; exact ⟨rfl, rfl⟩)
      | (rw [if_pos hlat_6, if_neg c_31, if_pos c_42]; exact ⟨rfl, rfl⟩)
      | (rw [if_pos hlat_6, if_neg c_31, if_neg c_42]; exact ⟨rfl, rfl⟩)
set_option maxRecDepth 100000 in
set_option maxHeartbeats 4000000 in
theorem cm_X3_isNewestNone (l : Launch) (Y : vv_Y) (n : Nat) (hY : pc_sys Y n) (σ : vv_S) (o : Nat) (r : Nat) (s : Nat) (p : Nat) (ho : σ 2 1 = nI o) (ho11 : o < 11) (hr : σ 2 2 = nI r) (hr10 : r ≤ 10) (hs : s < 24) (hp9 : p < n) : vv_M l Y yX3_isNewestNone wsX3_isNewestNone { frames := 2, cells := 0, slots := 0, locals := 45 } [.ref (Y.2.1 (0)), .int (nI (s)), .int (nI (p))] σ (vv_R (.int (vv_B (pc_nn σ n o r s p))) σ) := by
  refine vv_M.of (cc := cX3_isNewestNone) (maxL := 3) (ret := (some .boolean)) hY.ok (by decide) rfl (Nat.le_of_ble_eq_true rfl) ?_
  intro Z hl hp hC
  subst hl
  have hi_X3 : ∀ w ∈ u_ws RX3 TX3 10, w ∈ wsX3_isNewestNone := by decide +kernel
  have hf_log : Cond.fieldLink RX3 54 "ParityRow" (TX3 3).2.1 (TX3 3).2.2.1 ∈ wsX3_isNewestNone := by decide +kernel
  have hf_disks : Cond.fieldLink RX3 44 "ParityRow" (TX3 2).2.1 (TX3 2).2.2.1 ∈ wsX3_isNewestNone := by decide +kernel
  have hlo := hY.lo
  have hhi := hY.hi
  refine vv_loc (L' := [(0, .ref (Y.2.1 (0))), (1, .int (nI (s))), (2, .int (nI (p)))]) rfl ?_
  refine vv_aload_n (q := 1) hC dX3_isNewestNone_0 (x := Y.2.1 (0)) rfl rfl ?_
  refine pc_gP (q := 4) hY hC 3 hi_X3 hf_log (by decide) rfl (v := .ref (Y.2.1 (2))) rfl dX3_isNewestNone_1 rfl ?_
  refine vv_iload_n (q := 5) hC dX3_isNewestNone_4 (x := nI (s)) rfl rfl ?_
  refine vv_iload_n (q := 6) hC dX3_isNewestNone_5 (x := nI (p)) rfl rfl ?_
  refine vv_callVN (n := 2) (k := 2) (As := [.int (nI (s)), .int (nI (p))]) (st := []) (q := 9) hC (hY.k (by decide)) (hY.J _) (by rw [hY.cl]; rfl) (cm_X2_latestWith _ Y n hY σ o r s p ho ho11 hr hr10) gX3_isNewestNone_X2_latestWith_n209 rfl (hY.nw nw_X3_209) (by decide +kernel) (by decide +kernel) (by decide +kernel) (by decide +kernel) dX3_isNewestNone_6 rfl rfl rfl (vv_kR ?_)
  rcases hlat_6 : pc_lat σ o s p r with _ | e
  · refine vv_stk (st' := [.null]) rfl ?_
    refine vv_ifnonnullN (q := 12) hC dX3_isNewestNone_9 rfl ?_
    refine vv_aload_n (q := 13) hC dX3_isNewestNone_12 (x := Y.2.1 (0)) rfl rfl ?_
    refine pc_gP (q := 16) hY hC 2 hi_X3 hf_disks (by decide) rfl (v := .ref (Y.2.1 (1))) rfl dX3_isNewestNone_13 rfl ?_
    refine vv_aload_n (q := 17) hC dX3_isNewestNone_16 (x := Y.2.1 (0)) rfl rfl ?_
    refine vv_iload_n (q := 18) hC dX3_isNewestNone_17 (x := nI (s)) rfl rfl ?_
    refine vv_iload_n (q := 19) hC dX3_isNewestNone_18 (x := nI (p)) rfl rfl ?_
    refine vv_callV (n := 2) (k := 0) (As := [.int (nI (s)), .int (nI (p))]) (st := [.ref (Y.2.1 (1))]) (q := 22) hC (hY.k (by decide)) (hY.P _) (by rw [hY.cl]; rfl) (cm_X3_memberOf _ Y n hY σ s p (by omega) (by omega)) gX3_isNewestNone_X3_memberOf rfl (by decide +kernel) dX3_isNewestNone_19 rfl rfl rfl (vv_kR ?_)
    refine pc_ld_disks (q := 23) (m := pc_mo n s p) hY hC (pc_mo_lt hlo) dX3_isNewestNone_22 rfl ?_
    refine vv_iload_n (q := 24) hC dX3_isNewestNone_23 (x := nI (s)) rfl rfl ?_
    refine vv_callVN (n := 1) (k := pc_d (pc_mo n s p)) (As := [.int (nI (s))]) (st := []) (q := 27) hC (hY.kd (j := 0) (pc_mo_lt hlo) (by decide)) (hY.D _) (by rw [hY.cl]; rfl) (cm_X0_isThere _ Y n hY σ (pc_mo n s p) s (pc_mo_lt hlo) (by omega)) gX3_isNewestNone_X0_isThere_n160 rfl (hY.nw nw_X3_160) (by decide +kernel) (by decide +kernel) (by decide +kernel) (by decide +kernel) dX3_isNewestNone_24 rfl rfl rfl (vv_kR ?_)
    refine vv_ifB_ne (b := pc_there σ (pc_mo n s p) s) (q := 30) (tgt := 34) hC dX3_isNewestNone_27 (by decide) rfl (fun c_27 => ?_) (fun c_27 => ?_)
    · refine vv_iconst (q := 35) hC (nI 0) dX3_isNewestNone_34 (by decide) rfl ?_
      refine vv_zret (v := nI (0)) hC (by first | rfl | decide) dX3_isNewestNone_35 ?_
      rw [hp]
      first
        | exact ⟨congrArg (fun z => some (Value.int z)) (vv_B1 ⟨hlat_6, c_27⟩).symm, rfl⟩
        | exact ⟨congrArg (fun z => some (Value.int z)) (vv_B0 (fun h => by cases hlat_6.symm.trans h.1)).symm, rfl⟩
        | exact ⟨congrArg (fun z => some (Value.int z)) (vv_B0 (fun h => h.2 c_27)).symm, rfl⟩
    · refine vv_iconst (q := 31) hC (nI 1) dX3_isNewestNone_30 (by decide) rfl ?_
      refine vv_goto (tgt := 35) hC dX3_isNewestNone_31 (by decide) ?_
      refine vv_zret (v := nI (1)) hC (by first | rfl | decide) dX3_isNewestNone_35 ?_
      rw [hp]
      first
        | exact ⟨congrArg (fun z => some (Value.int z)) (vv_B1 ⟨hlat_6, c_27⟩).symm, rfl⟩
        | exact ⟨congrArg (fun z => some (Value.int z)) (vv_B0 (fun h => by cases hlat_6.symm.trans h.1)).symm, rfl⟩
        | exact ⟨congrArg (fun z => some (Value.int z)) (vv_B0 (fun h => h.2 c_27)).symm, rfl⟩
  · have he_e : e < 11 := pc_lat_lt hlat_6
    refine vv_stk (st' := [.ref (Y.2.1 (pc_e e))]) rfl ?_
    refine vv_ifnonnull (tgt := 34) hC dX3_isNewestNone_9 (by decide) ?_
    refine vv_iconst (q := 35) hC (nI 0) dX3_isNewestNone_34 (by decide) rfl ?_
    refine vv_zret (v := nI (0)) hC (by first | rfl | decide) dX3_isNewestNone_35 ?_
    rw [hp]
    first
      | exact ⟨congrArg (fun z => some (Value.int z)) (vv_B1 ⟨hlat_6, c_27⟩).symm, rfl⟩
      | exact ⟨congrArg (fun z => some (Value.int z)) (vv_B0 (fun h => by cases hlat_6.symm.trans h.1)).symm, rfl⟩
      | exact ⟨congrArg (fun z => some (Value.int z)) (vv_B0 (fun h => h.2 c_27)).symm, rfl⟩
set_option maxRecDepth 100000 in
set_option maxHeartbeats 4000000 in
theorem cm_X3_haveNewest (l : Launch) (Y : vv_Y) (n : Nat) (hY : pc_sys Y n) (σ : vv_S) (o : Nat) (r : Nat) (s : Nat) (x : Int32) (ho : σ 2 1 = nI o) (ho11 : o < 11) (hr : σ 2 2 = nI r) (hr10 : r ≤ 10) (hs : s < 24) : vv_M l Y yX3_haveNewest wsX3_haveNewest { frames := 3, cells := 0, slots := 0, locals := 67 } [.ref (Y.2.1 (0)), .int (nI (s)), .int (x)] σ (vv_R (.int (vv_B (∀ p, p < n → pc_bit x p → ¬ pc_nn σ n o r s p))) σ) := by
  refine vv_M.of (cc := cX3_haveNewest) (maxL := 5) (ret := (some .boolean)) hY.ok (by decide) rfl (Nat.le_of_ble_eq_true rfl) ?_
  intro Z hl hp hC
  subst hl
  have hi_X3 : ∀ w ∈ u_ws RX3 TX3 10, w ∈ wsX3_haveNewest := by decide +kernel
  have hf_width : Cond.fieldLink RX3 36 "ParityRow" (TX3 0).2.1 (TX3 0).2.2.1 ∈ wsX3_haveNewest := by decide +kernel
  have hlo := hY.lo
  have hhi := hY.hi
  refine vv_loc (L' := [(0, .ref (Y.2.1 (0))), (1, .int (nI (s))), (2, .int (x))]) rfl ?_
  refine vv_iconst (q := 1) hC (nI 0) dX3_haveNewest_0 (by decide) rfl ?_
  refine vv_istore_n (L' := [(0, .ref (Y.2.1 (0))), (1, .int (nI (s))), (2, .int (x)), (3, .int (nI (0)))]) (q := 2) hC dX3_haveNewest_1 (by decide) rfl rfl rfl ?_
  have lp_2 : ∀ p : Nat, (p ≤ n) → (∀ i, i < p → pc_bit x i → ¬ pc_nn σ n o r s i) → vv_V Y 5 Z σ 2 [(0, .ref (Y.2.1 (0))), (1, .int (nI (s))), (2, .int (x)), (3, .int (nI (p)))] [] := by
    refine vv_ind (fun p => n - p) (fun p ih_2 => ?_)
    intro hpn hall
    refine vv_iload_n (q := 3) hC dX3_haveNewest_2 (x := nI (p)) rfl rfl ?_
    refine vv_aload_n (q := 4) hC dX3_haveNewest_3 (x := Y.2.1 (0)) rfl rfl ?_
    refine pc_gP (q := 7) hY hC 0 hi_X3 hf_width (by decide) rfl (v := .int (nI (n))) rfl dX3_haveNewest_4 rfl ?_
    refine vv_icmpN_ge (x := p) (y := n) (q := 10) (tgt := 48) hC dX3_haveNewest_7 (by decide) (by omega) (by omega) rfl (fun c_7 => ?_) (fun c_7 => ?_)
    · refine vv_iconst (q := 49) hC (nI 1) dX3_haveNewest_48 (by decide) rfl ?_
      refine vv_zret (v := nI (1)) hC (by first | rfl | decide) dX3_haveNewest_49 ?_
      rw [hp]
      exact ⟨congrArg (fun z => some (Value.int z)) (vv_B1 (fun i hi => hall i (by omega))).symm, rfl⟩
    · refine vv_iload_n (q := 11) hC dX3_haveNewest_10 (x := x) rfl rfl ?_
      refine vv_iload_n (q := 12) hC dX3_haveNewest_11 (x := nI (p)) rfl rfl ?_
      refine vv_ishr (x := x) (y := nI (p)) (q := 13) hC dX3_haveNewest_12 rfl ?_
      refine vv_iconst (q := 14) hC (nI 1) dX3_haveNewest_13 (by decide) rfl ?_
      refine vv_iand (x := x >>> ((nI (p)) &&& 31)) (y := nI (1)) (q := 15) hC dX3_haveNewest_14 rfl ?_
      refine vv_iconst (q := 16) hC (nI 1) dX3_haveNewest_15 (by decide) rfl ?_
      refine vv_icmp_ne (x := (x >>> ((nI (p)) &&& 31)) &&& (nI (1))) (y := nI (1)) (q := 19) (tgt := 23) hC dX3_haveNewest_16 (by decide) rfl (fun c_16 => ?_) (fun c_16 => ?_)
      · refine vv_iconst (q := 24) hC (nI 0) dX3_haveNewest_23 (by decide) rfl ?_
        refine vv_istore (L' := [(0, .ref (Y.2.1 (0))), (1, .int (nI (s))), (2, .int (x)), (3, .int (nI (p))), (4, .int (nI (0)))]) (q := 26) hC dX3_haveNewest_24 (by decide) rfl rfl rfl ?_
        refine vv_iload (q := 28) hC dX3_haveNewest_26 (x := nI (0)) rfl rfl ?_
        refine vv_if_eq (x := nI (0)) (q := 31) (tgt := 42) hC dX3_haveNewest_28 (by decide) rfl (fun c_28 => ?_) (fun c_28 => absurd c_28 (by decide))
        refine vv_iincN (x := p) (L' := [(0, .ref (Y.2.1 (0))), (1, .int (nI (s))), (2, .int (x)), (3, .int (nI (p + 1))), (4, .int (nI (0)))]) (q := 45) hC dX3_haveNewest_42 rfl (by decide) rfl rfl rfl ?_
        refine vv_goto (tgt := 2) hC dX3_haveNewest_45 (by decide) ?_
        refine vv_sub (L' := [(0, .ref (Y.2.1 (0))), (1, .int (nI (s))), (2, .int (x)), (3, .int (nI (p + 1)))]) (by simp) ?_
        exact ih_2 (p + 1) (by first | omega | (dsimp only; omega))  (by omega) (lt_s hall (fun hb => by first | exact absurd hb c_16 | exact c_37))
      · refine vv_iconst (q := 20) hC (nI 1) dX3_haveNewest_19 (by decide) rfl ?_
        refine vv_goto (tgt := 24) hC dX3_haveNewest_20 (by decide) ?_
        refine vv_istore (L' := [(0, .ref (Y.2.1 (0))), (1, .int (nI (s))), (2, .int (x)), (3, .int (nI (p))), (4, .int (nI (1)))]) (q := 26) hC dX3_haveNewest_24 (by decide) rfl rfl rfl ?_
        refine vv_iload (q := 28) hC dX3_haveNewest_26 (x := nI (1)) rfl rfl ?_
        refine vv_if_eq (x := nI (1)) (q := 31) (tgt := 42) hC dX3_haveNewest_28 (by decide) rfl (fun c_28 => absurd c_28 (by decide)) (fun c_28 => ?_)
        refine vv_aload_n (q := 32) hC dX3_haveNewest_31 (x := Y.2.1 (0)) rfl rfl ?_
        refine vv_iload_n (q := 33) hC dX3_haveNewest_32 (x := nI (s)) rfl rfl ?_
        refine vv_iload_n (q := 34) hC dX3_haveNewest_33 (x := nI (p)) rfl rfl ?_
        refine vv_callV (n := 2) (k := 0) (As := [.int (nI (s)), .int (nI (p))]) (st := []) (q := 37) hC (hY.k (by decide)) (hY.P _) (by rw [hY.cl]; rfl) (cm_X3_isNewestNone _ Y n hY σ o r s p ho ho11 hr hr10 (by omega) (by omega)) gX3_haveNewest_X3_isNewestNone rfl (by decide +kernel) dX3_haveNewest_34 rfl rfl rfl (vv_kR ?_)
        refine vv_ifB_eq (b := pc_nn σ n o r s p) (q := 40) (tgt := 42) hC dX3_haveNewest_37 (by decide) rfl (fun c_37 => ?_) (fun c_37 => ?_)
        · refine vv_iincN (x := p) (L' := [(0, .ref (Y.2.1 (0))), (1, .int (nI (s))), (2, .int (x)), (3, .int (nI (p + 1))), (4, .int (nI (1)))]) (q := 45) hC dX3_haveNewest_42 rfl (by decide) rfl rfl rfl ?_
          refine vv_goto (tgt := 2) hC dX3_haveNewest_45 (by decide) ?_
          refine vv_sub (L' := [(0, .ref (Y.2.1 (0))), (1, .int (nI (s))), (2, .int (x)), (3, .int (nI (p + 1)))]) (by simp) ?_
          exact ih_2 (p + 1) (by first | omega | (dsimp only; omega))  (by omega) (lt_s hall (fun hb => by first | exact absurd hb c_16 | exact c_37))
        · refine vv_iconst (q := 41) hC (nI 0) dX3_haveNewest_40 (by decide) rfl ?_
          refine vv_zret (v := nI (0)) hC (by first | rfl | decide) dX3_haveNewest_41 ?_
          rw [hp]
          exact ⟨congrArg (fun z => some (Value.int z)) (vv_B0 (fun h => h p (by omega) c_16 c_37)).symm, rfl⟩
  exact lp_2 0 (by omega) (fun i hi => absurd hi (Nat.not_lt_zero i))
set_option maxRecDepth 100000 in
set_option maxHeartbeats 4000000 in
theorem cm_X3_clearMixed (l : Launch) (Y : vv_Y) (n : Nat) (hY : pc_sys Y n) (σ : vv_S) : vv_M l Y yX3_clearMixed wsX3_clearMixed { frames := 0, cells := 0, slots := 0, locals := 0 } [.ref (Y.2.1 (0))] σ (vv_Rv (pc_clr σ)) := by
  refine vv_M.of (cc := cX3_clearMixed) (maxL := 2) (ret := none) hY.ok (by decide) rfl (Nat.le_of_ble_eq_true rfl) ?_
  intro Z hl hp hC
  subst hl
  have hi_X3 : ∀ w ∈ u_ws RX3 TX3 10, w ∈ wsX3_clearMixed := by decide +kernel
  have hf_mixed : Cond.fieldLink RX3 13 "ParityRow" (TX3 5).2.1 (TX3 5).2.2.1 ∈ wsX3_clearMixed := by decide +kernel
  have hlo := hY.lo
  have hhi := hY.hi
  refine vv_loc (L' := [(0, .ref (Y.2.1 (0)))]) rfl ?_
  refine vv_iconst (q := 1) hC (nI 0) dX3_clearMixed_0 (by decide) rfl ?_
  refine vv_istore_n (L' := [(0, .ref (Y.2.1 (0))), (1, .int (nI (0)))]) (q := 2) hC dX3_clearMixed_1 (by decide) rfl rfl rfl ?_
  have lp_2 : ∀ i : Nat, (i ≤ 8) → vv_V Y 2 Z (vv_row σ 5 (fun j => if j < i then nI 0 else σ 5 j)) 2 [(0, .ref (Y.2.1 (0))), (1, .int (nI (i)))] [] := by
    refine vv_ind (fun i => 8 - i) (fun i ih_2 => ?_)
    intro hi8
    refine vv_iload_n (q := 3) hC dX3_clearMixed_2 (x := nI (i)) rfl rfl ?_
    refine vv_bipush (q := 5) hC (nI 8) dX3_clearMixed_3 (by decide) rfl ?_
    refine vv_icmpN_ge (x := i) (y := 8) (q := 8) (tgt := 21) hC dX3_clearMixed_5 (by decide) (by omega) (by omega) rfl (fun c_5 => ?_) (fun c_5 => ?_)
    · refine vv_vret hC dX3_clearMixed_21 ?_
      rw [hp]
      have e8 : i = 8 := by omega
      subst e8
      exact ⟨rfl, rfl⟩
    · refine vv_aload_n (q := 9) hC dX3_clearMixed_8 (x := Y.2.1 (0)) rfl rfl ?_
      refine pc_gP (q := 12) hY hC 5 hi_X3 hf_mixed (by decide) rfl (v := .ref (Y.2.1 (5))) rfl dX3_clearMixed_9 rfl ?_
      refine vv_iload_n (q := 13) hC dX3_clearMixed_12 (x := nI (i)) rfl rfl ?_
      refine vv_iconst (q := 14) hC (nI 0) dX3_clearMixed_13 (by decide) rfl ?_
      refine pc_st_mixed (q := 15) hY hC (i := i) (x := nI (0)) (by omega) dX3_clearMixed_14 rfl ?_
      refine vv_iincN (x := i) (L' := [(0, .ref (Y.2.1 (0))), (1, .int (nI (i + 1)))]) (q := 18) hC dX3_clearMixed_15 rfl (by decide) rfl rfl rfl ?_
      refine vv_goto (tgt := 2) hC dX3_clearMixed_18 (by decide) ?_
      refine vv_st (σ' := vv_row σ 5 (fun j => if j < (i + 1) then nI 0 else σ 5 j)) (by rw [vv_up_row]; exact congrArg (vv_row σ 5) (funext fun j => by unfold upd; grind)) ?_
      exact ih_2 (i + 1) (by first | omega | (dsimp only; omega))  (by omega)
  refine vv_st (σ' := vv_row σ 5 (fun j => if j < 0 then nI 0 else σ 5 j)) ((vv_row_of (funext fun j => by grind)).symm) ?_
  exact lp_2 0 (by omega)
set_option maxRecDepth 100000 in
set_option maxHeartbeats 4000000 in
theorem cm_X3_mix (l : Launch) (Y : vv_Y) (n : Nat) (hY : pc_sys Y n) (σ : vv_S) (k : Nat) (b : Nat) (hk : pc_rw n k) (hb : b + 8 ≤ pc_len n k) (hk5 : k ≠ 5) : vv_M l Y yX3_mix wsX3_mix { frames := 0, cells := 0, slots := 0, locals := 0 } [.ref (Y.2.1 (0)), .ref (Y.2.1 (k)), .int (nI (b))] σ (vv_Rv (vv_row σ 5 (pc_mx σ (σ 5) k b))) := by
  refine vv_M.of (cc := cX3_mix) (maxL := 4) (ret := none) hY.ok (by decide) rfl (Nat.le_of_ble_eq_true rfl) ?_
  intro Z hl hp hC
  subst hl
  have hi_X3 : ∀ w ∈ u_ws RX3 TX3 10, w ∈ wsX3_mix := by decide +kernel
  have hf_mixed : Cond.fieldLink RX3 13 "ParityRow" (TX3 5).2.1 (TX3 5).2.2.1 ∈ wsX3_mix := by decide +kernel
  have hlo := hY.lo
  have hhi := hY.hi
  have hlen := pc_len_lt (k := k) hY.hi
  refine vv_loc (L' := [(0, .ref (Y.2.1 (0))), (1, .ref (Y.2.1 (k))), (2, .int (nI (b)))]) rfl ?_
  refine vv_iconst (q := 1) hC (nI 0) dX3_mix_0 (by decide) rfl ?_
  refine vv_istore_n (L' := [(0, .ref (Y.2.1 (0))), (1, .ref (Y.2.1 (k))), (2, .int (nI (b))), (3, .int (nI (0)))]) (q := 2) hC dX3_mix_1 (by decide) rfl rfl rfl ?_
  have lp_2 : ∀ i : Nat, (i ≤ 8) → vv_V Y 4 Z (vv_row σ 5 (fun j => if j < i then σ 5 j ^^^ σ k (b + j) else σ 5 j)) 2 [(0, .ref (Y.2.1 (0))), (1, .ref (Y.2.1 (k))), (2, .int (nI (b))), (3, .int (nI (i)))] [] := by
    refine vv_ind (fun i => 8 - i) (fun i ih_2 => ?_)
    intro hi8
    refine vv_iload_n (q := 3) hC dX3_mix_2 (x := nI (i)) rfl rfl ?_
    refine vv_bipush (q := 5) hC (nI 8) dX3_mix_3 (by decide) rfl ?_
    refine vv_icmpN_ge (x := i) (y := 8) (q := 8) (tgt := 28) hC dX3_mix_5 (by decide) (by omega) (by omega) rfl (fun c_5 => ?_) (fun c_5 => ?_)
    · refine vv_vret hC dX3_mix_28 ?_
      rw [hp]
      have e8 : i = 8 := by omega
      subst e8
      exact ⟨rfl, rfl⟩
    · refine vv_aload_n (q := 9) hC dX3_mix_8 (x := Y.2.1 (0)) rfl rfl ?_
      refine pc_gP (q := 12) hY hC 5 hi_X3 hf_mixed (by decide) rfl (v := .ref (Y.2.1 (5))) rfl dX3_mix_9 rfl ?_
      refine vv_iload_n (q := 13) hC dX3_mix_12 (x := nI (i)) rfl rfl ?_
      refine vv_dup2 (q := 14) hC dX3_mix_13 rfl rfl rfl ?_
      refine pc_ld_mixed (q := 15) hY hC (i := i) (by omega) dX3_mix_14 rfl ?_
      refine vv_top (y := σ 5 i) (by rw [vv_row_s]; exact if_neg (Nat.lt_irrefl i)) ?_
      refine vv_aload_n (q := 16) hC dX3_mix_15 (x := Y.2.1 (k)) rfl rfl ?_
      refine vv_iload_n (q := 17) hC dX3_mix_16 (x := nI (b)) rfl rfl ?_
      refine vv_iload_n (q := 18) hC dX3_mix_17 (x := nI (i)) rfl rfl ?_
      refine vv_addN (x := b) (y := i) (q := 19) hC dX3_mix_18 rfl ?_
      refine pc_ld_row (q := 20) hY hC hk (i := b + i) (by omega) dX3_mix_19 rfl ?_
      refine vv_top (y := σ k (b + i)) (by rw [vv_row_n hk5]) ?_
      refine vv_ixor (x := σ 5 i) (y := σ k (b + i)) (q := 21) hC dX3_mix_20 rfl ?_
      refine pc_st_mixed (q := 22) hY hC (i := i) (x := (σ 5 i) ^^^ (σ k (b + i))) (by omega) dX3_mix_21 rfl ?_
      refine vv_iincN (x := i) (L' := [(0, .ref (Y.2.1 (0))), (1, .ref (Y.2.1 (k))), (2, .int (nI (b))), (3, .int (nI (i + 1)))]) (q := 25) hC dX3_mix_22 rfl (by decide) rfl rfl rfl ?_
      refine vv_goto (tgt := 2) hC dX3_mix_25 (by decide) ?_
      refine vv_st (σ' := vv_row σ 5 (fun j => if j < (i + 1) then σ 5 j ^^^ σ k (b + j) else σ 5 j)) (by rw [vv_up_row]; exact congrArg (vv_row σ 5) (funext fun j => by unfold upd; grind)) ?_
      exact ih_2 (i + 1) (by first | omega | (dsimp only; omega))  (by omega)
  refine vv_st (σ' := vv_row σ 5 (fun j => if j < 0 then σ 5 j ^^^ σ k (b + j) else σ 5 j)) ((vv_row_of (funext fun j => by grind)).symm) ?_
  exact lp_2 0 (by omega)
set_option maxRecDepth 100000 in
set_option maxHeartbeats 4000000 in
theorem cm_X3_mixOthers (l : Launch) (Y : vv_Y) (n : Nat) (hY : pc_sys Y n) (σ : vv_S) (x : Int32) (s : Nat) (hs : s < 24) : vv_M l Y yX3_mixOthers wsX3_mixOthers { frames := 1, cells := 0, slots := 0, locals := 23 } [.ref (Y.2.1 (0)), .int (x), .int (nI (s))] σ (vv_Rv (vv_row σ 5 (pc_mxo σ x s n))) := by
  refine vv_M.of (cc := cX3_mixOthers) (maxL := 4) (ret := none) hY.ok (by decide) rfl (Nat.le_of_ble_eq_true rfl) ?_
  intro Z hl hp hC
  subst hl
  have hi_X0 : ∀ w ∈ u_ws RX0 TX0 6, w ∈ wsX3_mixOthers := by decide +kernel
  have hi_X3 : ∀ w ∈ u_ws RX3 TX3 10, w ∈ wsX3_mixOthers := by decide +kernel
  have hf_width : Cond.fieldLink RX3 36 "ParityRow" (TX3 0).2.1 (TX3 0).2.2.1 ∈ wsX3_mixOthers := by decide +kernel
  have hf_disks : Cond.fieldLink RX3 44 "ParityRow" (TX3 2).2.1 (TX3 2).2.2.1 ∈ wsX3_mixOthers := by decide +kernel
  have hlo := hY.lo
  have hhi := hY.hi
  refine vv_loc (L' := [(0, .ref (Y.2.1 (0))), (1, .int (x)), (2, .int (nI (s)))]) rfl ?_
  refine vv_iconst (q := 1) hC (nI 0) dX3_mixOthers_0 (by decide) rfl ?_
  refine vv_istore_n (L' := [(0, .ref (Y.2.1 (0))), (1, .int (x)), (2, .int (nI (s))), (3, .int (nI (0)))]) (q := 2) hC dX3_mixOthers_1 (by decide) rfl rfl rfl ?_
  have lp_2 : ∀ m : Nat, (m ≤ n) → vv_V Y 4 Z (vv_row σ 5 (pc_mxo σ x s m)) 2 [(0, .ref (Y.2.1 (0))), (1, .int (x)), (2, .int (nI (s))), (3, .int (nI (m)))] [] := by
    refine vv_ind (fun m => n - m) (fun m ih_2 => ?_)
    intro hm
    refine vv_iload_n (q := 3) hC dX3_mixOthers_2 (x := nI (m)) rfl rfl ?_
    refine vv_aload_n (q := 4) hC dX3_mixOthers_3 (x := Y.2.1 (0)) rfl rfl ?_
    refine pc_gP (q := 7) hY hC 0 hi_X3 hf_width (by decide) rfl (v := .int (nI (n))) rfl dX3_mixOthers_4 rfl ?_
    refine vv_icmpN_ge (x := m) (y := n) (q := 10) (tgt := 38) hC dX3_mixOthers_7 (by decide) (by omega) (by omega) rfl (fun c_7 => ?_) (fun c_7 => ?_)
    · refine vv_vret hC dX3_mixOthers_38 ?_
      rw [hp]
      have em : m = n := by omega
      subst em
      exact ⟨rfl, rfl⟩
    · refine vv_iload_n (q := 11) hC dX3_mixOthers_10 (x := nI (m)) rfl rfl ?_
      refine vv_iload_n (q := 12) hC dX3_mixOthers_11 (x := x) rfl rfl ?_
      refine vv_icmp_eq (x := nI (m)) (y := x) (q := 15) (tgt := 32) hC dX3_mixOthers_12 (by decide) rfl (fun c_12 => ?_) (fun c_12 => ?_)
      · refine vv_iincN (x := m) (L' := [(0, .ref (Y.2.1 (0))), (1, .int (x)), (2, .int (nI (s))), (3, .int (nI (m + 1)))]) (q := 35) hC dX3_mixOthers_32 rfl (by decide) rfl rfl rfl ?_
        refine vv_goto (tgt := 2) hC dX3_mixOthers_35 (by decide) ?_
        refine vv_st (σ' := vv_row σ 5 (pc_mxo σ x s (m + 1))) (by first | rw [show pc_mxo σ x s (m + 1) = _ from if_pos c_12] | (rw [show pc_mxo σ x s (m + 1) = _ from if_neg c_12, vv_row_row, vv_row_s]; exact congrArg (vv_row σ 5) (funext fun j => by unfold pc_mx; rw [vv_row_n (by unfold pc_d; omega)]))) ?_
        exact ih_2 (m + 1) (by first | omega | (dsimp only; omega))  (by omega)
      · refine vv_aload_n (q := 16) hC dX3_mixOthers_15 (x := Y.2.1 (0)) rfl rfl ?_
        refine vv_aload_n (q := 17) hC dX3_mixOthers_16 (x := Y.2.1 (0)) rfl rfl ?_
        refine pc_gP (q := 20) hY hC 2 hi_X3 hf_disks (by decide) rfl (v := .ref (Y.2.1 (1))) rfl dX3_mixOthers_17 rfl ?_
        refine vv_iload_n (q := 21) hC dX3_mixOthers_20 (x := nI (m)) rfl rfl ?_
        refine pc_ld_disks (q := 22) (m := m) hY hC (by omega) dX3_mixOthers_21 rfl ?_
        refine pc_gDN (q := 25) hY hC (by omega) 0 hi_X0 nw_X3_141 (by decide) rfl (v := .ref (Y.2.1 (pc_d m + 1))) rfl dX3_mixOthers_22 rfl ?_
        refine vv_iload_n (q := 26) hC dX3_mixOthers_25 (x := nI (s)) rfl rfl ?_
        refine vv_bipush (q := 28) hC (nI 8) dX3_mixOthers_26 (by decide) rfl ?_
        refine vv_mulN (x := s) (y := 8) (q := 29) hC dX3_mixOthers_28 rfl ?_
        refine vv_callV (n := 2) (k := 0) (As := [.ref (Y.2.1 (pc_d m + 1)), .int (nI (s * 8))]) (st := []) (q := 32) hC (hY.k (by decide)) (hY.P _) (by rw [hY.cl]; rfl) (cm_X3_mix _ Y n hY (vv_row σ 5 (pc_mxo σ x s m)) (pc_d m + 1) (s * 8) (pc_rw_dw (by omega)) (by rw [pc_len_dw]; omega) (by unfold pc_d; omega)) gX3_mixOthers_X3_mix rfl (by decide +kernel) dX3_mixOthers_29 rfl rfl rfl (vv_kRv ?_)
        refine vv_iincN (x := m) (L' := [(0, .ref (Y.2.1 (0))), (1, .int (x)), (2, .int (nI (s))), (3, .int (nI (m + 1)))]) (q := 35) hC dX3_mixOthers_32 rfl (by decide) rfl rfl rfl ?_
        refine vv_goto (tgt := 2) hC dX3_mixOthers_35 (by decide) ?_
        refine vv_st (σ' := vv_row σ 5 (pc_mxo σ x s (m + 1))) (by first | rw [show pc_mxo σ x s (m + 1) = _ from if_pos c_12] | (rw [show pc_mxo σ x s (m + 1) = _ from if_neg c_12, vv_row_row, vv_row_s]; exact congrArg (vv_row σ 5) (funext fun j => by unfold pc_mx; rw [vv_row_n (by unfold pc_d; omega)]))) ?_
        exact ih_2 (m + 1) (by first | omega | (dsimp only; omega))  (by omega)
  refine vv_st (σ' := vv_row σ 5 (pc_mxo σ x s 0)) (vv_row_self.symm) ?_
  exact lp_2 0 (by omega)
set_option maxRecDepth 100000 in
set_option maxHeartbeats 4000000 in
theorem cm_X3_mixNewest (l : Launch) (Y : vv_Y) (n : Nat) (hY : pc_sys Y n) (σ : vv_S) (o : Nat) (r : Nat) (s : Nat) (p : Nat) (ho : σ 2 1 = nI o) (ho11 : o < 11) (hr : σ 2 2 = nI r) (hr10 : r ≤ 10) (hs : s < 24) (hp9 : p < n) : vv_M l Y yX3_mixNewest wsX3_mixNewest { frames := 2, cells := 0, slots := 0, locals := 45 } [.ref (Y.2.1 (0)), .int (nI (s)), .int (nI (p))] σ (vv_R (.int (vv_B (pc_lat σ o s p r = none))) (vv_row σ 5 (pc_mxn σ n o r s p))) := by
  refine vv_M.of (cc := cX3_mixNewest) (maxL := 4) (ret := (some .boolean)) hY.ok (by decide) rfl (Nat.le_of_ble_eq_true rfl) ?_
  intro Z hl hp hC
  subst hl
  have hi_X0 : ∀ w ∈ u_ws RX0 TX0 6, w ∈ wsX3_mixNewest := by decide +kernel
  have hi_X1 : ∀ w ∈ u_ws RX1 TX1 4, w ∈ wsX3_mixNewest := by decide +kernel
  have hi_X3 : ∀ w ∈ u_ws RX3 TX3 10, w ∈ wsX3_mixNewest := by decide +kernel
  have hf_log : Cond.fieldLink RX3 54 "ParityRow" (TX3 3).2.1 (TX3 3).2.2.1 ∈ wsX3_mixNewest := by decide +kernel
  have hf_disks : Cond.fieldLink RX3 44 "ParityRow" (TX3 2).2.1 (TX3 2).2.2.1 ∈ wsX3_mixNewest := by decide +kernel
  have hlo := hY.lo
  have hhi := hY.hi
  refine vv_loc (L' := [(0, .ref (Y.2.1 (0))), (1, .int (nI (s))), (2, .int (nI (p)))]) rfl ?_
  refine vv_aload_n (q := 1) hC dX3_mixNewest_0 (x := Y.2.1 (0)) rfl rfl ?_
  refine pc_gP (q := 4) hY hC 3 hi_X3 hf_log (by decide) rfl (v := .ref (Y.2.1 (2))) rfl dX3_mixNewest_1 rfl ?_
  refine vv_iload_n (q := 5) hC dX3_mixNewest_4 (x := nI (s)) rfl rfl ?_
  refine vv_iload_n (q := 6) hC dX3_mixNewest_5 (x := nI (p)) rfl rfl ?_
  refine vv_callVN (n := 2) (k := 2) (As := [.int (nI (s)), .int (nI (p))]) (st := []) (q := 9) hC (hY.k (by decide)) (hY.J _) (by rw [hY.cl]; rfl) (cm_X2_latestWith _ Y n hY σ o r s p ho ho11 hr hr10) gX3_mixNewest_X2_latestWith_n209 rfl (hY.nw nw_X3_209) (by decide +kernel) (by decide +kernel) (by decide +kernel) (by decide +kernel) dX3_mixNewest_6 rfl rfl rfl (vv_kR ?_)
  rcases hlat_6 : pc_lat σ o s p r with _ | e
  · refine vv_stk (st' := [.null]) rfl ?_
    refine vv_astore_nN (L' := [(0, .ref (Y.2.1 (0))), (1, .int (nI (s))), (2, .int (nI (p))), (3, .null)]) (q := 10) hC dX3_mixNewest_9 (by decide) rfl rfl rfl ?_
    refine vv_aload_nN (q := 11) hC dX3_mixNewest_10 rfl rfl ?_
    refine vv_ifnullN (tgt := 28) hC dX3_mixNewest_11 (by decide) ?_
    refine vv_aload_n (q := 29) hC dX3_mixNewest_28 (x := Y.2.1 (0)) rfl rfl ?_
    refine vv_aload_n (q := 30) hC dX3_mixNewest_29 (x := Y.2.1 (0)) rfl rfl ?_
    refine pc_gP (q := 33) hY hC 2 hi_X3 hf_disks (by decide) rfl (v := .ref (Y.2.1 (1))) rfl dX3_mixNewest_30 rfl ?_
    refine vv_aload_n (q := 34) hC dX3_mixNewest_33 (x := Y.2.1 (0)) rfl rfl ?_
    refine vv_iload_n (q := 35) hC dX3_mixNewest_34 (x := nI (s)) rfl rfl ?_
    refine vv_iload_n (q := 36) hC dX3_mixNewest_35 (x := nI (p)) rfl rfl ?_
    refine vv_callV (n := 2) (k := 0) (As := [.int (nI (s)), .int (nI (p))]) (st := [.ref (Y.2.1 (1)), .ref (Y.2.1 (0))]) (q := 39) hC (hY.k (by decide)) (hY.P _) (by rw [hY.cl]; rfl) (cm_X3_memberOf _ Y n hY σ s p (by omega) (by omega)) gX3_mixNewest_X3_memberOf rfl (by decide +kernel) dX3_mixNewest_36 rfl rfl rfl (vv_kR ?_)
    refine pc_ld_disks (q := 40) (m := pc_mo n s p) hY hC (pc_mo_lt hlo) dX3_mixNewest_39 rfl ?_
    refine pc_gDN (q := 43) hY hC (pc_mo_lt hlo) 0 hi_X0 nw_X3_141 (by decide) rfl (v := .ref (Y.2.1 (pc_d (pc_mo n s p) + 1))) rfl dX3_mixNewest_40 rfl ?_
    refine vv_iload_n (q := 44) hC dX3_mixNewest_43 (x := nI (s)) rfl rfl ?_
    refine vv_bipush (q := 46) hC (nI 8) dX3_mixNewest_44 (by decide) rfl ?_
    refine vv_mulN (x := s) (y := 8) (q := 47) hC dX3_mixNewest_46 rfl ?_
    refine vv_callV (n := 2) (k := 0) (As := [.ref (Y.2.1 (pc_d (pc_mo n s p) + 1)), .int (nI (s * 8))]) (st := []) (q := 50) hC (hY.k (by decide)) (hY.P _) (by rw [hY.cl]; rfl) (cm_X3_mix _ Y n hY σ (pc_d (pc_mo n s p) + 1) (s * 8) (pc_rw_dw (pc_mo_lt hlo)) (by rw [pc_len_dw]; omega) (by unfold pc_d; omega)) gX3_mixNewest_X3_mix rfl (by decide +kernel) dX3_mixNewest_47 rfl rfl rfl (vv_kRv ?_)
    refine vv_iconst (q := 51) hC (nI 1) dX3_mixNewest_50 (by decide) rfl ?_
    refine vv_zret (v := nI (1)) hC (by first | rfl | decide) dX3_mixNewest_51 ?_
    rw [hp]
    refine ⟨congrArg (fun z => some (Value.int z)) ?_, by unfold pc_mxn; rw [hlat_6]⟩
    first | exact (vv_B1 hlat_6).symm | exact (vv_B0 (by rw [hlat_6]; exact fun h => by cases h)).symm
  · have he_e : e < 11 := pc_lat_lt hlat_6
    refine vv_stk (st' := [.ref (Y.2.1 (pc_e e))]) rfl ?_
    refine vv_astore_n (L' := [(0, .ref (Y.2.1 (0))), (1, .int (nI (s))), (2, .int (nI (p))), (3, .ref (Y.2.1 (pc_e e)))]) (q := 10) hC dX3_mixNewest_9 (by decide) rfl rfl rfl ?_
    refine vv_aload_n (q := 11) hC dX3_mixNewest_10 (x := Y.2.1 (pc_e e)) rfl rfl ?_
    refine vv_ifnull (q := 14) hC dX3_mixNewest_11 rfl ?_
    refine vv_aload_n (q := 15) hC dX3_mixNewest_14 (x := Y.2.1 (0)) rfl rfl ?_
    refine vv_aload_n (q := 16) hC dX3_mixNewest_15 (x := Y.2.1 (pc_e e)) rfl rfl ?_
    refine pc_gEN (q := 19) hY hC (by omega) 0 hi_X1 nw_X3_223 (by decide) rfl (v := .ref (Y.2.1 (pc_e e + 1))) rfl dX3_mixNewest_16 rfl ?_
    refine vv_iload_n (q := 20) hC dX3_mixNewest_19 (x := nI (p)) rfl rfl ?_
    refine vv_bipush (q := 22) hC (nI 8) dX3_mixNewest_20 (by decide) rfl ?_
    refine vv_mulN (x := p) (y := 8) (q := 23) hC dX3_mixNewest_22 rfl ?_
    refine vv_callV (n := 2) (k := 0) (As := [.ref (Y.2.1 (pc_e e + 1)), .int (nI (p * 8))]) (st := []) (q := 26) hC (hY.k (by decide)) (hY.P _) (by rw [hY.cl]; rfl) (cm_X3_mix _ Y n hY σ (pc_e e + 1) (p * 8) (pc_rw_ew he_e) (by rw [pc_len_ew he_e]; omega) (by unfold pc_e; omega)) gX3_mixNewest_X3_mix rfl (by decide +kernel) dX3_mixNewest_23 rfl rfl rfl (vv_kRv ?_)
    refine vv_iconst (q := 27) hC (nI 0) dX3_mixNewest_26 (by decide) rfl ?_
    refine vv_zret (v := nI (0)) hC (by first | rfl | decide) dX3_mixNewest_27 ?_
    rw [hp]
    refine ⟨congrArg (fun z => some (Value.int z)) ?_, by unfold pc_mxn; rw [hlat_6]⟩
    first | exact (vv_B1 hlat_6).symm | exact (vv_B0 (by rw [hlat_6]; exact fun h => by cases h)).symm
set_option maxRecDepth 100000 in
set_option maxHeartbeats 4000000 in
theorem cm_X3_xorIsZero (l : Launch) (Y : vv_Y) (n : Nat) (hY : pc_sys Y n) (σ : vv_S) (s : Nat) (hs : s < 24) : vv_M l Y yX3_xorIsZero wsX3_xorIsZero { frames := 2, cells := 0, slots := 0, locals := 46 } [.ref (Y.2.1 (0)), .int (nI (s))] σ (vv_R (.int (vv_B (pc_z8 (pc_xst σ n (-1) s 5) = true))) (pc_xst σ n (-1) s)) := by
  refine vv_M.of (cc := cX3_xorIsZero) (maxL := 3) (ret := (some .boolean)) hY.ok (by decide) rfl (Nat.le_of_ble_eq_true rfl) ?_
  intro Z hl hp hC
  subst hl
  have hi_X3 : ∀ w ∈ u_ws RX3 TX3 10, w ∈ wsX3_xorIsZero := by decide +kernel
  have hf_mixed : Cond.fieldLink RX3 13 "ParityRow" (TX3 5).2.1 (TX3 5).2.2.1 ∈ wsX3_xorIsZero := by decide +kernel
  have hlo := hY.lo
  have hhi := hY.hi
  refine vv_loc (L' := [(0, .ref (Y.2.1 (0))), (1, .int (nI (s)))]) rfl ?_
  refine vv_aload_n (q := 1) hC dX3_xorIsZero_0 (x := Y.2.1 (0)) rfl rfl ?_
  refine vv_callV (n := 0) (k := 0) (As := []) (st := []) (q := 4) hC (hY.k (by decide)) (hY.P _) (by rw [hY.cl]; rfl) (cm_X3_clearMixed _ Y n hY σ  ) gX3_xorIsZero_X3_clearMixed rfl (by decide +kernel) dX3_xorIsZero_1 rfl rfl rfl (vv_kRv ?_)
  refine vv_aload_n (q := 5) hC dX3_xorIsZero_4 (x := Y.2.1 (0)) rfl rfl ?_
  refine vv_iconst (q := 6) hC ((-1)) dX3_xorIsZero_5 (by decide) rfl ?_
  refine vv_iload_n (q := 7) hC dX3_xorIsZero_6 (x := nI (s)) rfl rfl ?_
  refine vv_callV (n := 2) (k := 0) (As := [.int ((-1)), .int (nI (s))]) (st := []) (q := 10) hC (hY.k (by decide)) (hY.P _) (by rw [hY.cl]; rfl) (cm_X3_mixOthers _ Y n hY (pc_clr σ) ((-1)) s (by omega)) gX3_xorIsZero_X3_mixOthers rfl (by decide +kernel) dX3_xorIsZero_7 rfl rfl rfl (vv_kRv ?_)
  refine vv_iconst (q := 11) hC (nI 0) dX3_xorIsZero_10 (by decide) rfl ?_
  refine vv_istore_n (L' := [(0, .ref (Y.2.1 (0))), (1, .int (nI (s))), (2, .int (nI (0)))]) (q := 12) hC dX3_xorIsZero_11 (by decide) rfl rfl rfl ?_
  have lp_12 : ∀ i : Nat, (i ≤ 8) → (∀ j, j < i → pc_xst σ n (-1) s 5 j = 0) → vv_V Y 3 Z (pc_xst σ n (-1) s) 12 [(0, .ref (Y.2.1 (0))), (1, .int (nI (s))), (2, .int (nI (i)))] [] := by
    refine vv_ind (fun i => 8 - i) (fun i ih_12 => ?_)
    intro hi8 hall
    refine vv_iload_n (q := 13) hC dX3_xorIsZero_12 (x := nI (i)) rfl rfl ?_
    refine vv_bipush (q := 15) hC (nI 8) dX3_xorIsZero_13 (by decide) rfl ?_
    refine vv_icmpN_ge (x := i) (y := 8) (q := 18) (tgt := 35) hC dX3_xorIsZero_15 (by decide) (by omega) (by omega) rfl (fun c_15 => ?_) (fun c_15 => ?_)
    · refine vv_iconst (q := 36) hC (nI 1) dX3_xorIsZero_35 (by decide) rfl ?_
      refine vv_zret (v := nI (1)) hC (by first | rfl | decide) dX3_xorIsZero_36 ?_
      rw [hp]
      exact ⟨congrArg (fun z => some (Value.int z)) (vv_B1 (pc_z8_iff.mpr (fun j hj => hall j (by omega)))).symm, rfl⟩
    · refine vv_aload_n (q := 19) hC dX3_xorIsZero_18 (x := Y.2.1 (0)) rfl rfl ?_
      refine pc_gP (q := 22) hY hC 5 hi_X3 hf_mixed (by decide) rfl (v := .ref (Y.2.1 (5))) rfl dX3_xorIsZero_19 rfl ?_
      refine vv_iload_n (q := 23) hC dX3_xorIsZero_22 (x := nI (i)) rfl rfl ?_
      refine pc_ld_mixed (q := 24) hY hC (i := i) (by omega) dX3_xorIsZero_23 rfl ?_
      refine vv_if_eq (x := (pc_xst σ n (-1) s) 5 i) (q := 27) (tgt := 29) hC dX3_xorIsZero_24 (by decide) rfl (fun c_24 => ?_) (fun c_24 => ?_)
      · refine vv_iincN (x := i) (L' := [(0, .ref (Y.2.1 (0))), (1, .int (nI (s))), (2, .int (nI (i + 1)))]) (q := 32) hC dX3_xorIsZero_29 rfl (by decide) rfl rfl rfl ?_
        refine vv_goto (tgt := 12) hC dX3_xorIsZero_32 (by decide) ?_
        exact ih_12 (i + 1) (by first | omega | (dsimp only; omega))  (by omega) (lt_s hall c_24)
      · refine vv_iconst (q := 28) hC (nI 0) dX3_xorIsZero_27 (by decide) rfl ?_
        refine vv_zret (v := nI (0)) hC (by first | rfl | decide) dX3_xorIsZero_28 ?_
        rw [hp]
        exact ⟨congrArg (fun z => some (Value.int z)) (vv_B0 (fun h => c_24 (pc_z8_iff.mp h i (by omega)))).symm, rfl⟩
  refine vv_st (σ' := pc_xst σ n (-1) s) (rfl) ?_
  exact lp_12 0 (by omega) (fun i hi => absurd hi (Nat.not_lt_zero i))
end
