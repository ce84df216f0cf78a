section
-- ===== PART A: goes FIRST, ahead of the names: the tables' words, and 'selects' of the private methods out of them =====
/-- a private method of a class that the tables say can be made, by its rows of tables_1 -/
def lw_okq (q : MethodName × Nat) : Prop := (q.1.cls ≠ "java/lang/invoke/MethodHandle" ∧ q.1.cls ≠ "java/lang/invoke/VarHandle") ∧ Cond.instantiable q.1.cls q.2 ∈ tables_1 ∧ Cond.privateMethod q.1 ∈ tables_1 ∧ Cond.instanceMethod q.1 ∈ tables_1
theorem lw_p0 : lw_okq (⟨"StairRow", "found", "(I)I"⟩, 8) := ⟨⟨by decide +kernel, by decide +kernel⟩, List.mem_of_getElem? (i := 16) (by decide +kernel), List.mem_of_getElem? (i := 208) (by decide +kernel), List.mem_of_getElem? (i := 209) (by decide +kernel)⟩
theorem lw_p1 : lw_okq (⟨"StairRow$Row", "isFull", "()Z"⟩, 5) := ⟨⟨by decide +kernel, by decide +kernel⟩, List.mem_of_getElem? (i := 24) (by decide +kernel), List.mem_of_getElem? (i := 218) (by decide +kernel), List.mem_of_getElem? (i := 219) (by decide +kernel)⟩
theorem lw_p2 : lw_okq (⟨"StairRow$Row", "build", "(I)I"⟩, 5) := ⟨⟨by decide +kernel, by decide +kernel⟩, List.mem_of_getElem? (i := 24) (by decide +kernel), List.mem_of_getElem? (i := 223) (by decide +kernel), List.mem_of_getElem? (i := 224) (by decide +kernel)⟩
theorem lw_p3 : lw_okq (⟨"StairRow$Row", "at", "(I)LStairRow$House;"⟩, 5) := ⟨⟨by decide +kernel, by decide +kernel⟩, List.mem_of_getElem? (i := 24) (by decide +kernel), List.mem_of_getElem? (i := 227) (by decide +kernel), List.mem_of_getElem? (i := 228) (by decide +kernel)⟩
theorem lw_p4 : lw_okq (⟨"StairRow$House", "renew", "(II)V"⟩, 9) := ⟨⟨by decide +kernel, by decide +kernel⟩, List.mem_of_getElem? (i := 31) (by decide +kernel), List.mem_of_getElem? (i := 231) (by decide +kernel), List.mem_of_getElem? (i := 232) (by decide +kernel)⟩
theorem lw_p5 : lw_okq (⟨"StairRow$House", "tell", "(I)I"⟩, 9) := ⟨⟨by decide +kernel, by decide +kernel⟩, List.mem_of_getElem? (i := 31) (by decide +kernel), List.mem_of_getElem? (i := 240) (by decide +kernel), List.mem_of_getElem? (i := 241) (by decide +kernel)⟩
theorem lw_p6 : lw_okq (⟨"StairRow$Row", "canBecome", "(II)Z"⟩, 5) := ⟨⟨by decide +kernel, by decide +kernel⟩, List.mem_of_getElem? (i := 24) (by decide +kernel), List.mem_of_getElem? (i := 248) (by decide +kernel), List.mem_of_getElem? (i := 249) (by decide +kernel)⟩
theorem lw_p7 : lw_okq (⟨"StairRow$Row", "has", "(I)Z"⟩, 5) := ⟨⟨by decide +kernel, by decide +kernel⟩, List.mem_of_getElem? (i := 24) (by decide +kernel), List.mem_of_getElem? (i := 254) (by decide +kernel), List.mem_of_getElem? (i := 255) (by decide +kernel)⟩
theorem lw_p8 : lw_okq (⟨"StairRow$House", "become", "(II)V"⟩, 9) := ⟨⟨by decide +kernel, by decide +kernel⟩, List.mem_of_getElem? (i := 31) (by decide +kernel), List.mem_of_getElem? (i := 258) (by decide +kernel), List.mem_of_getElem? (i := 259) (by decide +kernel)⟩
theorem lw_p9 : lw_okq (⟨"StairRow$Row", "isOpen", "(I)Z"⟩, 5) := ⟨⟨by decide +kernel, by decide +kernel⟩, List.mem_of_getElem? (i := 24) (by decide +kernel), List.mem_of_getElem? (i := 284) (by decide +kernel), List.mem_of_getElem? (i := 285) (by decide +kernel)⟩
theorem lw_p10 : lw_okq (⟨"StairRow$Row", "setDoor", "(IZ)V"⟩, 5) := ⟨⟨by decide +kernel, by decide +kernel⟩, List.mem_of_getElem? (i := 24) (by decide +kernel), List.mem_of_getElem? (i := 289) (by decide +kernel), List.mem_of_getElem? (i := 290) (by decide +kernel)⟩
theorem lw_p11 : lw_okq (⟨"StairRow", "isVisit", "(II)Z"⟩, 8) := ⟨⟨by decide +kernel, by decide +kernel⟩, List.mem_of_getElem? (i := 16) (by decide +kernel), List.mem_of_getElem? (i := 298) (by decide +kernel), List.mem_of_getElem? (i := 299) (by decide +kernel)⟩
theorem lw_p12 : lw_okq (⟨"StairRow$House", "admits", "(III)Z"⟩, 9) := ⟨⟨by decide +kernel, by decide +kernel⟩, List.mem_of_getElem? (i := 31) (by decide +kernel), List.mem_of_getElem? (i := 303) (by decide +kernel), List.mem_of_getElem? (i := 304) (by decide +kernel)⟩
theorem lw_p13 : lw_okq (⟨"StairRow$House", "isInHours", "(I)Z"⟩, 9) := ⟨⟨by decide +kernel, by decide +kernel⟩, List.mem_of_getElem? (i := 31) (by decide +kernel), List.mem_of_getElem? (i := 307) (by decide +kernel), List.mem_of_getElem? (i := 308) (by decide +kernel)⟩
theorem lw_p14 : lw_okq (⟨"StairRow$Row", "admitting", "(IIII)I"⟩, 5) := ⟨⟨by decide +kernel, by decide +kernel⟩, List.mem_of_getElem? (i := 24) (by decide +kernel), List.mem_of_getElem? (i := 316) (by decide +kernel), List.mem_of_getElem? (i := 317) (by decide +kernel)⟩
theorem lw_p15 : lw_okq (⟨"StairRow$Row", "hasRoom", "(I)Z"⟩, 5) := ⟨⟨by decide +kernel, by decide +kernel⟩, List.mem_of_getElem? (i := 24) (by decide +kernel), List.mem_of_getElem? (i := 325) (by decide +kernel), List.mem_of_getElem? (i := 326) (by decide +kernel)⟩
def lw_privs_1 : List (MethodName × Nat) := [(⟨"StairRow", "found", "(I)I"⟩, 8), (⟨"StairRow$Row", "isFull", "()Z"⟩, 5), (⟨"StairRow$Row", "build", "(I)I"⟩, 5), (⟨"StairRow$Row", "at", "(I)LStairRow$House;"⟩, 5), (⟨"StairRow$House", "renew", "(II)V"⟩, 9), (⟨"StairRow$House", "tell", "(I)I"⟩, 9), (⟨"StairRow$Row", "canBecome", "(II)Z"⟩, 5), (⟨"StairRow$Row", "has", "(I)Z"⟩, 5), (⟨"StairRow$House", "become", "(II)V"⟩, 9), (⟨"StairRow$Row", "isOpen", "(I)Z"⟩, 5), (⟨"StairRow$Row", "setDoor", "(IZ)V"⟩, 5), (⟨"StairRow", "isVisit", "(II)Z"⟩, 8), (⟨"StairRow$House", "admits", "(III)Z"⟩, 9), (⟨"StairRow$House", "isInHours", "(I)Z"⟩, 9), (⟨"StairRow$Row", "admitting", "(IIII)I"⟩, 5), (⟨"StairRow$Row", "hasRoom", "(I)Z"⟩, 5)]
theorem lw_r1 : ∀ q ∈ lw_privs_1, lw_okq q := List.forall_mem_cons.mpr ⟨lw_p0, List.forall_mem_cons.mpr ⟨lw_p1, List.forall_mem_cons.mpr ⟨lw_p2, List.forall_mem_cons.mpr ⟨lw_p3, List.forall_mem_cons.mpr ⟨lw_p4, List.forall_mem_cons.mpr ⟨lw_p5, List.forall_mem_cons.mpr ⟨lw_p6, List.forall_mem_cons.mpr ⟨lw_p7, List.forall_mem_cons.mpr ⟨lw_p8, List.forall_mem_cons.mpr ⟨lw_p9, List.forall_mem_cons.mpr ⟨lw_p10, List.forall_mem_cons.mpr ⟨lw_p11, List.forall_mem_cons.mpr ⟨lw_p12, List.forall_mem_cons.mpr ⟨lw_p13, List.forall_mem_cons.mpr ⟨lw_p14, List.forall_mem_cons.mpr ⟨lw_p15, fun _ h => absurd h List.not_mem_nil⟩⟩⟩⟩⟩⟩⟩⟩⟩⟩⟩⟩⟩⟩⟩⟩
theorem lw_p16 : lw_okq (⟨"StairRow$Row", "besides", "(I)I"⟩, 5) := ⟨⟨by decide +kernel, by decide +kernel⟩, List.mem_of_getElem? (i := 24) (by decide +kernel), List.mem_of_getElem? (i := 329) (by decide +kernel), List.mem_of_getElem? (i := 330) (by decide +kernel)⟩
theorem lw_p17 : lw_okq (⟨"StairRow$Row", "stairOf", "(I)I"⟩, 5) := ⟨⟨by decide +kernel, by decide +kernel⟩, List.mem_of_getElem? (i := 24) (by decide +kernel), List.mem_of_getElem? (i := 335) (by decide +kernel), List.mem_of_getElem? (i := 336) (by decide +kernel)⟩
theorem lw_p18 : lw_okq (⟨"StairRow$Plan", "draw", "(LStairRow$Row;)V"⟩, 4) := ⟨⟨by decide +kernel, by decide +kernel⟩, List.mem_of_getElem? (i := 102) (by decide +kernel), List.mem_of_getElem? (i := 343) (by decide +kernel), List.mem_of_getElem? (i := 344) (by decide +kernel)⟩
theorem lw_p19 : lw_okq (⟨"StairRow$Plan", "shortest", "(II)I"⟩, 4) := ⟨⟨by decide +kernel, by decide +kernel⟩, List.mem_of_getElem? (i := 102) (by decide +kernel), List.mem_of_getElem? (i := 350) (by decide +kernel), List.mem_of_getElem? (i := 351) (by decide +kernel)⟩
theorem lw_p20 : lw_okq (⟨"StairRow$Plan", "besidesAny", "(I)I"⟩, 4) := ⟨⟨by decide +kernel, by decide +kernel⟩, List.mem_of_getElem? (i := 102) (by decide +kernel), List.mem_of_getElem? (i := 357) (by decide +kernel), List.mem_of_getElem? (i := 358) (by decide +kernel)⟩
theorem lw_p21 : lw_okq (⟨"StairRow$Plan", "listen", "(LStairRow$Row;I)V"⟩, 4) := ⟨⟨by decide +kernel, by decide +kernel⟩, List.mem_of_getElem? (i := 102) (by decide +kernel), List.mem_of_getElem? (i := 368) (by decide +kernel), List.mem_of_getElem? (i := 369) (by decide +kernel)⟩
theorem lw_p22 : lw_okq (⟨"StairRow$Row", "wakesIn", "(II)I"⟩, 5) := ⟨⟨by decide +kernel, by decide +kernel⟩, List.mem_of_getElem? (i := 24) (by decide +kernel), List.mem_of_getElem? (i := 372) (by decide +kernel), List.mem_of_getElem? (i := 373) (by decide +kernel)⟩
theorem lw_p23 : lw_okq (⟨"StairRow$House", "wakes", "(I)I"⟩, 9) := ⟨⟨by decide +kernel, by decide +kernel⟩, List.mem_of_getElem? (i := 31) (by decide +kernel), List.mem_of_getElem? (i := 376) (by decide +kernel), List.mem_of_getElem? (i := 377) (by decide +kernel)⟩
theorem lw_p24 : lw_okq (⟨"StairRow$Plan", "quietest", "(II)I"⟩, 4) := ⟨⟨by decide +kernel, by decide +kernel⟩, List.mem_of_getElem? (i := 102) (by decide +kernel), List.mem_of_getElem? (i := 380) (by decide +kernel), List.mem_of_getElem? (i := 381) (by decide +kernel)⟩
theorem lw_p25 : lw_okq (⟨"StairRow$Plan", "goOnFrom", "(II)Z"⟩, 4) := ⟨⟨by decide +kernel, by decide +kernel⟩, List.mem_of_getElem? (i := 102) (by decide +kernel), List.mem_of_getElem? (i := 384) (by decide +kernel), List.mem_of_getElem? (i := 385) (by decide +kernel)⟩
theorem lw_p26 : lw_okq (⟨"StairRow$Row", "homeOf", "(I)I"⟩, 5) := ⟨⟨by decide +kernel, by decide +kernel⟩, List.mem_of_getElem? (i := 24) (by decide +kernel), List.mem_of_getElem? (i := 393) (by decide +kernel), List.mem_of_getElem? (i := 394) (by decide +kernel)⟩
theorem lw_p27 : lw_okq (⟨"StairRow$Row", "bedOf", "(I)I"⟩, 5) := ⟨⟨by decide +kernel, by decide +kernel⟩, List.mem_of_getElem? (i := 24) (by decide +kernel), List.mem_of_getElem? (i := 397) (by decide +kernel), List.mem_of_getElem? (i := 398) (by decide +kernel)⟩
theorem lw_p28 : lw_okq (⟨"StairRow$Plan", "roomOnWay", "(III)I"⟩, 4) := ⟨⟨by decide +kernel, by decide +kernel⟩, List.mem_of_getElem? (i := 102) (by decide +kernel), List.mem_of_getElem? (i := 401) (by decide +kernel), List.mem_of_getElem? (i := 402) (by decide +kernel)⟩
theorem lw_p29 : lw_okq (⟨"StairRow$Plan", "reachable", "(I)I"⟩, 4) := ⟨⟨by decide +kernel, by decide +kernel⟩, List.mem_of_getElem? (i := 102) (by decide +kernel), List.mem_of_getElem? (i := 413) (by decide +kernel), List.mem_of_getElem? (i := 414) (by decide +kernel)⟩
theorem lw_p30 : lw_okq (⟨"StairRow", "cutOff", "(LStairRow$Row;I)I"⟩, 8) := ⟨⟨by decide +kernel, by decide +kernel⟩, List.mem_of_getElem? (i := 16) (by decide +kernel), List.mem_of_getElem? (i := 421) (by decide +kernel), List.mem_of_getElem? (i := 422) (by decide +kernel)⟩
theorem lw_p31 : lw_okq (⟨"StairRow", "lengthHome", "(II)I"⟩, 8) := ⟨⟨by decide +kernel, by decide +kernel⟩, List.mem_of_getElem? (i := 16) (by decide +kernel), List.mem_of_getElem? (i := 429) (by decide +kernel), List.mem_of_getElem? (i := 430) (by decide +kernel)⟩
def lw_privs_2 : List (MethodName × Nat) := [(⟨"StairRow$Row", "besides", "(I)I"⟩, 5), (⟨"StairRow$Row", "stairOf", "(I)I"⟩, 5), (⟨"StairRow$Plan", "draw", "(LStairRow$Row;)V"⟩, 4), (⟨"StairRow$Plan", "shortest", "(II)I"⟩, 4), (⟨"StairRow$Plan", "besidesAny", "(I)I"⟩, 4), (⟨"StairRow$Plan", "listen", "(LStairRow$Row;I)V"⟩, 4), (⟨"StairRow$Row", "wakesIn", "(II)I"⟩, 5), (⟨"StairRow$House", "wakes", "(I)I"⟩, 9), (⟨"StairRow$Plan", "quietest", "(II)I"⟩, 4), (⟨"StairRow$Plan", "goOnFrom", "(II)Z"⟩, 4), (⟨"StairRow$Row", "homeOf", "(I)I"⟩, 5), (⟨"StairRow$Row", "bedOf", "(I)I"⟩, 5), (⟨"StairRow$Plan", "roomOnWay", "(III)I"⟩, 4), (⟨"StairRow$Plan", "reachable", "(I)I"⟩, 4), (⟨"StairRow", "cutOff", "(LStairRow$Row;I)I"⟩, 8), (⟨"StairRow", "lengthHome", "(II)I"⟩, 8)]
theorem lw_r2 : ∀ q ∈ lw_privs_2, lw_okq q := List.forall_mem_cons.mpr ⟨lw_p16, List.forall_mem_cons.mpr ⟨lw_p17, List.forall_mem_cons.mpr ⟨lw_p18, List.forall_mem_cons.mpr ⟨lw_p19, List.forall_mem_cons.mpr ⟨lw_p20, List.forall_mem_cons.mpr ⟨lw_p21, List.forall_mem_cons.mpr ⟨lw_p22, List.forall_mem_cons.mpr ⟨lw_p23, List.forall_mem_cons.mpr ⟨lw_p24, List.forall_mem_cons.mpr ⟨lw_p25, List.forall_mem_cons.mpr ⟨lw_p26, List.forall_mem_cons.mpr ⟨lw_p27, List.forall_mem_cons.mpr ⟨lw_p28, List.forall_mem_cons.mpr ⟨lw_p29, List.forall_mem_cons.mpr ⟨lw_p30, List.forall_mem_cons.mpr ⟨lw_p31, fun _ h => absurd h List.not_mem_nil⟩⟩⟩⟩⟩⟩⟩⟩⟩⟩⟩⟩⟩⟩⟩⟩
theorem lw_p32 : lw_okq (⟨"StairRow$Row", "takeFrom", "(LStairRow$Row;)V"⟩, 5) := ⟨⟨by decide +kernel, by decide +kernel⟩, List.mem_of_getElem? (i := 24) (by decide +kernel), List.mem_of_getElem? (i := 445) (by decide +kernel), List.mem_of_getElem? (i := 446) (by decide +kernel)⟩
theorem lw_p33 : lw_okq (⟨"StairRow$House", "takeFrom", "(LStairRow$House;)V"⟩, 9) := ⟨⟨by decide +kernel, by decide +kernel⟩, List.mem_of_getElem? (i := 31) (by decide +kernel), List.mem_of_getElem? (i := 449) (by decide +kernel), List.mem_of_getElem? (i := 450) (by decide +kernel)⟩
theorem lw_p34 : lw_okq (⟨"StairRow", "cutOffMore", "(I)I"⟩, 8) := ⟨⟨by decide +kernel, by decide +kernel⟩, List.mem_of_getElem? (i := 16) (by decide +kernel), List.mem_of_getElem? (i := 455) (by decide +kernel), List.mem_of_getElem? (i := 456) (by decide +kernel)⟩
theorem lw_p35 : lw_okq (⟨"StairRow", "fewestLeaves", "(II)I"⟩, 8) := ⟨⟨by decide +kernel, by decide +kernel⟩, List.mem_of_getElem? (i := 16) (by decide +kernel), List.mem_of_getElem? (i := 473) (by decide +kernel), List.mem_of_getElem? (i := 474) (by decide +kernel)⟩
theorem lw_p36 : lw_okq (⟨"StairRow$House", "fallOut", "(I)V"⟩, 9) := ⟨⟨by decide +kernel, by decide +kernel⟩, List.mem_of_getElem? (i := 31) (by decide +kernel), List.mem_of_getElem? (i := 485) (by decide +kernel), List.mem_of_getElem? (i := 486) (by decide +kernel)⟩
theorem lw_p37 : lw_okq (⟨"StairRow$Row", "named", "(I)I"⟩, 5) := ⟨⟨by decide +kernel, by decide +kernel⟩, List.mem_of_getElem? (i := 24) (by decide +kernel), List.mem_of_getElem? (i := 494) (by decide +kernel), List.mem_of_getElem? (i := 495) (by decide +kernel)⟩
theorem lw_p38 : lw_okq (⟨"StairRow", "countNeeded", "(IIII)I"⟩, 8) := ⟨⟨by decide +kernel, by decide +kernel⟩, List.mem_of_getElem? (i := 16) (by decide +kernel), List.mem_of_getElem? (i := 502) (by decide +kernel), List.mem_of_getElem? (i := 503) (by decide +kernel)⟩
theorem lw_p39 : lw_okq (⟨"StairRow$Row", "sleepingIn", "(I)I"⟩, 5) := ⟨⟨by decide +kernel, by decide +kernel⟩, List.mem_of_getElem? (i := 24) (by decide +kernel), List.mem_of_getElem? (i := 510) (by decide +kernel), List.mem_of_getElem? (i := 511) (by decide +kernel)⟩
theorem lw_p40 : lw_okq (⟨"StairRow$Row", "bedRound", "(I)I"⟩, 5) := ⟨⟨by decide +kernel, by decide +kernel⟩, List.mem_of_getElem? (i := 24) (by decide +kernel), List.mem_of_getElem? (i := 520) (by decide +kernel), List.mem_of_getElem? (i := 521) (by decide +kernel)⟩
theorem lw_p41 : lw_okq (⟨"StairRow$Row", "shiftBeds", "()V"⟩, 5) := ⟨⟨by decide +kernel, by decide +kernel⟩, List.mem_of_getElem? (i := 24) (by decide +kernel), List.mem_of_getElem? (i := 539) (by decide +kernel), List.mem_of_getElem? (i := 540) (by decide +kernel)⟩
theorem lw_p42 : lw_okq (⟨"StairRow$Row", "drawBelow", "(I)I"⟩, 5) := ⟨⟨by decide +kernel, by decide +kernel⟩, List.mem_of_getElem? (i := 24) (by decide +kernel), List.mem_of_getElem? (i := 547) (by decide +kernel), List.mem_of_getElem? (i := 548) (by decide +kernel)⟩
theorem lw_p43 : lw_okq (⟨"StairRow$Row", "pairs", "()I"⟩, 5) := ⟨⟨by decide +kernel, by decide +kernel⟩, List.mem_of_getElem? (i := 24) (by decide +kernel), List.mem_of_getElem? (i := 552) (by decide +kernel), List.mem_of_getElem? (i := 553) (by decide +kernel)⟩
theorem lw_p44 : lw_okq (⟨"StairRow$Tape", "free", "()I"⟩, 7) := ⟨⟨by decide +kernel, by decide +kernel⟩, List.mem_of_getElem? (i := 121) (by decide +kernel), List.mem_of_getElem? (i := 566) (by decide +kernel), List.mem_of_getElem? (i := 567) (by decide +kernel)⟩
theorem lw_p45 : lw_okq (⟨"StairRow$Tape", "add", "(I)V"⟩, 7) := ⟨⟨by decide +kernel, by decide +kernel⟩, List.mem_of_getElem? (i := 121) (by decide +kernel), List.mem_of_getElem? (i := 570) (by decide +kernel), List.mem_of_getElem? (i := 571) (by decide +kernel)⟩
theorem lw_p46 : lw_okq (⟨"StairRow$Tape", "readInto", "(LStairRow$Row;)I"⟩, 7) := ⟨⟨by decide +kernel, by decide +kernel⟩, List.mem_of_getElem? (i := 121) (by decide +kernel), List.mem_of_getElem? (i := 583) (by decide +kernel), List.mem_of_getElem? (i := 584) (by decide +kernel)⟩
theorem lw_p47 : lw_okq (⟨"StairRow$Tape", "findTokens", "()V"⟩, 7) := ⟨⟨by decide +kernel, by decide +kernel⟩, List.mem_of_getElem? (i := 121) (by decide +kernel), List.mem_of_getElem? (i := 587) (by decide +kernel), List.mem_of_getElem? (i := 588) (by decide +kernel)⟩
def lw_privs_3 : List (MethodName × Nat) := [(⟨"StairRow$Row", "takeFrom", "(LStairRow$Row;)V"⟩, 5), (⟨"StairRow$House", "takeFrom", "(LStairRow$House;)V"⟩, 9), (⟨"StairRow", "cutOffMore", "(I)I"⟩, 8), (⟨"StairRow", "fewestLeaves", "(II)I"⟩, 8), (⟨"StairRow$House", "fallOut", "(I)V"⟩, 9), (⟨"StairRow$Row", "named", "(I)I"⟩, 5), (⟨"StairRow", "countNeeded", "(IIII)I"⟩, 8), (⟨"StairRow$Row", "sleepingIn", "(I)I"⟩, 5), (⟨"StairRow$Row", "bedRound", "(I)I"⟩, 5), (⟨"StairRow$Row", "shiftBeds", "()V"⟩, 5), (⟨"StairRow$Row", "drawBelow", "(I)I"⟩, 5), (⟨"StairRow$Row", "pairs", "()I"⟩, 5), (⟨"StairRow$Tape", "free", "()I"⟩, 7), (⟨"StairRow$Tape", "add", "(I)V"⟩, 7), (⟨"StairRow$Tape", "readInto", "(LStairRow$Row;)I"⟩, 7), (⟨"StairRow$Tape", "findTokens", "()V"⟩, 7)]
theorem lw_r3 : ∀ q ∈ lw_privs_3, lw_okq q := List.forall_mem_cons.mpr ⟨lw_p32, List.forall_mem_cons.mpr ⟨lw_p33, List.forall_mem_cons.mpr ⟨lw_p34, List.forall_mem_cons.mpr ⟨lw_p35, List.forall_mem_cons.mpr ⟨lw_p36, List.forall_mem_cons.mpr ⟨lw_p37, List.forall_mem_cons.mpr ⟨lw_p38, List.forall_mem_cons.mpr ⟨lw_p39, List.forall_mem_cons.mpr ⟨lw_p40, List.forall_mem_cons.mpr ⟨lw_p41, List.forall_mem_cons.mpr ⟨lw_p42, List.forall_mem_cons.mpr ⟨lw_p43, List.forall_mem_cons.mpr ⟨lw_p44, List.forall_mem_cons.mpr ⟨lw_p45, List.forall_mem_cons.mpr ⟨lw_p46, List.forall_mem_cons.mpr ⟨lw_p47, fun _ h => absurd h List.not_mem_nil⟩⟩⟩⟩⟩⟩⟩⟩⟩⟩⟩⟩⟩⟩⟩⟩
theorem lw_p48 : lw_okq (⟨"StairRow$Tape", "addTokenAt", "(I)I"⟩, 7) := ⟨⟨by decide +kernel, by decide +kernel⟩, List.mem_of_getElem? (i := 121) (by decide +kernel), List.mem_of_getElem? (i := 592) (by decide +kernel), List.mem_of_getElem? (i := 593) (by decide +kernel)⟩
theorem lw_p49 : lw_okq (⟨"StairRow$Tape", "endOf", "(CCI)I"⟩, 7) := ⟨⟨by decide +kernel, by decide +kernel⟩, List.mem_of_getElem? (i := 121) (by decide +kernel), List.mem_of_getElem? (i := 596) (by decide +kernel), List.mem_of_getElem? (i := 597) (by decide +kernel)⟩
theorem lw_p50 : lw_okq (⟨"StairRow$Tape", "wordBetween", "(II)I"⟩, 7) := ⟨⟨by decide +kernel, by decide +kernel⟩, List.mem_of_getElem? (i := 121) (by decide +kernel), List.mem_of_getElem? (i := 600) (by decide +kernel), List.mem_of_getElem? (i := 601) (by decide +kernel)⟩
theorem lw_p51 : lw_okq (⟨"StairRow$Tape", "isWritten", "(Ljava/lang/String;II)Z"⟩, 7) := ⟨⟨by decide +kernel, by decide +kernel⟩, List.mem_of_getElem? (i := 121) (by decide +kernel), List.mem_of_getElem? (i := 624) (by decide +kernel), List.mem_of_getElem? (i := 625) (by decide +kernel)⟩
theorem lw_p52 : lw_okq (⟨"StairRow$Tape", "addToken", "(III)V"⟩, 7) := ⟨⟨by decide +kernel, by decide +kernel⟩, List.mem_of_getElem? (i := 121) (by decide +kernel), List.mem_of_getElem? (i := 676) (by decide +kernel), List.mem_of_getElem? (i := 677) (by decide +kernel)⟩
theorem lw_p53 : lw_okq (⟨"StairRow$Tape", "numberBetween", "(II)I"⟩, 7) := ⟨⟨by decide +kernel, by decide +kernel⟩, List.mem_of_getElem? (i := 121) (by decide +kernel), List.mem_of_getElem? (i := 680) (by decide +kernel), List.mem_of_getElem? (i := 681) (by decide +kernel)⟩
theorem lw_p54 : lw_okq (⟨"StairRow$Tape", "readItem", "(LStairRow$Row;)Z"⟩, 7) := ⟨⟨by decide +kernel, by decide +kernel⟩, List.mem_of_getElem? (i := 121) (by decide +kernel), List.mem_of_getElem? (i := 684) (by decide +kernel), List.mem_of_getElem? (i := 685) (by decide +kernel)⟩
theorem lw_p55 : lw_okq (⟨"StairRow$Tape", "readHouse", "(LStairRow$Row;I)Z"⟩, 7) := ⟨⟨by decide +kernel, by decide +kernel⟩, List.mem_of_getElem? (i := 121) (by decide +kernel), List.mem_of_getElem? (i := 689) (by decide +kernel), List.mem_of_getElem? (i := 690) (by decide +kernel)⟩
theorem lw_p56 : lw_okq (⟨"StairRow$Tape", "readStair", "(LStairRow$House;I)Z"⟩, 7) := ⟨⟨by decide +kernel, by decide +kernel⟩, List.mem_of_getElem? (i := 121) (by decide +kernel), List.mem_of_getElem? (i := 696) (by decide +kernel), List.mem_of_getElem? (i := 697) (by decide +kernel)⟩
theorem lw_p57 : lw_okq (⟨"StairRow$Tape", "isWordHere", "(I)Z"⟩, 7) := ⟨⟨by decide +kernel, by decide +kernel⟩, List.mem_of_getElem? (i := 121) (by decide +kernel), List.mem_of_getElem? (i := 700) (by decide +kernel), List.mem_of_getElem? (i := 701) (by decide +kernel)⟩
theorem lw_p58 : lw_okq (⟨"StairRow$Tape", "readHours", "(LStairRow$House;)Z"⟩, 7) := ⟨⟨by decide +kernel, by decide +kernel⟩, List.mem_of_getElem? (i := 121) (by decide +kernel), List.mem_of_getElem? (i := 705) (by decide +kernel), List.mem_of_getElem? (i := 706) (by decide +kernel)⟩
theorem lw_p59 : lw_okq (⟨"StairRow$Tape", "takeNumber", "(I)I"⟩, 7) := ⟨⟨by decide +kernel, by decide +kernel⟩, List.mem_of_getElem? (i := 121) (by decide +kernel), List.mem_of_getElem? (i := 709) (by decide +kernel), List.mem_of_getElem? (i := 710) (by decide +kernel)⟩
theorem lw_p60 : lw_okq (⟨"StairRow$Tape", "readSleepers", "(LStairRow$House;)Z"⟩, 7) := ⟨⟨by decide +kernel, by decide +kernel⟩, List.mem_of_getElem? (i := 121) (by decide +kernel), List.mem_of_getElem? (i := 714) (by decide +kernel), List.mem_of_getElem? (i := 715) (by decide +kernel)⟩
theorem lw_p61 : lw_okq (⟨"StairRow$Tape", "readNames", "(LStairRow$Row;Z)Z"⟩, 7) := ⟨⟨by decide +kernel, by decide +kernel⟩, List.mem_of_getElem? (i := 121) (by decide +kernel), List.mem_of_getElem? (i := 718) (by decide +kernel), List.mem_of_getElem? (i := 719) (by decide +kernel)⟩
theorem lw_p62 : lw_okq (⟨"StairRow$Tape", "readDoor", "(LStairRow$Row;)Z"⟩, 7) := ⟨⟨by decide +kernel, by decide +kernel⟩, List.mem_of_getElem? (i := 121) (by decide +kernel), List.mem_of_getElem? (i := 722) (by decide +kernel), List.mem_of_getElem? (i := 723) (by decide +kernel)⟩
theorem lw_p63 : lw_okq (⟨"StairRow$Tape", "readBed", "(LStairRow$Row;)Z"⟩, 7) := ⟨⟨by decide +kernel, by decide +kernel⟩, List.mem_of_getElem? (i := 121) (by decide +kernel), List.mem_of_getElem? (i := 727) (by decide +kernel), List.mem_of_getElem? (i := 728) (by decide +kernel)⟩
def lw_privs_4 : List (MethodName × Nat) := [(⟨"StairRow$Tape", "addTokenAt", "(I)I"⟩, 7), (⟨"StairRow$Tape", "endOf", "(CCI)I"⟩, 7), (⟨"StairRow$Tape", "wordBetween", "(II)I"⟩, 7), (⟨"StairRow$Tape", "isWritten", "(Ljava/lang/String;II)Z"⟩, 7), (⟨"StairRow$Tape", "addToken", "(III)V"⟩, 7), (⟨"StairRow$Tape", "numberBetween", "(II)I"⟩, 7), (⟨"StairRow$Tape", "readItem", "(LStairRow$Row;)Z"⟩, 7), (⟨"StairRow$Tape", "readHouse", "(LStairRow$Row;I)Z"⟩, 7), (⟨"StairRow$Tape", "readStair", "(LStairRow$House;I)Z"⟩, 7), (⟨"StairRow$Tape", "isWordHere", "(I)Z"⟩, 7), (⟨"StairRow$Tape", "readHours", "(LStairRow$House;)Z"⟩, 7), (⟨"StairRow$Tape", "takeNumber", "(I)I"⟩, 7), (⟨"StairRow$Tape", "readSleepers", "(LStairRow$House;)Z"⟩, 7), (⟨"StairRow$Tape", "readNames", "(LStairRow$Row;Z)Z"⟩, 7), (⟨"StairRow$Tape", "readDoor", "(LStairRow$Row;)Z"⟩, 7), (⟨"StairRow$Tape", "readBed", "(LStairRow$Row;)Z"⟩, 7)]
theorem lw_r4 : ∀ q ∈ lw_privs_4, lw_okq q := List.forall_mem_cons.mpr ⟨lw_p48, List.forall_mem_cons.mpr ⟨lw_p49, List.forall_mem_cons.mpr ⟨lw_p50, List.forall_mem_cons.mpr ⟨lw_p51, List.forall_mem_cons.mpr ⟨lw_p52, List.forall_mem_cons.mpr ⟨lw_p53, List.forall_mem_cons.mpr ⟨lw_p54, List.forall_mem_cons.mpr ⟨lw_p55, List.forall_mem_cons.mpr ⟨lw_p56, List.forall_mem_cons.mpr ⟨lw_p57, List.forall_mem_cons.mpr ⟨lw_p58, List.forall_mem_cons.mpr ⟨lw_p59, List.forall_mem_cons.mpr ⟨lw_p60, List.forall_mem_cons.mpr ⟨lw_p61, List.forall_mem_cons.mpr ⟨lw_p62, List.forall_mem_cons.mpr ⟨lw_p63, fun _ h => absurd h List.not_mem_nil⟩⟩⟩⟩⟩⟩⟩⟩⟩⟩⟩⟩⟩⟩⟩⟩
theorem lw_p64 : lw_okq (⟨"StairRow$House", "isOne", "(I)Z"⟩, 9) := ⟨⟨by decide +kernel, by decide +kernel⟩, List.mem_of_getElem? (i := 31) (by decide +kernel), List.mem_of_getElem? (i := 741) (by decide +kernel), List.mem_of_getElem? (i := 742) (by decide +kernel)⟩
theorem lw_p65 : lw_okq (⟨"StairRow", "sheetAt", "(I)LStairRow$Sheet;"⟩, 8) := ⟨⟨by decide +kernel, by decide +kernel⟩, List.mem_of_getElem? (i := 16) (by decide +kernel), List.mem_of_getElem? (i := 752) (by decide +kernel), List.mem_of_getElem? (i := 753) (by decide +kernel)⟩
theorem lw_p66 : lw_okq (⟨"StairRow$Sheet", "renew", "(II)V"⟩, 3) := ⟨⟨by decide +kernel, by decide +kernel⟩, List.mem_of_getElem? (i := 151) (by decide +kernel), List.mem_of_getElem? (i := 757) (by decide +kernel), List.mem_of_getElem? (i := 758) (by decide +kernel)⟩
theorem lw_p67 : lw_okq (⟨"StairRow$Sheet", "isMissing", "()Z"⟩, 3) := ⟨⟨by decide +kernel, by decide +kernel⟩, List.mem_of_getElem? (i := 151) (by decide +kernel), List.mem_of_getElem? (i := 765) (by decide +kernel), List.mem_of_getElem? (i := 766) (by decide +kernel)⟩
theorem lw_p68 : lw_okq (⟨"StairRow$Sheet", "set", "(II)V"⟩, 3) := ⟨⟨by decide +kernel, by decide +kernel⟩, List.mem_of_getElem? (i := 151) (by decide +kernel), List.mem_of_getElem? (i := 769) (by decide +kernel), List.mem_of_getElem? (i := 770) (by decide +kernel)⟩
theorem lw_p69 : lw_okq (⟨"StairRow$Sheet", "hasRange", "(II)Z"⟩, 3) := ⟨⟨by decide +kernel, by decide +kernel⟩, List.mem_of_getElem? (i := 151) (by decide +kernel), List.mem_of_getElem? (i := 778) (by decide +kernel), List.mem_of_getElem? (i := 779) (by decide +kernel)⟩
theorem lw_p70 : lw_okq (⟨"StairRow$Plan", "jointsOf", "(I)I"⟩, 4) := ⟨⟨by decide +kernel, by decide +kernel⟩, List.mem_of_getElem? (i := 102) (by decide +kernel), List.mem_of_getElem? (i := 797) (by decide +kernel), List.mem_of_getElem? (i := 798) (by decide +kernel)⟩
theorem lw_p71 : lw_okq (⟨"StairRow$Row", "countStairs", "()I"⟩, 5) := ⟨⟨by decide +kernel, by decide +kernel⟩, List.mem_of_getElem? (i := 24) (by decide +kernel), List.mem_of_getElem? (i := 817) (by decide +kernel), List.mem_of_getElem? (i := 818) (by decide +kernel)⟩
theorem lw_p72 : lw_okq (⟨"StairRow$Row", "countSleepers", "()I"⟩, 5) := ⟨⟨by decide +kernel, by decide +kernel⟩, List.mem_of_getElem? (i := 24) (by decide +kernel), List.mem_of_getElem? (i := 821) (by decide +kernel), List.mem_of_getElem? (i := 822) (by decide +kernel)⟩
theorem lw_p73 : lw_okq (⟨"StairRow$Row", "countHeld", "()I"⟩, 5) := ⟨⟨by decide +kernel, by decide +kernel⟩, List.mem_of_getElem? (i := 24) (by decide +kernel), List.mem_of_getElem? (i := 825) (by decide +kernel), List.mem_of_getElem? (i := 826) (by decide +kernel)⟩
theorem lw_p74 : lw_okq (⟨"StairRowModel", "finds", "(I)I"⟩, 16) := ⟨⟨by decide +kernel, by decide +kernel⟩, List.mem_of_getElem? (i := 833) (by decide +kernel), List.mem_of_getElem? (i := 897) (by decide +kernel), List.mem_of_getElem? (i := 898) (by decide +kernel)⟩
theorem lw_p75 : lw_okq (⟨"StairRowModel", "newHouse", "(I)I"⟩, 16) := ⟨⟨by decide +kernel, by decide +kernel⟩, List.mem_of_getElem? (i := 833) (by decide +kernel), List.mem_of_getElem? (i := 902) (by decide +kernel), List.mem_of_getElem? (i := 903) (by decide +kernel)⟩
theorem lw_p76 : lw_okq (⟨"StairRowModel", "isHouse", "(I)Z"⟩, 16) := ⟨⟨by decide +kernel, by decide +kernel⟩, List.mem_of_getElem? (i := 833) (by decide +kernel), List.mem_of_getElem? (i := 913) (by decide +kernel), List.mem_of_getElem? (i := 914) (by decide +kernel)⟩
theorem lw_p77 : lw_okq (⟨"StairRowModel", "its", "(II)I"⟩, 16) := ⟨⟨by decide +kernel, by decide +kernel⟩, List.mem_of_getElem? (i := 833) (by decide +kernel), List.mem_of_getElem? (i := 918) (by decide +kernel), List.mem_of_getElem? (i := 919) (by decide +kernel)⟩
theorem lw_p78 : lw_okq (⟨"StairRowModel", "isPart", "(II)Z"⟩, 16) := ⟨⟨by decide +kernel, by decide +kernel⟩, List.mem_of_getElem? (i := 833) (by decide +kernel), List.mem_of_getElem? (i := 926) (by decide +kernel), List.mem_of_getElem? (i := 927) (by decide +kernel)⟩
theorem lw_p79 : lw_okq (⟨"StairRowModel", "isAsk", "(II)Z"⟩, 16) := ⟨⟨by decide +kernel, by decide +kernel⟩, List.mem_of_getElem? (i := 833) (by decide +kernel), List.mem_of_getElem? (i := 956) (by decide +kernel), List.mem_of_getElem? (i := 957) (by decide +kernel)⟩
def lw_privs_5 : List (MethodName × Nat) := [(⟨"StairRow$House", "isOne", "(I)Z"⟩, 9), (⟨"StairRow", "sheetAt", "(I)LStairRow$Sheet;"⟩, 8), (⟨"StairRow$Sheet", "renew", "(II)V"⟩, 3), (⟨"StairRow$Sheet", "isMissing", "()Z"⟩, 3), (⟨"StairRow$Sheet", "set", "(II)V"⟩, 3), (⟨"StairRow$Sheet", "hasRange", "(II)Z"⟩, 3), (⟨"StairRow$Plan", "jointsOf", "(I)I"⟩, 4), (⟨"StairRow$Row", "countStairs", "()I"⟩, 5), (⟨"StairRow$Row", "countSleepers", "()I"⟩, 5), (⟨"StairRow$Row", "countHeld", "()I"⟩, 5), (⟨"StairRowModel", "finds", "(I)I"⟩, 16), (⟨"StairRowModel", "newHouse", "(I)I"⟩, 16), (⟨"StairRowModel", "isHouse", "(I)Z"⟩, 16), (⟨"StairRowModel", "its", "(II)I"⟩, 16), (⟨"StairRowModel", "isPart", "(II)Z"⟩, 16), (⟨"StairRowModel", "isAsk", "(II)Z"⟩, 16)]
theorem lw_r5 : ∀ q ∈ lw_privs_5, lw_okq q := List.forall_mem_cons.mpr ⟨lw_p64, List.forall_mem_cons.mpr ⟨lw_p65, List.forall_mem_cons.mpr ⟨lw_p66, List.forall_mem_cons.mpr ⟨lw_p67, List.forall_mem_cons.mpr ⟨lw_p68, List.forall_mem_cons.mpr ⟨lw_p69, List.forall_mem_cons.mpr ⟨lw_p70, List.forall_mem_cons.mpr ⟨lw_p71, List.forall_mem_cons.mpr ⟨lw_p72, List.forall_mem_cons.mpr ⟨lw_p73, List.forall_mem_cons.mpr ⟨lw_p74, List.forall_mem_cons.mpr ⟨lw_p75, List.forall_mem_cons.mpr ⟨lw_p76, List.forall_mem_cons.mpr ⟨lw_p77, List.forall_mem_cons.mpr ⟨lw_p78, List.forall_mem_cons.mpr ⟨lw_p79, fun _ h => absurd h List.not_mem_nil⟩⟩⟩⟩⟩⟩⟩⟩⟩⟩⟩⟩⟩⟩⟩⟩
theorem lw_p80 : lw_okq (⟨"StairRowModel", "isLetting", "(III)Z"⟩, 16) := ⟨⟨by decide +kernel, by decide +kernel⟩, List.mem_of_getElem? (i := 833) (by decide +kernel), List.mem_of_getElem? (i := 960) (by decide +kernel), List.mem_of_getElem? (i := 961) (by decide +kernel)⟩
theorem lw_p81 : lw_okq (⟨"StairRowModel", "isHour", "(II)Z"⟩, 16) := ⟨⟨by decide +kernel, by decide +kernel⟩, List.mem_of_getElem? (i := 833) (by decide +kernel), List.mem_of_getElem? (i := 964) (by decide +kernel), List.mem_of_getElem? (i := 965) (by decide +kernel)⟩
theorem lw_p82 : lw_okq (⟨"StairRowModel", "lettingSet", "(II)I"⟩, 16) := ⟨⟨by decide +kernel, by decide +kernel⟩, List.mem_of_getElem? (i := 833) (by decide +kernel), List.mem_of_getElem? (i := 973) (by decide +kernel), List.mem_of_getElem? (i := 974) (by decide +kernel)⟩
theorem lw_p83 : lw_okq (⟨"StairRowModel", "isRoom", "(I)Z"⟩, 16) := ⟨⟨by decide +kernel, by decide +kernel⟩, List.mem_of_getElem? (i := 833) (by decide +kernel), List.mem_of_getElem? (i := 981) (by decide +kernel), List.mem_of_getElem? (i := 982) (by decide +kernel)⟩
theorem lw_p84 : lw_okq (⟨"StairRowModel", "joinedTo", "(I)I"⟩, 16) := ⟨⟨by decide +kernel, by decide +kernel⟩, List.mem_of_getElem? (i := 833) (by decide +kernel), List.mem_of_getElem? (i := 985) (by decide +kernel), List.mem_of_getElem? (i := 986) (by decide +kernel)⟩
theorem lw_p85 : lw_okq (⟨"StairRowModel", "grounds", "()I"⟩, 16) := ⟨⟨by decide +kernel, by decide +kernel⟩, List.mem_of_getElem? (i := 833) (by decide +kernel), List.mem_of_getElem? (i := 993) (by decide +kernel), List.mem_of_getElem? (i := 994) (by decide +kernel)⟩
theorem lw_p86 : lw_okq (⟨"StairRowModel", "openRooms", "(II)I"⟩, 16) := ⟨⟨by decide +kernel, by decide +kernel⟩, List.mem_of_getElem? (i := 833) (by decide +kernel), List.mem_of_getElem? (i := 997) (by decide +kernel), List.mem_of_getElem? (i := 998) (by decide +kernel)⟩
theorem lw_p87 : lw_okq (⟨"StairRowModel", "lengthOf", "(III)I"⟩, 16) := ⟨⟨by decide +kernel, by decide +kernel⟩, List.mem_of_getElem? (i := 833) (by decide +kernel), List.mem_of_getElem? (i := 1001) (by decide +kernel), List.mem_of_getElem? (i := 1002) (by decide +kernel)⟩
theorem lw_p88 : lw_okq (⟨"StairRowModel", "joinedAll", "(I)I"⟩, 16) := ⟨⟨by decide +kernel, by decide +kernel⟩, List.mem_of_getElem? (i := 833) (by decide +kernel), List.mem_of_getElem? (i := 1005) (by decide +kernel), List.mem_of_getElem? (i := 1006) (by decide +kernel)⟩
theorem lw_p89 : lw_okq (⟨"StairRowModel", "findNoises", "(II)V"⟩, 16) := ⟨⟨by decide +kernel, by decide +kernel⟩, List.mem_of_getElem? (i := 833) (by decide +kernel), List.mem_of_getElem? (i := 1014) (by decide +kernel), List.mem_of_getElem? (i := 1015) (by decide +kernel)⟩
theorem lw_p90 : lw_okq (⟨"StairRowModel", "wakes", "(II)I"⟩, 16) := ⟨⟨by decide +kernel, by decide +kernel⟩, List.mem_of_getElem? (i := 833) (by decide +kernel), List.mem_of_getElem? (i := 1018) (by decide +kernel), List.mem_of_getElem? (i := 1019) (by decide +kernel)⟩
theorem lw_p91 : lw_okq (⟨"StairRowModel", "homeOf", "(I)I"⟩, 16) := ⟨⟨by decide +kernel, by decide +kernel⟩, List.mem_of_getElem? (i := 833) (by decide +kernel), List.mem_of_getElem? (i := 1027) (by decide +kernel), List.mem_of_getElem? (i := 1028) (by decide +kernel)⟩
theorem lw_p92 : lw_okq (⟨"StairRowModel", "reached", "(II)I"⟩, 16) := ⟨⟨by decide +kernel, by decide +kernel⟩, List.mem_of_getElem? (i := 833) (by decide +kernel), List.mem_of_getElem? (i := 1038) (by decide +kernel), List.mem_of_getElem? (i := 1039) (by decide +kernel)⟩
theorem lw_p93 : lw_okq (⟨"StairRowModel", "offSet", "(I)I"⟩, 16) := ⟨⟨by decide +kernel, by decide +kernel⟩, List.mem_of_getElem? (i := 833) (by decide +kernel), List.mem_of_getElem? (i := 1046) (by decide +kernel), List.mem_of_getElem? (i := 1047) (by decide +kernel)⟩
theorem lw_p94 : lw_okq (⟨"StairRowModel", "isOff", "(II)Z"⟩, 16) := ⟨⟨by decide +kernel, by decide +kernel⟩, List.mem_of_getElem? (i := 833) (by decide +kernel), List.mem_of_getElem? (i := 1050) (by decide +kernel), List.mem_of_getElem? (i := 1051) (by decide +kernel)⟩
theorem lw_p95 : lw_okq (⟨"StairRowModel", "wayHome", "(II)I"⟩, 16) := ⟨⟨by decide +kernel, by decide +kernel⟩, List.mem_of_getElem? (i := 833) (by decide +kernel), List.mem_of_getElem? (i := 1054) (by decide +kernel), List.mem_of_getElem? (i := 1055) (by decide +kernel)⟩
def lw_privs_6 : List (MethodName × Nat) := [(⟨"StairRowModel", "isLetting", "(III)Z"⟩, 16), (⟨"StairRowModel", "isHour", "(II)Z"⟩, 16), (⟨"StairRowModel", "lettingSet", "(II)I"⟩, 16), (⟨"StairRowModel", "isRoom", "(I)Z"⟩, 16), (⟨"StairRowModel", "joinedTo", "(I)I"⟩, 16), (⟨"StairRowModel", "grounds", "()I"⟩, 16), (⟨"StairRowModel", "openRooms", "(II)I"⟩, 16), (⟨"StairRowModel", "lengthOf", "(III)I"⟩, 16), (⟨"StairRowModel", "joinedAll", "(I)I"⟩, 16), (⟨"StairRowModel", "findNoises", "(II)V"⟩, 16), (⟨"StairRowModel", "wakes", "(II)I"⟩, 16), (⟨"StairRowModel", "homeOf", "(I)I"⟩, 16), (⟨"StairRowModel", "reached", "(II)I"⟩, 16), (⟨"StairRowModel", "offSet", "(I)I"⟩, 16), (⟨"StairRowModel", "isOff", "(II)Z"⟩, 16), (⟨"StairRowModel", "wayHome", "(II)I"⟩, 16)]
theorem lw_r6 : ∀ q ∈ lw_privs_6, lw_okq q := List.forall_mem_cons.mpr ⟨lw_p80, List.forall_mem_cons.mpr ⟨lw_p81, List.forall_mem_cons.mpr ⟨lw_p82, List.forall_mem_cons.mpr ⟨lw_p83, List.forall_mem_cons.mpr ⟨lw_p84, List.forall_mem_cons.mpr ⟨lw_p85, List.forall_mem_cons.mpr ⟨lw_p86, List.forall_mem_cons.mpr ⟨lw_p87, List.forall_mem_cons.mpr ⟨lw_p88, List.forall_mem_cons.mpr ⟨lw_p89, List.forall_mem_cons.mpr ⟨lw_p90, List.forall_mem_cons.mpr ⟨lw_p91, List.forall_mem_cons.mpr ⟨lw_p92, List.forall_mem_cons.mpr ⟨lw_p93, List.forall_mem_cons.mpr ⟨lw_p94, List.forall_mem_cons.mpr ⟨lw_p95, fun _ h => absurd h List.not_mem_nil⟩⟩⟩⟩⟩⟩⟩⟩⟩⟩⟩⟩⟩⟩⟩⟩
theorem lw_p96 : lw_okq (⟨"StairRowModel", "offHours", "(I)I"⟩, 16) := ⟨⟨by decide +kernel, by decide +kernel⟩, List.mem_of_getElem? (i := 833) (by decide +kernel), List.mem_of_getElem? (i := 1062) (by decide +kernel), List.mem_of_getElem? (i := 1063) (by decide +kernel)⟩
theorem lw_p97 : lw_okq (⟨"StairRowModel", "puts", "()V"⟩, 16) := ⟨⟨by decide +kernel, by decide +kernel⟩, List.mem_of_getElem? (i := 833) (by decide +kernel), List.mem_of_getElem? (i := 1085) (by decide +kernel), List.mem_of_getElem? (i := 1086) (by decide +kernel)⟩
theorem lw_p98 : lw_okq (⟨"StairRowModel", "isOffWith", "(III)Z"⟩, 16) := ⟨⟨by decide +kernel, by decide +kernel⟩, List.mem_of_getElem? (i := 833) (by decide +kernel), List.mem_of_getElem? (i := 1089) (by decide +kernel), List.mem_of_getElem? (i := 1090) (by decide +kernel)⟩
theorem lw_p99 : lw_okq (⟨"StairRowModel", "needed", "(II)I"⟩, 16) := ⟨⟨by decide +kernel, by decide +kernel⟩, List.mem_of_getElem? (i := 833) (by decide +kernel), List.mem_of_getElem? (i := 1097) (by decide +kernel), List.mem_of_getElem? (i := 1098) (by decide +kernel)⟩
theorem lw_p100 : lw_okq (⟨"StairRowModel", "quarrels", "(II)V"⟩, 16) := ⟨⟨by decide +kernel, by decide +kernel⟩, List.mem_of_getElem? (i := 833) (by decide +kernel), List.mem_of_getElem? (i := 1109) (by decide +kernel), List.mem_of_getElem? (i := 1110) (by decide +kernel)⟩
theorem lw_p101 : lw_okq (⟨"StairRowModel", "putsBack", "()V"⟩, 16) := ⟨⟨by decide +kernel, by decide +kernel⟩, List.mem_of_getElem? (i := 833) (by decide +kernel), List.mem_of_getElem? (i := 1113) (by decide +kernel), List.mem_of_getElem? (i := 1114) (by decide +kernel)⟩
theorem lw_p102 : lw_okq (⟨"StairRowModel", "draw", "()I"⟩, 16) := ⟨⟨by decide +kernel, by decide +kernel⟩, List.mem_of_getElem? (i := 833) (by decide +kernel), List.mem_of_getElem? (i := 1154) (by decide +kernel), List.mem_of_getElem? (i := 1155) (by decide +kernel)⟩
theorem lw_p103 : lw_okq (⟨"StairRowModel", "token", "()V"⟩, 16) := ⟨⟨by decide +kernel, by decide +kernel⟩, List.mem_of_getElem? (i := 833) (by decide +kernel), List.mem_of_getElem? (i := 1176) (by decide +kernel), List.mem_of_getElem? (i := 1177) (by decide +kernel)⟩
theorem lw_p104 : lw_okq (⟨"StairRowModel", "byteAt", "(I)I"⟩, 16) := ⟨⟨by decide +kernel, by decide +kernel⟩, List.mem_of_getElem? (i := 833) (by decide +kernel), List.mem_of_getElem? (i := 1180) (by decide +kernel), List.mem_of_getElem? (i := 1181) (by decide +kernel)⟩
theorem lw_p105 : lw_okq (⟨"StairRowModel", "item", "()V"⟩, 16) := ⟨⟨by decide +kernel, by decide +kernel⟩, List.mem_of_getElem? (i := 833) (by decide +kernel), List.mem_of_getElem? (i := 1194) (by decide +kernel), List.mem_of_getElem? (i := 1195) (by decide +kernel)⟩
theorem lw_p106 : lw_okq (⟨"StairRowModel", "kindHere", "()I"⟩, 16) := ⟨⟨by decide +kernel, by decide +kernel⟩, List.mem_of_getElem? (i := 833) (by decide +kernel), List.mem_of_getElem? (i := 1198) (by decide +kernel), List.mem_of_getElem? (i := 1199) (by decide +kernel)⟩
theorem lw_p107 : lw_okq (⟨"StairRowModel", "word", "()J"⟩, 16) := ⟨⟨by decide +kernel, by decide +kernel⟩, List.mem_of_getElem? (i := 833) (by decide +kernel), List.mem_of_getElem? (i := 1202) (by decide +kernel), List.mem_of_getElem? (i := 1203) (by decide +kernel)⟩
theorem lw_p108 : lw_okq (⟨"StairRowModel", "houseItem", "(I)V"⟩, 16) := ⟨⟨by decide +kernel, by decide +kernel⟩, List.mem_of_getElem? (i := 833) (by decide +kernel), List.mem_of_getElem? (i := 1215) (by decide +kernel), List.mem_of_getElem? (i := 1216) (by decide +kernel)⟩
theorem lw_p109 : lw_okq (⟨"StairRowModel", "wants", "(Z)V"⟩, 16) := ⟨⟨by decide +kernel, by decide +kernel⟩, List.mem_of_getElem? (i := 833) (by decide +kernel), List.mem_of_getElem? (i := 1219) (by decide +kernel), List.mem_of_getElem? (i := 1220) (by decide +kernel)⟩
theorem lw_p110 : lw_okq (⟨"StairRowModel", "number", "(II)V"⟩, 16) := ⟨⟨by decide +kernel, by decide +kernel⟩, List.mem_of_getElem? (i := 833) (by decide +kernel), List.mem_of_getElem? (i := 1226) (by decide +kernel), List.mem_of_getElem? (i := 1227) (by decide +kernel)⟩
theorem lw_p111 : lw_okq (⟨"StairRowModel", "namesItem", "(I)V"⟩, 16) := ⟨⟨by decide +kernel, by decide +kernel⟩, List.mem_of_getElem? (i := 833) (by decide +kernel), List.mem_of_getElem? (i := 1233) (by decide +kernel), List.mem_of_getElem? (i := 1234) (by decide +kernel)⟩
def lw_privs_7 : List (MethodName × Nat) := [(⟨"StairRowModel", "offHours", "(I)I"⟩, 16), (⟨"StairRowModel", "puts", "()V"⟩, 16), (⟨"StairRowModel", "isOffWith", "(III)Z"⟩, 16), (⟨"StairRowModel", "needed", "(II)I"⟩, 16), (⟨"StairRowModel", "quarrels", "(II)V"⟩, 16), (⟨"StairRowModel", "putsBack", "()V"⟩, 16), (⟨"StairRowModel", "draw", "()I"⟩, 16), (⟨"StairRowModel", "token", "()V"⟩, 16), (⟨"StairRowModel", "byteAt", "(I)I"⟩, 16), (⟨"StairRowModel", "item", "()V"⟩, 16), (⟨"StairRowModel", "kindHere", "()I"⟩, 16), (⟨"StairRowModel", "word", "()J"⟩, 16), (⟨"StairRowModel", "houseItem", "(I)V"⟩, 16), (⟨"StairRowModel", "wants", "(Z)V"⟩, 16), (⟨"StairRowModel", "number", "(II)V"⟩, 16), (⟨"StairRowModel", "namesItem", "(I)V"⟩, 16)]
theorem lw_r7 : ∀ q ∈ lw_privs_7, lw_okq q := List.forall_mem_cons.mpr ⟨lw_p96, List.forall_mem_cons.mpr ⟨lw_p97, List.forall_mem_cons.mpr ⟨lw_p98, List.forall_mem_cons.mpr ⟨lw_p99, List.forall_mem_cons.mpr ⟨lw_p100, List.forall_mem_cons.mpr ⟨lw_p101, List.forall_mem_cons.mpr ⟨lw_p102, List.forall_mem_cons.mpr ⟨lw_p103, List.forall_mem_cons.mpr ⟨lw_p104, List.forall_mem_cons.mpr ⟨lw_p105, List.forall_mem_cons.mpr ⟨lw_p106, List.forall_mem_cons.mpr ⟨lw_p107, List.forall_mem_cons.mpr ⟨lw_p108, List.forall_mem_cons.mpr ⟨lw_p109, List.forall_mem_cons.mpr ⟨lw_p110, List.forall_mem_cons.mpr ⟨lw_p111, fun _ h => absurd h List.not_mem_nil⟩⟩⟩⟩⟩⟩⟩⟩⟩⟩⟩⟩⟩⟩⟩⟩
theorem lw_p112 : lw_okq (⟨"StairRowModel", "bedItem", "()V"⟩, 16) := ⟨⟨by decide +kernel, by decide +kernel⟩, List.mem_of_getElem? (i := 833) (by decide +kernel), List.mem_of_getElem? (i := 1239) (by decide +kernel), List.mem_of_getElem? (i := 1240) (by decide +kernel)⟩
theorem lw_p113 : lw_okq (⟨"StairRowModel", "wrong", "(I)I"⟩, 16) := ⟨⟨by decide +kernel, by decide +kernel⟩, List.mem_of_getElem? (i := 833) (by decide +kernel), List.mem_of_getElem? (i := 1268) (by decide +kernel), List.mem_of_getElem? (i := 1269) (by decide +kernel)⟩
theorem lw_p114 : lw_okq (⟨"StairRowModel", "doors", "()I"⟩, 16) := ⟨⟨by decide +kernel, by decide +kernel⟩, List.mem_of_getElem? (i := 833) (by decide +kernel), List.mem_of_getElem? (i := 1303) (by decide +kernel), List.mem_of_getElem? (i := 1304) (by decide +kernel)⟩
theorem lw_p115 : lw_okq (⟨"StairRowModel", "stairs", "()I"⟩, 16) := ⟨⟨by decide +kernel, by decide +kernel⟩, List.mem_of_getElem? (i := 833) (by decide +kernel), List.mem_of_getElem? (i := 1307) (by decide +kernel), List.mem_of_getElem? (i := 1308) (by decide +kernel)⟩
theorem lw_p116 : lw_okq (⟨"StairRowModel", "sleepers", "()I"⟩, 16) := ⟨⟨by decide +kernel, by decide +kernel⟩, List.mem_of_getElem? (i := 833) (by decide +kernel), List.mem_of_getElem? (i := 1311) (by decide +kernel), List.mem_of_getElem? (i := 1312) (by decide +kernel)⟩
theorem lw_p117 : lw_okq (⟨"StairRowModel", "held", "()I"⟩, 16) := ⟨⟨by decide +kernel, by decide +kernel⟩, List.mem_of_getElem? (i := 833) (by decide +kernel), List.mem_of_getElem? (i := 1315) (by decide +kernel), List.mem_of_getElem? (i := 1316) (by decide +kernel)⟩
def lw_privs_8 : List (MethodName × Nat) := [(⟨"StairRowModel", "bedItem", "()V"⟩, 16), (⟨"StairRowModel", "wrong", "(I)I"⟩, 16), (⟨"StairRowModel", "doors", "()I"⟩, 16), (⟨"StairRowModel", "stairs", "()I"⟩, 16), (⟨"StairRowModel", "sleepers", "()I"⟩, 16), (⟨"StairRowModel", "held", "()I"⟩, 16)]
theorem lw_r8 : ∀ q ∈ lw_privs_8, lw_okq q := List.forall_mem_cons.mpr ⟨lw_p112, List.forall_mem_cons.mpr ⟨lw_p113, List.forall_mem_cons.mpr ⟨lw_p114, List.forall_mem_cons.mpr ⟨lw_p115, List.forall_mem_cons.mpr ⟨lw_p116, List.forall_mem_cons.mpr ⟨lw_p117, fun _ h => absurd h List.not_mem_nil⟩⟩⟩⟩⟩⟩
def lw_privs : List (MethodName × Nat) := lw_privs_1 ++ (lw_privs_2 ++ (lw_privs_3 ++ (lw_privs_4 ++ (lw_privs_5 ++ (lw_privs_6 ++ (lw_privs_7 ++ (lw_privs_8)))))))
def lw_tbl : List Cond := k2_sels lw_privs ++ tables_1
theorem lw_privs_ok : ∀ q ∈ lw_privs, lw_okq q := by
  show ∀ q ∈ lw_privs_1 ++ (lw_privs_2 ++ (lw_privs_3 ++ (lw_privs_4 ++ (lw_privs_5 ++ (lw_privs_6 ++ (lw_privs_7 ++ (lw_privs_8))))))), lw_okq q
  exact List.forall_mem_append.mpr ⟨lw_r1, List.forall_mem_append.mpr ⟨lw_r2, List.forall_mem_append.mpr ⟨lw_r3, List.forall_mem_append.mpr ⟨lw_r4, List.forall_mem_append.mpr ⟨lw_r5, List.forall_mem_append.mpr ⟨lw_r6, List.forall_mem_append.mpr ⟨lw_r7, lw_r8⟩⟩⟩⟩⟩⟩⟩

def RX0 : String := "StairRow$House"
def TX0 : u_T := fun k => match k with
  | 0 => ("StairRow$House", "number", "I", false)
  | 1 => ("StairRow$House", "kind", "I", false)
  | 2 => ("StairRow$House", "stair", "I", false)
  | 3 => ("StairRow$House", "leave", "I", false)
  | 4 => ("StairRow$House", "from", "I", false)
  | 5 => ("StairRow$House", "to", "I", false)
  | 6 => ("StairRow$House", "foes", "I", false)
  | 7 => ("StairRow$House", "sleepers", "I", false)
  | _ => ("StairRow$House", "bed", "I", false)
def tyX0 : Nat → FieldType := fun k => match k with
  | 0 => .int
  | 1 => .int
  | 2 => .int
  | 3 => .int
  | 4 => .int
  | 5 => .int
  | 6 => .int
  | 7 => .int
  | _ => .int
abbrev wsX00 : List Cond := u_ws RX0 TX0 9
theorem nmX0 : ∀ a, a < 9 → ∀ b, b < 9 → a ≠ b → (TX0 a).2.1 ≠ (TX0 b).2.1 := by decide +kernel
theorem tyX0_ok : ∀ k, k < 9 → parseFieldDescriptor (TX0 k).2.2.1 = some (tyX0 k) := by decide +kernel
def RX1 : String := "StairRow$Plan"
def TX1 : u_T := fun k => match k with
  | 0 => ("StairRow$Plan", "joints", "[I", true)
  | 1 => ("StairRow$Plan", "wakes", "[I", true)
  | 2 => ("StairRow$Plan", "layers", "[I", true)
  | _ => ("StairRow$Plan", "noises", "[I", true)
def tyX1 : Nat → FieldType := fun k => match k with
  | 0 => .array .int
  | 1 => .array .int
  | 2 => .array .int
  | _ => .array .int
abbrev wsX10 : List Cond := u_ws RX1 TX1 4
theorem nmX1 : ∀ a, a < 4 → ∀ b, b < 4 → a ≠ b → (TX1 a).2.1 ≠ (TX1 b).2.1 := by decide +kernel
theorem tyX1_ok : ∀ k, k < 4 → parseFieldDescriptor (TX1 k).2.2.1 = some (tyX1 k) := by decide +kernel
def RX2 : String := "StairRow$Row"
def TX2 : u_T := fun k => match k with
  | 0 => ("StairRow$Row", "houses", "[LStairRow$House;", true)
  | 1 => ("StairRow$Row", "size", "I", false)
  | 2 => ("StairRow$Row", "doors", "I", false)
  | 3 => ("StairRow$Row", "z", "I", false)
  | _ => ("StairRow$Row", "spots", "[I", true)
def tyX2 : Nat → FieldType := fun k => match k with
  | 0 => .array (.object "StairRow$House")
  | 1 => .int
  | 2 => .int
  | 3 => .int
  | _ => .array .int
abbrev wsX20 : List Cond := u_ws RX2 TX2 5
theorem nmX2 : ∀ a, a < 5 → ∀ b, b < 5 → a ≠ b → (TX2 a).2.1 ≠ (TX2 b).2.1 := by decide +kernel
theorem tyX2_ok : ∀ k, k < 5 → parseFieldDescriptor (TX2 k).2.2.1 = some (tyX2 k) := by decide +kernel
def RX3 : String := "StairRow$Sheet"
def TX3 : u_T := fun k => match k with
  | 0 => ("StairRow$Sheet", "bits", "I", false)
  | 1 => ("StairRow$Sheet", "size", "I", false)
  | _ => ("StairRow$Sheet", "numbers", "[I", true)
def tyX3 : Nat → FieldType := fun k => match k with
  | 0 => .int
  | 1 => .int
  | _ => .array .int
abbrev wsX30 : List Cond := u_ws RX3 TX3 3
theorem nmX3 : ∀ a, a < 3 → ∀ b, b < 3 → a ≠ b → (TX3 a).2.1 ≠ (TX3 b).2.1 := by decide +kernel
theorem tyX3_ok : ∀ k, k < 3 → parseFieldDescriptor (TX3 k).2.2.1 = some (tyX3 k) := by decide +kernel
def RX4 : String := "StairRow$Tape"
def TX4 : u_T := fun k => match k with
  | 0 => ("StairRow$Tape", "bytes", "[I", true)
  | 1 => ("StairRow$Tape", "size", "I", false)
  | 2 => ("StairRow$Tape", "sorts", "[I", true)
  | 3 => ("StairRow$Tape", "values", "[I", true)
  | 4 => ("StairRow$Tape", "places", "[I", true)
  | 5 => ("StairRow$Tape", "tokens", "I", false)
  | _ => ("StairRow$Tape", "here", "I", false)
def tyX4 : Nat → FieldType := fun k => match k with
  | 0 => .array .int
  | 1 => .int
  | 2 => .array .int
  | 3 => .array .int
  | 4 => .array .int
  | 5 => .int
  | _ => .int
abbrev wsX40 : List Cond := u_ws RX4 TX4 7
theorem nmX4 : ∀ a, a < 7 → ∀ b, b < 7 → a ≠ b → (TX4 a).2.1 ≠ (TX4 b).2.1 := by decide +kernel
theorem tyX4_ok : ∀ k, k < 7 → parseFieldDescriptor (TX4 k).2.2.1 = some (tyX4 k) := by decide +kernel
def RX5 : String := "StairRow"
def TX5 : u_T := fun k => match k with
  | 0 => ("StairRow", "row", "LStairRow$Row;", true)
  | 1 => ("StairRow", "draft", "LStairRow$Row;", true)
  | 2 => ("StairRow", "kept", "LStairRow$Row;", true)
  | 3 => ("StairRow", "keeps", "Z", false)
  | 4 => ("StairRow", "plan", "LStairRow$Plan;", true)
  | 5 => ("StairRow", "tape", "LStairRow$Tape;", true)
  | 6 => ("StairRow", "sheets", "[LStairRow$Sheet;", true)
  | _ => ("StairRow", "told", "[I", true)
def tyX5 : Nat → FieldType := fun k => match k with
  | 0 => .object "StairRow$Row"
  | 1 => .object "StairRow$Row"
  | 2 => .object "StairRow$Row"
  | 3 => .boolean
  | 4 => .object "StairRow$Plan"
  | 5 => .object "StairRow$Tape"
  | 6 => .array (.object "StairRow$Sheet")
  | _ => .array .int
abbrev wsX50 : List Cond := u_ws RX5 TX5 8
theorem nmX5 : ∀ a, a < 8 → ∀ b, b < 8 → a ≠ b → (TX5 a).2.1 ≠ (TX5 b).2.1 := by decide +kernel
theorem tyX5_ok : ∀ k, k < 8 → parseFieldDescriptor (TX5 k).2.2.1 = some (tyX5 k) := by decide +kernel
def RX6 : String := "StairRowModel"
def TX6 : u_T := fun k => match k with
  | 0 => ("StairRowModel", "s", "[I", true)
  | 1 => ("StairRowModel", "keptS", "[I", true)
  | 2 => ("StairRowModel", "other", "[I", true)
  | 3 => ("StairRowModel", "statuses", "[I", true)
  | 4 => ("StairRowModel", "isKept", "Z", false)
  | 5 => ("StairRowModel", "noises", "[I", true)
  | 6 => ("StairRowModel", "tape", "[I", true)
  | 7 => ("StairRowModel", "taped", "I", false)
  | 8 => ("StairRowModel", "from", "I", false)
  | 9 => ("StairRowModel", "to", "I", false)
  | 10 => ("StairRowModel", "value", "I", false)
  | 11 => ("StairRowModel", "isWrong", "Z", false)
  | 12 => ("StairRowModel", "bitsOf", "[I", true)
  | 13 => ("StairRowModel", "sizeOf", "[I", true)
  | 14 => ("StairRowModel", "number", "[I", true)
  | _ => ("StairRowModel", "moved", "[I", true)
def tyX6 : Nat → FieldType := fun k => match k with
  | 0 => .array .int
  | 1 => .array .int
  | 2 => .array .int
  | 3 => .array .int
  | 4 => .boolean
  | 5 => .array .int
  | 6 => .array .int
  | 7 => .int
  | 8 => .int
  | 9 => .int
  | 10 => .int
  | 11 => .boolean
  | 12 => .array .int
  | 13 => .array .int
  | 14 => .array .int
  | _ => .array .int
abbrev wsX60 : List Cond := u_ws RX6 TX6 16
theorem nmX6 : ∀ a, a < 16 → ∀ b, b < 16 → a ≠ b → (TX6 a).2.1 ≠ (TX6 b).2.1 := by decide +kernel
theorem tyX6_ok : ∀ k, k < 16 → parseFieldDescriptor (TX6 k).2.2.1 = some (tyX6 k) := by decide +kernel
abbrev vwCl : List vw_C := [(RX0, TX0, 9), (RX1, TX1, 4), (RX2, TX2, 5), (RX3, TX3, 3), (RX4, TX4, 7), (RX5, TX5, 8), (RX6, TX6, 16)]
theorem ab_mem {big ws : List Cond} (ps : List Nat) (h : ws = ps.filterMap (fun i => big[i]?)) : ∀ w ∈ ws, w ∈ big := by
  intro w hw
  rw [h] at hw
  obtain ⟨i, -, hi⟩ := List.mem_filterMap.mp hw
  exact List.mem_of_getElem? hi
set_option maxRecDepth 20000 in
theorem ab_inX0 : ∀ w ∈ wsX00, w ∈ lw_tbl := ab_mem [178, 180, 182, 184, 186, 188, 190, 192, 194] (by decide +kernel)
set_option maxRecDepth 20000 in
theorem ab_inX1 : ∀ w ∈ wsX10, w ∈ lw_tbl := ab_mem [229, 231, 233, 235] (by decide +kernel)
set_option maxRecDepth 20000 in
theorem ab_inX2 : ∀ w ∈ wsX20, w ∈ lw_tbl := ab_mem [208, 210, 212, 214, 216] (by decide +kernel)
set_option maxRecDepth 20000 in
theorem ab_inX3 : ∀ w ∈ wsX30, w ∈ lw_tbl := ab_mem [280, 282, 284] (by decide +kernel)
set_option maxRecDepth 20000 in
theorem ab_inX4 : ∀ w ∈ wsX40, w ∈ lw_tbl := ab_mem [252, 254, 256, 258, 260, 262, 264] (by decide +kernel)
set_option maxRecDepth 20000 in
theorem ab_inX5 : ∀ w ∈ wsX50, w ∈ lw_tbl := ab_mem [295, 297, 299, 301, 303, 305, 307, 309] (by decide +kernel)
set_option maxRecDepth 20000 in
theorem ab_inX6 : ∀ w ∈ wsX60, w ∈ lw_tbl := ab_mem [972, 974, 976, 978, 980, 982, 984, 986, 988, 990, 992, 994, 996, 998, 1000, 1002] (by decide +kernel)
end
section
abbrev ab_I : Type := MethodName × ByteArray × Nat × Option FieldType × Nat × Bool × Nat × Nat × (Nat × Nat × Nat × Nat) × List (Nat × Instr × Nat)
def ab_m0 : ab_I := (⟨"StairRow$House", "<init>", "()V"⟩, prog_2_method_1_code, 1, none, 0, false, 1, 1, (152, 151, 121, 0), [(0, .aload_n 0, 1), (1, .invokespecial 1, 3), (4, .return_, 1)])
def ab_m1 : ab_I := (⟨"StairRow$House", "isKind", "(I)Z"⟩, prog_2_method_2_code, 1, some .boolean, 0, true, 1, 2, (318, 317, 121, 0), [(0, .iload_n 0, 1), (1, .getstatic 7, 3), (4, .arraylength, 1), (5, .invokestatic 13, 3), (8, .ireturn, 1)])
def ab_m2 : ab_I := (⟨"StairRow$House", "renew", "(II)V"⟩, prog_2_method_3_code, 3, none, 0, false, 3, 1, (351, 350, 121, 4), [(0, .aload_n 0, 1), (1, .iload_n 1, 1), (2, .putfield 19, 3), (5, .aload_n 0, 1), (6, .iload_n 2, 1), (7, .putfield 23, 3), (10, .aload_n 0, 1), (11, .iconst (-1), 1), (12, .putfield 26, 3), (15, .aload_n 0, 1), (16, .iconst 0, 1), (17, .putfield 29, 3), (20, .aload_n 0, 1), (21, .bipush 6, 2), (23, .putfield 32, 3), (26, .aload_n 0, 1), (27, .bipush 22, 2), (29, .putfield 35, 3), (32, .aload_n 0, 1), (33, .iconst 0, 1), (34, .putfield 38, 3), (37, .aload_n 0, 1), (38, .iconst 2, 1), (39, .putfield 41, 3), (42, .aload_n 0, 1), (43, .iload_n 1, 1), (44, .putfield 44, 3), (47, .return_, 1)])
def ab_m3 : ab_I := (⟨"StairRow$House", "takeFrom", "(LStairRow$House;)V"⟩, prog_2_method_4_code, 2, none, 0, false, 2, 1, (569, 568, 121, 33), [(0, .aload_n 0, 1), (1, .aload_n 1, 1), (2, .getfield 19, 3), (5, .putfield 19, 3), (8, .aload_n 0, 1), (9, .aload_n 1, 1), (10, .getfield 23, 3), (13, .putfield 23, 3), (16, .aload_n 0, 1), (17, .aload_n 1, 1), (18, .getfield 26, 3), (21, .putfield 26, 3), (24, .aload_n 0, 1), (25, .aload_n 1, 1), (26, .getfield 29, 3), (29, .putfield 29, 3), (32, .aload_n 0, 1), (33, .aload_n 1, 1), (34, .getfield 32, 3), (37, .putfield 32, 3), (40, .aload_n 0, 1), (41, .aload_n 1, 1), (42, .getfield 35, 3), (45, .putfield 35, 3), (48, .aload_n 0, 1), (49, .aload_n 1, 1), (50, .getfield 38, 3), (53, .putfield 38, 3), (56, .aload_n 0, 1), (57, .aload_n 1, 1), (58, .getfield 41, 3), (61, .putfield 41, 3), (64, .aload_n 0, 1), (65, .aload_n 1, 1), (66, .getfield 44, 3), (69, .putfield 44, 3), (72, .return_, 1)])
def ab_m4 : ab_I := (⟨"StairRow$House", "tell", "(I)I"⟩, prog_2_method_5_code, 2, some .int, 0, false, 2, 1, (360, 359, 121, 5), [(0, .iload_n 1, 1), (1, .tableswitch 78 0 6 #[43, 48, 53, 58, 63, 68, 73], 43), (44, .aload_n 0, 1), (45, .getfield 23, 3), (48, .ireturn, 1), (49, .aload_n 0, 1), (50, .getfield 26, 3), (53, .ireturn, 1), (54, .aload_n 0, 1), (55, .getfield 29, 3), (58, .ireturn, 1), (59, .aload_n 0, 1), (60, .getfield 32, 3), (63, .ireturn, 1), (64, .aload_n 0, 1), (65, .getfield 35, 3), (68, .ireturn, 1), (69, .aload_n 0, 1), (70, .getfield 38, 3), (73, .ireturn, 1), (74, .aload_n 0, 1), (75, .getfield 41, 3), (78, .ireturn, 1), (79, .aload_n 0, 1), (80, .getfield 44, 3), (83, .ireturn, 1)])
def ab_m5 : ab_I := (⟨"StairRow$House", "become", "(II)V"⟩, prog_2_method_6_code, 3, none, 0, false, 3, 1, (378, 377, 121, 8), [(0, .iload_n 1, 1), (1, .tableswitch 87 0 7 #[47, 87, 87, 55, 63, 87, 71, 79], 47), (48, .aload_n 0, 1), (49, .iload_n 2, 1), (50, .putfield 23, 3), (53, .goto 35, 3), (56, .aload_n 0, 1), (57, .iload_n 2, 1), (58, .putfield 32, 3), (61, .goto 27, 3), (64, .aload_n 0, 1), (65, .iload_n 2, 1), (66, .putfield 35, 3), (69, .goto 19, 3), (72, .aload_n 0, 1), (73, .iload_n 2, 1), (74, .putfield 41, 3), (77, .goto 11, 3), (80, .aload_n 0, 1), (81, .iload_n 2, 1), (82, .putfield 44, 3), (85, .goto 3, 3), (88, .return_, 1)])
def ab_m6 : ab_I := (⟨"StairRow$House", "isOne", "(I)Z"⟩, prog_2_method_7_code, 4, some .boolean, 0, false, 2, 3, (861, 860, 121, 64), [(0, .aload_n 0, 1), (1, .getfield 23, 3), (4, .istore_n 2, 1), (5, .iconst 0, 1), (6, .istore_n 3, 1), (7, .iload_n 3, 1), (8, .getstatic 7, 3), (11, .arraylength, 1), (12, .if_icmp .ge 31, 3), (15, .iload_n 2, 1), (16, .invokestatic 47, 3), (19, .ifCond .eq 24, 3), (22, .iload_n 2, 1), (23, .iload_n 1, 1), (24, .if_icmp .ne 5, 3), (27, .iconst 1, 1), (28, .ireturn, 1), (29, .getstatic 7, 3), (32, .iload_n 2, 1), (33, .invokestatic 51, 3), (36, .istore_n 2, 1), (37, .iinc 3 1, 3), (40, .goto (-33), 3), (43, .iconst 0, 1), (44, .ireturn, 1)])
def ab_m7 : ab_I := (⟨"StairRow$House", "isInHours", "(I)Z"⟩, prog_2_method_8_code, 2, some .boolean, 0, false, 2, 1, (427, 426, 121, 13), [(0, .aload_n 0, 1), (1, .getfield 32, 3), (4, .aload_n 0, 1), (5, .getfield 35, 3), (8, .if_icmp .le 25, 3), (11, .iload_n 1, 1), (12, .aload_n 0, 1), (13, .getfield 32, 3), (16, .if_icmp .ge 11, 3), (19, .iload_n 1, 1), (20, .aload_n 0, 1), (21, .getfield 35, 3), (24, .if_icmp .gt 7, 3), (27, .iconst 1, 1), (28, .goto 4, 3), (31, .iconst 0, 1), (32, .ireturn, 1), (33, .iload_n 1, 1), (34, .aload_n 0, 1), (35, .getfield 32, 3), (38, .if_icmp .lt 15, 3), (41, .iload_n 1, 1), (42, .aload_n 0, 1), (43, .getfield 35, 3), (46, .if_icmp .gt 7, 3), (49, .iconst 1, 1), (50, .goto 4, 3), (53, .iconst 0, 1), (54, .ireturn, 1)])
def ab_m8 : ab_I := (⟨"StairRow$House", "admits", "(III)Z"⟩, prog_2_method_9_code, 7, some .boolean, 0, false, 4, 2, (423, 422, 121, 12), [(0, .iload_n 1, 1), (1, .aload_n 0, 1), (2, .getfield 19, 3), (5, .if_icmp .ne 5, 3), (8, .iconst 1, 1), (9, .ireturn, 1), (10, .aload_n 0, 1), (11, .iload_n 2, 1), (12, .invokevirtual 55, 3), (15, .istore 4, 2), (17, .iload 4, 2), (19, .ifCond .eq 15, 3), (22, .iload_n 3, 1), (23, .iload_n 1, 1), (24, .invokestatic 58, 3), (27, .ifCond .eq 7, 3), (30, .iconst 1, 1), (31, .goto 4, 3), (34, .iconst 0, 1), (35, .istore 5, 2), (37, .iload 5, 2), (39, .ifCond .eq 13, 3), (42, .iload_n 2, 1), (43, .bipush 20, 2), (45, .if_icmp .ge 7, 3), (48, .iconst 1, 1), (49, .goto 4, 3), (52, .iconst 0, 1), (53, .istore 6, 2), (55, .aload_n 0, 1), (56, .getfield 23, 3), (59, .tableswitch 107 1 6 #[37, 40, 43, 68, 45, 85], 37), (96, .iload 6, 2), (98, .ireturn, 1), (99, .iload 4, 2), (101, .ireturn, 1), (102, .iconst 1, 1), (103, .ireturn, 1), (104, .iload 5, 2), (106, .ifCond .eq 19, 3), (109, .iload_n 2, 1), (110, .bipush 20, 2), (112, .if_icmp .ge 13, 3), (115, .iload_n 2, 1), (116, .bipush 7, 2), (118, .if_icmp .lt 7, 3), (121, .iconst 1, 1), (122, .goto 4, 3), (125, .iconst 0, 1), (126, .ireturn, 1), (127, .iload 6, 2), (129, .ifCond .ne 9, 3), (132, .iload_n 2, 1), (133, .bipush 12, 2), (135, .if_icmp .ne 7, 3), (138, .iconst 1, 1), (139, .goto 4, 3), (142, .iconst 0, 1), (143, .ireturn, 1), (144, .iload 6, 2), (146, .ifCond .eq 18, 3), (149, .aload_n 0, 1), (150, .getfield 38, 3), (153, .iload_n 1, 1), (154, .invokestatic 58, 3), (157, .ifCond .ne 7, 3), (160, .iconst 1, 1), (161, .goto 4, 3), (164, .iconst 0, 1), (165, .ireturn, 1), (166, .iload 5, 2), (168, .ireturn, 1)])
def ab_m9 : ab_I := (⟨"StairRow$House", "wakes", "(I)I"⟩, prog_2_method_10_code, 3, some .int, 0, false, 2, 1, (496, 495, 121, 23), [(0, .aload_n 0, 1), (1, .getfield 23, 3), (4, .iconst 3, 1), (5, .if_icmp .ne 5, 3), (8, .iconst 0, 1), (9, .ireturn, 1), (10, .iload_n 1, 1), (11, .bipush 22, 2), (13, .if_icmp .ge 9, 3), (16, .iload_n 1, 1), (17, .bipush 6, 2), (19, .if_icmp .ge 10, 3), (22, .aload_n 0, 1), (23, .getfield 41, 3), (26, .goto 4, 3), (29, .iconst 0, 1), (30, .istore_n 2, 1), (31, .aload_n 0, 1), (32, .getfield 23, 3), (35, .iconst 5, 1), (36, .if_icmp .ne 9, 3), (39, .iload_n 2, 1), (40, .iconst 1, 1), (41, .iadd, 1), (42, .goto 4, 3), (45, .iload_n 2, 1), (46, .ireturn, 1)])
def ab_m10 : ab_I := (⟨"StairRow$House", "fallOut", "(I)V"⟩, prog_2_method_11_code, 2, none, 0, false, 2, 2, (605, 604, 121, 36), [(0, .aload_n 0, 1), (1, .aload_n 0, 1), (2, .getfield 29, 3), (5, .iload_n 1, 1), (6, .iconst 0, 1), (7, .invokestatic 61, 3), (10, .putfield 29, 3), (13, .aload_n 0, 1), (14, .aload_n 0, 1), (15, .getfield 38, 3), (18, .iload_n 1, 1), (19, .iconst 1, 1), (20, .invokestatic 61, 3), (23, .putfield 38, 3), (26, .return_, 1)])
def ab_m11 : ab_I := (⟨"StairRow$Plan", "<init>", "()V"⟩, prog_3_method_1_code, 1, none, 1, false, 1, 1, (223, 222, 122, 0), [(0, .aload_n 0, 1), (1, .invokespecial 3, 3), (4, .aload_n 0, 1), (5, .bipush 16, 2), (7, .newarray .int, 2), (9, .putfield 9, 3), (12, .aload_n 0, 1), (13, .bipush 16, 2), (15, .newarray .int, 2), (17, .putfield 15, 3), (20, .aload_n 0, 1), (21, .bipush 16, 2), (23, .newarray .int, 2), (25, .putfield 18, 3), (28, .aload_n 0, 1), (29, .bipush 16, 2), (31, .newarray .int, 2), (33, .putfield 21, 3), (36, .return_, 1)])
def ab_m12 : ab_I := (⟨"StairRow$Plan", "draw", "(LStairRow$Row;)V"⟩, prog_3_method_2_code, 3, none, 1, false, 2, 4, (463, 462, 122, 18), [(0, .iconst 0, 1), (1, .istore_n 2, 1), (2, .iload_n 2, 1), (3, .bipush 16, 2), (5, .if_icmp .ge 34, 3), (8, .aload_n 0, 1), (9, .getfield 9, 3), (12, .iload_n 2, 1), (13, .aload_n 1, 1), (14, .iload_n 2, 1), (15, .invokevirtual 24, 3), (18, .ifCond .eq 11, 3), (21, .aload_n 1, 1), (22, .iload_n 2, 1), (23, .invokevirtual 30, 3), (26, .goto 4, 3), (29, .iconst 0, 1), (30, .invokestatic 34, 3), (33, .iinc 2 1, 3), (36, .goto (-34), 3), (39, .return_, 1)])
def ab_m13 : ab_I := (⟨"StairRow$Plan", "listen", "(LStairRow$Row;I)V"⟩, prog_3_method_3_code, 4, none, 1, false, 3, 3, (488, 487, 122, 21), [(0, .iconst 0, 1), (1, .istore_n 3, 1), (2, .iload_n 3, 1), (3, .bipush 16, 2), (5, .if_icmp .ge 23, 3), (8, .aload_n 0, 1), (9, .getfield 15, 3), (12, .iload_n 3, 1), (13, .aload_n 1, 1), (14, .iload_n 3, 1), (15, .iload_n 2, 1), (16, .invokevirtual 38, 3), (19, .invokestatic 34, 3), (22, .iinc 3 1, 3), (25, .goto (-23), 3), (28, .return_, 1)])
def ab_m14 : ab_I := (⟨"StairRow$Plan", "jointsOf", "(I)I"⟩, prog_3_method_4_code, 2, some .int, 1, false, 2, 2, (917, 916, 122, 70), [(0, .aload_n 0, 1), (1, .getfield 9, 3), (4, .iload_n 1, 1), (5, .invokestatic 42, 3), (8, .ireturn, 1)])
def ab_m15 : ab_I := (⟨"StairRow$Plan", "besidesAny", "(I)I"⟩, prog_3_method_5_code, 4, some .int, 1, false, 2, 2, (477, 476, 122, 20), [(0, .iconst 0, 1), (1, .istore_n 2, 1), (2, .iconst 0, 1), (3, .istore_n 3, 1), (4, .iload_n 3, 1), (5, .bipush 16, 2), (7, .if_icmp .ge 28, 3), (10, .iload_n 1, 1), (11, .iload_n 3, 1), (12, .invokestatic 46, 3), (15, .ifCond .eq 14, 3), (18, .iload_n 2, 1), (19, .aload_n 0, 1), (20, .getfield 9, 3), (23, .iload_n 3, 1), (24, .invokestatic 42, 3), (27, .ior, 1), (28, .istore_n 2, 1), (29, .iinc 3 1, 3), (32, .goto (-28), 3), (35, .iload_n 2, 1), (36, .ireturn, 1)])
def ab_m16 : ab_I := (⟨"StairRow$Plan", "reachable", "(I)I"⟩, prog_3_method_6_code, 6, some .int, 1, false, 2, 3, (533, 532, 122, 29), [(0, .iload_n 1, 1), (1, .invokestatic 50, 3), (4, .istore_n 2, 1), (5, .sipush 21845, 3), (8, .iload_n 2, 1), (9, .iand, 1), (10, .istore_n 3, 1), (11, .iload_n 3, 1), (12, .istore 4, 2), (14, .iconst 0, 1), (15, .istore 5, 2), (17, .iload 5, 2), (19, .bipush 16, 2), (21, .if_icmp .ge 33, 3), (24, .iload 4, 2), (26, .ifCond .eq 28, 3), (29, .aload_n 0, 1), (30, .iload 4, 2), (32, .invokevirtual 53, 3), (35, .iload_n 2, 1), (36, .iand, 1), (37, .iload_n 3, 1), (38, .iconst (-1), 1), (39, .ixor, 1), (40, .iand, 1), (41, .istore 4, 2), (43, .iload_n 3, 1), (44, .iload 4, 2), (46, .ior, 1), (47, .istore_n 3, 1), (48, .iinc 5 1, 3), (51, .goto (-34), 3), (54, .iload_n 3, 1), (55, .ireturn, 1)])
def ab_m17 : ab_I := (⟨"StairRow$Plan", "shortest", "(II)I"⟩, prog_3_method_7_code, 7, some .int, 1, false, 3, 3, (470, 469, 122, 19), [(0, .iload_n 2, 1), (1, .invokestatic 50, 3), (4, .istore_n 3, 1), (5, .iconst 1, 1), (6, .iload_n 1, 1), (7, .ishl, 1), (8, .iload_n 3, 1), (9, .iand, 1), (10, .istore 4, 2), (12, .iload 4, 2), (14, .istore 5, 2), (16, .iconst 0, 1), (17, .istore 6, 2), (19, .iload 6, 2), (21, .bipush 16, 2), (23, .if_icmp .ge 61, 3), (26, .iload 4, 2), (28, .ifCond .eq 56, 3), (31, .aload_n 0, 1), (32, .getfield 18, 3), (35, .iload 6, 2), (37, .iload 4, 2), (39, .invokestatic 34, 3), (42, .iload 4, 2), (44, .sipush 21845, 3), (47, .iand, 1), (48, .ifCond .eq 8, 3), (51, .iload 6, 2), (53, .iconst 1, 1), (54, .iadd, 1), (55, .ireturn, 1), (56, .aload_n 0, 1), (57, .iload 4, 2), (59, .invokevirtual 53, 3), (62, .iload_n 3, 1), (63, .iand, 1), (64, .iload 5, 2), (66, .iconst (-1), 1), (67, .ixor, 1), (68, .iand, 1), (69, .istore 4, 2), (71, .iload 5, 2), (73, .iload 4, 2), (75, .ior, 1), (76, .istore 5, 2), (78, .iinc 6 1, 3), (81, .goto (-62), 3), (84, .iconst 0, 1), (85, .ireturn, 1)])
def ab_m18 : ab_I := (⟨"StairRow$Plan", "roomOnWay", "(III)I"⟩, prog_3_method_8_code, 8, some .int, 1, false, 4, 4, (521, 520, 122, 28), [(0, .aload_n 0, 1), (1, .iload_n 1, 1), (2, .iload_n 2, 1), (3, .invokevirtual 56, 3), (6, .istore 4, 2), (8, .iload_n 3, 1), (9, .iload 4, 2), (11, .if_icmp .lt 5, 3), (14, .iconst (-1), 1), (15, .ireturn, 1), (16, .sipush 21845, 3), (19, .istore 5, 2), (21, .iconst (-1), 1), (22, .istore 6, 2), (24, .iconst 0, 1), (25, .istore 7, 2), (27, .iload 7, 2), (29, .iload_n 3, 1), (30, .if_icmp .gt 42, 3), (33, .iload 5, 2), (35, .aload_n 0, 1), (36, .getfield 18, 3), (39, .iload 4, 2), (41, .iconst 1, 1), (42, .isub, 1), (43, .iload 7, 2), (45, .isub, 1), (46, .invokestatic 42, 3), (49, .iand, 1), (50, .invokestatic 59, 3), (53, .istore 6, 2), (55, .aload_n 0, 1), (56, .getfield 9, 3), (59, .iload 6, 2), (61, .invokestatic 42, 3), (64, .istore 5, 2), (66, .iinc 7 1, 3), (69, .goto (-42), 3), (72, .iload 6, 2), (74, .ireturn, 1)])
def ab_m19 : ab_I := (⟨"StairRow$Plan", "least", "(I)I"⟩, prog_3_method_9_code, 2, some .int, 1, true, 1, 2, (525, 524, 122, 0), [(0, .iconst 0, 1), (1, .istore_n 1, 1), (2, .iload_n 1, 1), (3, .bipush 16, 2), (5, .if_icmp .ge 19, 3), (8, .iload_n 0, 1), (9, .iload_n 1, 1), (10, .invokestatic 46, 3), (13, .ifCond .eq 5, 3), (16, .iload_n 1, 1), (17, .ireturn, 1), (18, .iinc 1 1, 3), (21, .goto (-19), 3), (24, .iconst (-1), 1), (25, .ireturn, 1)])
def ab_m20 : ab_I := (⟨"StairRow$Plan", "quietest", "(II)I"⟩, prog_3_method_10_code, 7, some .int, 1, false, 3, 3, (500, 499, 122, 24), [(0, .iload_n 2, 1), (1, .invokestatic 50, 3), (4, .istore_n 3, 1), (5, .iconst 0, 1), (6, .istore 4, 2), (8, .iload 4, 2), (10, .bipush 16, 2), (12, .if_icmp .ge 36, 3), (15, .aload_n 0, 1), (16, .getfield 21, 3), (19, .iload 4, 2), (21, .sipush 21845, 3), (24, .iload_n 3, 1), (25, .iand, 1), (26, .iload 4, 2), (28, .invokestatic 46, 3), (31, .ifCond .eq 7, 3), (34, .iconst 0, 1), (35, .goto 4, 3), (38, .iconst (-1), 1), (39, .invokestatic 34, 3), (42, .iinc 4 1, 3), (45, .goto (-37), 3), (48, .iconst 1, 1), (49, .istore 4, 2), (51, .iconst 0, 1), (52, .istore 5, 2), (54, .iload 5, 2), (56, .bipush 16, 2), (58, .if_icmp .ge 45, 3), (61, .iload 4, 2), (63, .ifCond .eq 40, 3), (66, .iconst 0, 1), (67, .istore 4, 2), (69, .iconst 0, 1), (70, .istore 6, 2), (72, .iload 6, 2), (74, .bipush 16, 2), (76, .if_icmp .ge 21, 3), (79, .iload 4, 2), (81, .aload_n 0, 1), (82, .iload 6, 2), (84, .iload_n 3, 1), (85, .invokevirtual 62, 3), (88, .ior, 1), (89, .istore 4, 2), (91, .iinc 6 1, 3), (94, .goto (-22), 3), (97, .iinc 5 1, 3), (100, .goto (-46), 3), (103, .iload_n 1, 1), (104, .bipush 16, 2), (106, .invokestatic 65, 3), (109, .ifCond .eq 14, 3), (112, .aload_n 0, 1), (113, .getfield 21, 3), (116, .iload_n 1, 1), (117, .invokestatic 42, 3), (120, .goto 4, 3), (123, .iconst (-1), 1), (124, .ireturn, 1)])
def ab_m21 : ab_I := (⟨"StairRow$Plan", "goOnFrom", "(II)Z"⟩, prog_3_method_11_code, 8, some .boolean, 1, false, 3, 2, (504, 503, 122, 25), [(0, .aload_n 0, 1), (1, .getfield 21, 3), (4, .iload_n 1, 1), (5, .invokestatic 42, 3), (8, .iconst (-1), 1), (9, .if_icmp .ne 5, 3), (12, .iconst 0, 1), (13, .ireturn, 1), (14, .aload_n 0, 1), (15, .getfield 21, 3), (18, .iload_n 1, 1), (19, .invokestatic 42, 3), (22, .aload_n 0, 1), (23, .getfield 15, 3), (26, .iload_n 1, 1), (27, .invokestatic 42, 3), (30, .iadd, 1), (31, .istore_n 3, 1), (32, .aload_n 0, 1), (33, .getfield 9, 3), (36, .iload_n 1, 1), (37, .invokestatic 42, 3), (40, .iload_n 2, 1), (41, .iand, 1), (42, .istore 4, 2), (44, .iconst 0, 1), (45, .istore 5, 2), (47, .iconst 0, 1), (48, .istore 6, 2), (50, .iload 6, 2), (52, .bipush 16, 2), (54, .if_icmp .ge 55, 3), (57, .aload_n 0, 1), (58, .getfield 21, 3), (61, .iload 6, 2), (63, .invokestatic 42, 3), (66, .istore 7, 2), (68, .iload 4, 2), (70, .iload 6, 2), (72, .invokestatic 46, 3), (75, .ifCond .eq 28, 3), (78, .iload 7, 2), (80, .iconst (-1), 1), (81, .if_icmp .eq 9, 3), (84, .iload 7, 2), (86, .iload_n 3, 1), (87, .if_icmp .le 16, 3), (90, .aload_n 0, 1), (91, .getfield 21, 3), (94, .iload 6, 2), (96, .iload_n 3, 1), (97, .invokestatic 34, 3), (100, .iconst 1, 1), (101, .istore 5, 2), (103, .iinc 6 1, 3), (106, .goto (-56), 3), (109, .iload 5, 2), (111, .ireturn, 1)])
def ab_m22 : ab_I := (⟨"StairRow$Row", "<init>", "()V"⟩, prog_4_method_1_code, 2, none, 2, false, 1, 2, (145, 144, 120, 0), [(0, .aload_n 0, 1), (1, .invokespecial 3, 3), (4, .aload_n 0, 1), (5, .bipush 8, 2), (7, .anewarray 9, 3), (10, .putfield 11, 3), (13, .aload_n 0, 1), (14, .iconst 0, 1), (15, .putfield 17, 3), (18, .aload_n 0, 1), (19, .iconst 0, 1), (20, .putfield 21, 3), (23, .aload_n 0, 1), (24, .iconst 1, 1), (25, .putfield 24, 3), (28, .aload_n 0, 1), (29, .bipush 10, 2), (31, .newarray .int, 2), (33, .putfield 27, 3), (36, .iconst 0, 1), (37, .istore_n 1, 1), (38, .iload_n 1, 1), (39, .aload_n 0, 1), (40, .getfield 11, 3), (43, .arraylength, 1), (44, .if_icmp .ge 22, 3), (47, .aload_n 0, 1), (48, .getfield 11, 3), (51, .iload_n 1, 1), (52, .new 9, 3), (55, .dup, 1), (56, .invokespecial 31, 3), (59, .aastore, 1), (60, .iinc 1 1, 3), (63, .goto (-25), 3), (66, .iconst 0, 1), (67, .istore_n 1, 1), (68, .iload_n 1, 1), (69, .aload_n 0, 1), (70, .getfield 27, 3), (73, .arraylength, 1), (74, .if_icmp .ge 16, 3), (77, .aload_n 0, 1), (78, .getfield 27, 3), (81, .iload_n 1, 1), (82, .iconst (-1), 1), (83, .iastore, 1), (84, .iinc 1 1, 3), (87, .goto (-19), 3), (90, .return_, 1)])
def ab_m23 : ab_I := (⟨"StairRow$Row", "takeFrom", "(LStairRow$Row;)V"⟩, prog_4_method_2_code, 5, none, 2, false, 2, 2, (565, 564, 120, 32), [(0, .aload_n 0, 1), (1, .aload_n 1, 1), (2, .getfield 17, 3), (5, .putfield 17, 3), (8, .aload_n 0, 1), (9, .aload_n 1, 1), (10, .getfield 21, 3), (13, .putfield 21, 3), (16, .aload_n 0, 1), (17, .aload_n 1, 1), (18, .getfield 24, 3), (21, .putfield 24, 3), (24, .iconst 0, 1), (25, .istore_n 2, 1), (26, .iload_n 2, 1), (27, .aload_n 0, 1), (28, .getfield 17, 3), (31, .if_icmp .ge 37, 3), (34, .aload_n 0, 1), (35, .iload_n 2, 1), (36, .invokevirtual 32, 3), (39, .astore_n 3, 1), (40, .aload_n 1, 1), (41, .iload_n 2, 1), (42, .invokevirtual 32, 3), (45, .astore 4, 2), (47, .aload_n 3, 1), (48, .ifnull 14, 3), (51, .aload 4, 2), (53, .ifnull 9, 3), (56, .aload_n 3, 1), (57, .aload 4, 2), (59, .invokevirtual 36, 3), (62, .iinc 2 1, 3), (65, .goto (-39), 3), (68, .iconst 0, 1), (69, .istore_n 2, 1), (70, .iload_n 2, 1), (71, .bipush 10, 2), (73, .if_icmp .ge 25, 3), (76, .aload_n 0, 1), (77, .getfield 27, 3), (80, .iload_n 2, 1), (81, .aload_n 1, 1), (82, .getfield 27, 3), (85, .iload_n 2, 1), (86, .invokestatic 40, 3), (89, .invokestatic 44, 3), (92, .iinc 2 1, 3), (95, .goto (-25), 3), (98, .return_, 1)])
def ab_m24 : ab_I := (⟨"StairRow$Row", "at", "(I)LStairRow$House;"⟩, prog_4_method_3_code, 2, some (.object "StairRow$House"), 2, false, 2, 1, (347, 346, 120, 3), [(0, .iload_n 1, 1), (1, .ifCond .lt 20, 3), (4, .iload_n 1, 1), (5, .aload_n 0, 1), (6, .getfield 17, 3), (9, .if_icmp .ge 12, 3), (12, .iload_n 1, 1), (13, .aload_n 0, 1), (14, .getfield 11, 3), (17, .arraylength, 1), (18, .if_icmp .lt 7, 3), (21, .aconst_null, 1), (22, .goto 9, 3), (25, .aload_n 0, 1), (26, .getfield 11, 3), (29, .iload_n 1, 1), (30, .aaload, 1), (31, .areturn, 1)])
def ab_m25 : ab_I := (⟨"StairRow$Row", "has", "(I)Z"⟩, prog_4_method_4_code, 2, some .boolean, 2, false, 2, 2, (374, 373, 120, 7), [(0, .iload_n 1, 1), (1, .aload_n 0, 1), (2, .getfield 17, 3), (5, .invokestatic 48, 3), (8, .ireturn, 1)])
def ab_m26 : ab_I := (⟨"StairRow$Row", "hasRoom", "(I)Z"⟩, prog_4_method_5_code, 2, some .boolean, 2, false, 2, 2, (445, 444, 120, 15), [(0, .iload_n 1, 1), (1, .iconst 2, 1), (2, .aload_n 0, 1), (3, .getfield 17, 3), (6, .imul, 1), (7, .invokestatic 48, 3), (10, .ireturn, 1)])
def ab_m27 : ab_I := (⟨"StairRow$Row", "isFull", "()Z"⟩, prog_4_method_6_code, 1, some .boolean, 2, false, 1, 1, (338, 337, 120, 1), [(0, .aload_n 0, 1), (1, .getfield 17, 3), (4, .bipush 8, 2), (6, .if_icmp .lt 7, 3), (9, .iconst 1, 1), (10, .goto 4, 3), (13, .iconst 0, 1), (14, .ireturn, 1)])
def ab_m28 : ab_I := (⟨"StairRow$Row", "build", "(I)I"⟩, prog_4_method_7_code, 4, some .int, 2, false, 2, 2, (343, 342, 120, 2), [(0, .aload_n 0, 1), (1, .getfield 17, 3), (4, .istore_n 2, 1), (5, .aload_n 0, 1), (6, .dup, 1), (7, .getfield 17, 3), (10, .iconst 1, 1), (11, .iadd, 1), (12, .putfield 17, 3), (15, .aload_n 0, 1), (16, .iload_n 2, 1), (17, .invokevirtual 32, 3), (20, .astore_n 3, 1), (21, .aload_n 3, 1), (22, .ifnull 9, 3), (25, .aload_n 3, 1), (26, .iload_n 2, 1), (27, .iload_n 1, 1), (28, .invokevirtual 52, 3), (31, .iload_n 2, 1), (32, .ireturn, 1)])
def ab_m29 : ab_I := (⟨"StairRow$Row", "canBecome", "(II)Z"⟩, prog_4_method_8_code, 3, some .boolean, 2, false, 3, 3, (368, 367, 120, 6), [(0, .iload_n 1, 1), (1, .tableswitch 81 0 7 #[47, 81, 81, 52, 52, 81, 59, 75], 47), (48, .iload_n 2, 1), (49, .invokestatic 56, 3), (52, .ireturn, 1), (53, .iload_n 2, 1), (54, .bipush 24, 2), (56, .invokestatic 48, 3), (59, .ireturn, 1), (60, .iload_n 2, 1), (61, .ifCond .lt 13, 3), (64, .iload_n 2, 1), (65, .bipush 9, 2), (67, .if_icmp .gt 7, 3), (70, .iconst 1, 1), (71, .goto 4, 3), (74, .iconst 0, 1), (75, .ireturn, 1), (76, .aload_n 0, 1), (77, .iload_n 2, 1), (78, .invokevirtual 60, 3), (81, .ireturn, 1), (82, .iconst 0, 1), (83, .ireturn, 1)])
def ab_m30 : ab_I := (⟨"StairRow$Row", "isOpen", "(I)Z"⟩, prog_4_method_9_code, 2, some .boolean, 2, false, 2, 2, (404, 403, 120, 9), [(0, .iload_n 1, 1), (1, .bipush 14, 2), (3, .invokestatic 48, 3), (6, .ifCond .eq 18, 3), (9, .aload_n 0, 1), (10, .getfield 21, 3), (13, .iload_n 1, 1), (14, .invokestatic 63, 3), (17, .ifCond .eq 7, 3), (20, .iconst 1, 1), (21, .goto 4, 3), (24, .iconst 0, 1), (25, .ireturn, 1)])
def ab_m31 : ab_I := (⟨"StairRow$Row", "setDoor", "(IZ)V"⟩, prog_4_method_10_code, 3, none, 2, false, 3, 2, (409, 408, 120, 10), [(0, .aload_n 0, 1), (1, .aload_n 0, 1), (2, .getfield 21, 3), (5, .iload_n 1, 1), (6, .iload_n 2, 1), (7, .invokestatic 66, 3), (10, .putfield 21, 3), (13, .return_, 1)])
def ab_m32 : ab_I := (⟨"StairRow$Row", "stairOf", "(I)I"⟩, prog_4_method_11_code, 3, some .int, 2, false, 2, 2, (455, 454, 120, 17), [(0, .aload_n 0, 1), (1, .iload_n 1, 1), (2, .invokevirtual 32, 3), (5, .astore_n 2, 1), (6, .aload_n 2, 1), (7, .ifnonnull 7, 3), (10, .iconst (-1), 1), (11, .goto 7, 3), (14, .aload_n 2, 1), (15, .getfield 70, 3), (18, .ireturn, 1)])
def ab_m33 : ab_I := (⟨"StairRow$Row", "bedOf", "(I)I"⟩, prog_4_method_12_code, 3, some .int, 2, false, 2, 2, (517, 516, 120, 27), [(0, .aload_n 0, 1), (1, .iload_n 1, 1), (2, .invokevirtual 32, 3), (5, .astore_n 2, 1), (6, .aload_n 2, 1), (7, .ifnonnull 7, 3), (10, .iload_n 1, 1), (11, .goto 7, 3), (14, .aload_n 2, 1), (15, .getfield 73, 3), (18, .ireturn, 1)])
def ab_m34 : ab_I := (⟨"StairRow$Row", "homeOf", "(I)I"⟩, prog_4_method_13_code, 2, some .int, 2, false, 2, 3, (513, 512, 120, 26), [(0, .iconst 2, 1), (1, .aload_n 0, 1), (2, .iload_n 1, 1), (3, .invokevirtual 76, 3), (6, .imul, 1), (7, .iconst 1, 1), (8, .iadd, 1), (9, .ireturn, 1)])
def ab_m35 : ab_I := (⟨"StairRow$Row", "besides", "(I)I"⟩, prog_4_method_14_code, 5, some .int, 2, false, 2, 3, (449, 448, 120, 16), [(0, .iconst 0, 1), (1, .istore_n 2, 1), (2, .aload_n 0, 1), (3, .iload_n 1, 1), (4, .invokevirtual 80, 3), (7, .ifCond .eq 21, 3), (10, .aload_n 0, 1), (11, .iload_n 1, 1), (12, .iconst 2, 1), (13, .iadd, 1), (14, .invokevirtual 83, 3), (17, .ifCond .eq 11, 3), (20, .iload_n 2, 1), (21, .iconst 1, 1), (22, .iload_n 1, 1), (23, .iconst 2, 1), (24, .iadd, 1), (25, .ishl, 1), (26, .ior, 1), (27, .istore_n 2, 1), (28, .aload_n 0, 1), (29, .iload_n 1, 1), (30, .iconst 2, 1), (31, .isub, 1), (32, .invokevirtual 80, 3), (35, .ifCond .eq 11, 3), (38, .iload_n 2, 1), (39, .iconst 1, 1), (40, .iload_n 1, 1), (41, .iconst 2, 1), (42, .isub, 1), (43, .ishl, 1), (44, .ior, 1), (45, .istore_n 2, 1), (46, .iload_n 1, 1), (47, .iconst 2, 1), (48, .idiv, 1), (49, .istore_n 3, 1), (50, .iload_n 1, 1), (51, .iconst 2, 1), (52, .irem, 1), (53, .ifCond .ne 34, 3), (56, .aload_n 0, 1), (57, .iload_n 3, 1), (58, .invokevirtual 86, 3), (61, .istore 4, 2), (63, .aload_n 0, 1), (64, .iload 4, 2), (66, .invokevirtual 60, 3), (69, .ifCond .eq 16, 3), (72, .iload_n 2, 1), (73, .iconst 1, 1), (74, .iconst 2, 1), (75, .iload 4, 2), (77, .imul, 1), (78, .iconst 1, 1), (79, .iadd, 1), (80, .ishl, 1), (81, .ior, 1), (82, .goto 4, 3), (85, .iload_n 2, 1), (86, .ireturn, 1), (87, .iconst 0, 1), (88, .istore 4, 2), (90, .iload 4, 2), (92, .aload_n 0, 1), (93, .getfield 17, 3), (96, .if_icmp .ge 28, 3), (99, .aload_n 0, 1), (100, .iload 4, 2), (102, .invokevirtual 86, 3), (105, .iload_n 3, 1), (106, .if_icmp .ne 12, 3), (109, .iload_n 2, 1), (110, .iconst 1, 1), (111, .iconst 2, 1), (112, .iload 4, 2), (114, .imul, 1), (115, .ishl, 1), (116, .ior, 1), (117, .istore_n 2, 1), (118, .iinc 4 1, 3), (121, .goto (-31), 3), (124, .iload_n 2, 1), (125, .ireturn, 1)])
def ab_m36 : ab_I := (⟨"StairRow$Row", "admitting", "(IIII)I"⟩, prog_4_method_15_code, 9, some .int, 2, false, 5, 3, (436, 435, 120, 14), [(0, .iconst 0, 1), (1, .istore 5, 2), (3, .iconst 0, 1), (4, .istore 6, 2), (6, .iload 6, 2), (8, .aload_n 0, 1), (9, .getfield 17, 3), (12, .if_icmp .ge 86, 3), (15, .aload_n 0, 1), (16, .iload 6, 2), (18, .invokevirtual 32, 3), (21, .astore 7, 2), (23, .aload 7, 2), (25, .ifnull 67, 3), (28, .iload_n 3, 1), (29, .iload 6, 2), (31, .invokestatic 63, 3), (34, .ifCond .eq 7, 3), (37, .iconst 0, 1), (38, .goto 8, 3), (41, .aload 7, 2), (43, .getfield 89, 3), (46, .istore 8, 2), (48, .iload 4, 2), (50, .iload 6, 2), (52, .invokestatic 63, 3), (55, .ifCond .eq 12, 3), (58, .iload 8, 2), (60, .iconst 1, 1), (61, .iload_n 1, 1), (62, .ishl, 1), (63, .ior, 1), (64, .goto 5, 3), (67, .iload 8, 2), (69, .istore 8, 2), (71, .aload 7, 2), (73, .iload_n 1, 1), (74, .iload_n 2, 1), (75, .iload 8, 2), (77, .invokevirtual 92, 3), (80, .ifCond .eq 12, 3), (83, .iload 5, 2), (85, .iconst 1, 1), (86, .iload 6, 2), (88, .ishl, 1), (89, .ior, 1), (90, .istore 5, 2), (92, .iinc 6 1, 3), (95, .goto (-89), 3), (98, .iload 5, 2), (100, .ireturn, 1)])
def ab_m37 : ab_I := (⟨"StairRow$Row", "wakesIn", "(II)I"⟩, prog_4_method_16_code, 4, some .int, 2, false, 3, 2, (492, 491, 120, 22), [(0, .aload_n 0, 1), (1, .iload_n 1, 1), (2, .iconst 2, 1), (3, .idiv, 1), (4, .invokevirtual 32, 3), (7, .astore_n 3, 1), (8, .aload_n 3, 1), (9, .ifnull 9, 3), (12, .iload_n 1, 1), (13, .iconst 2, 1), (14, .irem, 1), (15, .ifCond .ne 7, 3), (18, .iconst 0, 1), (19, .goto 8, 3), (22, .aload_n 3, 1), (23, .iload_n 2, 1), (24, .invokevirtual 96, 3), (27, .ireturn, 1)])
def ab_m38 : ab_I := (⟨"StairRow$Row", "named", "(I)I"⟩, prog_4_method_17_code, 5, some .int, 2, false, 2, 2, (614, 613, 120, 37), [(0, .iconst 0, 1), (1, .istore_n 2, 1), (2, .iconst 0, 1), (3, .istore_n 3, 1), (4, .iload_n 3, 1), (5, .aload_n 0, 1), (6, .getfield 17, 3), (9, .if_icmp .ge 43, 3), (12, .aload_n 0, 1), (13, .iload_n 3, 1), (14, .invokevirtual 32, 3), (17, .astore 4, 2), (19, .aload 4, 2), (21, .ifnull 25, 3), (24, .iload_n 1, 1), (25, .iload_n 3, 1), (26, .invokestatic 63, 3), (29, .ifCond .eq 17, 3), (32, .iload_n 2, 1), (33, .aload 4, 2), (35, .getfield 89, 3), (38, .iconst 1, 1), (39, .iload_n 3, 1), (40, .ishl, 1), (41, .iconst (-1), 1), (42, .ixor, 1), (43, .iand, 1), (44, .ior, 1), (45, .istore_n 2, 1), (46, .iinc 3 1, 3), (49, .goto (-45), 3), (52, .iload_n 2, 1), (53, .iconst 1, 1), (54, .aload_n 0, 1), (55, .getfield 17, 3), (58, .ishl, 1), (59, .iconst 1, 1), (60, .isub, 1), (61, .iand, 1), (62, .ireturn, 1)])
def ab_m39 : ab_I := (⟨"StairRow$Row", "pairs", "()I"⟩, prog_4_method_18_code, 3, some .int, 2, false, 1, 3, (672, 671, 120, 43), [(0, .iconst 0, 1), (1, .istore_n 1, 1), (2, .iconst 0, 1), (3, .istore_n 2, 1), (4, .iload_n 2, 1), (5, .aload_n 0, 1), (6, .getfield 17, 3), (9, .if_icmp .ge 22, 3), (12, .iload_n 1, 1), (13, .aload_n 0, 1), (14, .iconst 1, 1), (15, .iload_n 2, 1), (16, .ishl, 1), (17, .invokevirtual 99, 3), (20, .invokestatic 102, 3), (23, .iadd, 1), (24, .istore_n 1, 1), (25, .iinc 2 1, 3), (28, .goto (-24), 3), (31, .iload_n 1, 1), (32, .ireturn, 1)])
def ab_m40 : ab_I := (⟨"StairRow$Row", "sleepingIn", "(I)I"⟩, prog_4_method_19_code, 4, some .int, 2, false, 2, 3, (630, 629, 120, 39), [(0, .iconst 0, 1), (1, .istore_n 2, 1), (2, .iconst 0, 1), (3, .istore_n 3, 1), (4, .iload_n 3, 1), (5, .aload_n 0, 1), (6, .getfield 17, 3), (9, .if_icmp .ge 24, 3), (12, .aload_n 0, 1), (13, .iload_n 3, 1), (14, .invokevirtual 76, 3), (17, .iload_n 1, 1), (18, .if_icmp .ne 9, 3), (21, .iload_n 2, 1), (22, .iconst 1, 1), (23, .iload_n 3, 1), (24, .ishl, 1), (25, .ior, 1), (26, .istore_n 2, 1), (27, .iinc 3 1, 3), (30, .goto (-26), 3), (33, .iload_n 2, 1), (34, .ireturn, 1)])
def ab_m41 : ab_I := (⟨"StairRow$Row", "bedRound", "(I)I"⟩, prog_4_method_20_code, 5, some .int, 2, false, 2, 3, (640, 639, 120, 40), [(0, .iconst 0, 1), (1, .istore_n 2, 1), (2, .iload_n 1, 1), (3, .istore_n 3, 1), (4, .iconst 0, 1), (5, .istore 4, 2), (7, .iload 4, 2), (9, .aload_n 0, 1), (10, .getfield 17, 3), (13, .if_icmp .ge 29, 3), (16, .iload_n 2, 1), (17, .iload_n 3, 1), (18, .invokestatic 63, 3), (21, .ifCond .ne 21, 3), (24, .iload_n 2, 1), (25, .iconst 1, 1), (26, .iload_n 3, 1), (27, .ishl, 1), (28, .ior, 1), (29, .istore_n 2, 1), (30, .aload_n 0, 1), (31, .iload_n 3, 1), (32, .invokevirtual 76, 3), (35, .istore_n 3, 1), (36, .iinc 4 1, 3), (39, .goto (-32), 3), (42, .iload_n 2, 1), (43, .ireturn, 1)])
def ab_m42 : ab_I := (⟨"StairRow$Row", "shiftBeds", "()V"⟩, prog_4_method_21_code, 3, none, 2, false, 1, 2, (659, 658, 120, 41), [(0, .iconst 0, 1), (1, .istore_n 1, 1), (2, .iload_n 1, 1), (3, .aload_n 0, 1), (4, .getfield 17, 3), (7, .if_icmp .ge 46, 3), (10, .aload_n 0, 1), (11, .iload_n 1, 1), (12, .invokevirtual 32, 3), (15, .astore_n 2, 1), (16, .aload_n 2, 1), (17, .ifnull 30, 3), (20, .aload_n 2, 1), (21, .aload_n 2, 1), (22, .getfield 73, 3), (25, .iconst 1, 1), (26, .iadd, 1), (27, .aload_n 0, 1), (28, .getfield 17, 3), (31, .if_icmp .ge 12, 3), (34, .aload_n 2, 1), (35, .getfield 73, 3), (38, .iconst 1, 1), (39, .iadd, 1), (40, .goto 4, 3), (43, .iconst 0, 1), (44, .putfield 73, 3), (47, .iinc 1 1, 3), (50, .goto (-48), 3), (53, .return_, 1)])
def ab_m43 : ab_I := (⟨"StairRow$Row", "drawBelow", "(I)I"⟩, prog_4_method_22_code, 2, some .int, 2, false, 2, 1, (667, 666, 120, 42), [(0, .aload_n 0, 1), (1, .aload_n 0, 1), (2, .getfield 24, 3), (5, .ldc 107, 2), (7, .imul, 1), (8, .sipush 12345, 3), (11, .iadd, 1), (12, .putfield 24, 3), (15, .iload_n 1, 1), (16, .ifCond .le 15, 3), (19, .aload_n 0, 1), (20, .getfield 24, 3), (23, .bipush 8, 2), (25, .iushr, 1), (26, .iload_n 1, 1), (27, .irem, 1), (28, .goto 4, 3), (31, .iconst 0, 1), (32, .ireturn, 1)])
def ab_m44 : ab_I := (⟨"StairRow$Row", "countStairs", "()I"⟩, prog_4_method_23_code, 3, some .int, 2, false, 1, 3, (937, 936, 120, 71), [(0, .iconst 0, 1), (1, .istore_n 1, 1), (2, .iconst 0, 1), (3, .istore_n 2, 1), (4, .iload_n 2, 1), (5, .aload_n 0, 1), (6, .getfield 17, 3), (9, .if_icmp .ge 25, 3), (12, .iload_n 1, 1), (13, .aload_n 0, 1), (14, .iload_n 2, 1), (15, .invokevirtual 86, 3), (18, .ifCond .lt 7, 3), (21, .iconst 1, 1), (22, .goto 4, 3), (25, .iconst 0, 1), (26, .iadd, 1), (27, .istore_n 1, 1), (28, .iinc 2 1, 3), (31, .goto (-27), 3), (34, .iload_n 1, 1), (35, .ireturn, 1)])
def ab_m45 : ab_I := (⟨"StairRow$Row", "countSleepers", "()I"⟩, prog_4_method_24_code, 4, some .int, 2, false, 1, 2, (941, 940, 120, 72), [(0, .iconst 0, 1), (1, .istore_n 1, 1), (2, .iconst 0, 1), (3, .istore_n 2, 1), (4, .iload_n 2, 1), (5, .aload_n 0, 1), (6, .getfield 17, 3), (9, .if_icmp .ge 30, 3), (12, .aload_n 0, 1), (13, .iload_n 2, 1), (14, .invokevirtual 32, 3), (17, .astore_n 3, 1), (18, .iload_n 1, 1), (19, .aload_n 3, 1), (20, .ifnonnull 7, 3), (23, .iconst 0, 1), (24, .goto 7, 3), (27, .aload_n 3, 1), (28, .getfield 108, 3), (31, .iadd, 1), (32, .istore_n 1, 1), (33, .iinc 2 1, 3), (36, .goto (-32), 3), (39, .iload_n 1, 1), (40, .ireturn, 1)])
def ab_m46 : ab_I := (⟨"StairRow$Row", "countHeld", "()I"⟩, prog_4_method_25_code, 3, some .int, 2, false, 1, 1, (945, 944, 120, 73), [(0, .iconst 0, 1), (1, .istore_n 1, 1), (2, .iconst 0, 1), (3, .istore_n 2, 1), (4, .iload_n 2, 1), (5, .aload_n 0, 1), (6, .getfield 27, 3), (9, .arraylength, 1), (10, .if_icmp .ge 26, 3), (13, .iload_n 1, 1), (14, .aload_n 0, 1), (15, .getfield 27, 3), (18, .iload_n 2, 1), (19, .iaload, 1), (20, .ifCond .lt 7, 3), (23, .iconst 1, 1), (24, .goto 4, 3), (27, .iconst 0, 1), (28, .iadd, 1), (29, .istore_n 1, 1), (30, .iinc 2 1, 3), (33, .goto (-29), 3), (36, .iload_n 1, 1), (37, .ireturn, 1)])
def ab_m47 : ab_I := (⟨"StairRow$Sheet", "<init>", "()V"⟩, prog_5_method_1_code, 1, none, 3, false, 1, 1, (272, 271, 124, 0), [(0, .aload_n 0, 1), (1, .invokespecial 1, 3), (4, .aload_n 0, 1), (5, .iconst 0, 1), (6, .putfield 7, 3), (9, .aload_n 0, 1), (10, .iconst 0, 1), (11, .putfield 13, 3), (14, .aload_n 0, 1), (15, .bipush 40, 2), (17, .newarray .int, 2), (19, .putfield 16, 3), (22, .return_, 1)])
def ab_m48 : ab_I := (⟨"StairRow$Sheet", "isMissing", "()Z"⟩, prog_5_method_2_code, 1, some .boolean, 3, false, 1, 1, (885, 884, 124, 67), [(0, .aload_n 0, 1), (1, .getfield 7, 3), (4, .ifCond .ne 7, 3), (7, .iconst 1, 1), (8, .goto 4, 3), (11, .iconst 0, 1), (12, .ireturn, 1)])
def ab_m49 : ab_I := (⟨"StairRow$Sheet", "renew", "(II)V"⟩, prog_5_method_3_code, 4, none, 3, false, 3, 1, (877, 876, 124, 66), [(0, .aload_n 0, 1), (1, .iload_n 1, 1), (2, .putfield 7, 3), (5, .aload_n 0, 1), (6, .iload_n 1, 1), (7, .ifCond .ne 7, 3), (10, .iconst 0, 1), (11, .goto 4, 3), (14, .iload_n 2, 1), (15, .putfield 13, 3), (18, .iconst 0, 1), (19, .istore_n 3, 1), (20, .iload_n 3, 1), (21, .aload_n 0, 1), (22, .getfield 16, 3), (25, .arraylength, 1), (26, .if_icmp .ge 16, 3), (29, .aload_n 0, 1), (30, .getfield 16, 3), (33, .iload_n 3, 1), (34, .iconst 0, 1), (35, .iastore, 1), (36, .iinc 3 1, 3), (39, .goto (-19), 3), (42, .return_, 1)])
def ab_m50 : ab_I := (⟨"StairRow$Sheet", "set", "(II)V"⟩, prog_5_method_4_code, 3, none, 3, false, 3, 2, (889, 888, 124, 68), [(0, .aload_n 0, 1), (1, .getfield 7, 3), (4, .bipush 8, 2), (6, .if_icmp .ne 16, 3), (9, .aload_n 0, 1), (10, .getfield 16, 3), (13, .iload_n 1, 1), (14, .iload_n 2, 1), (15, .i2b, 1), (16, .invokestatic 20, 3), (19, .goto 34, 3), (22, .aload_n 0, 1), (23, .getfield 7, 3), (26, .bipush 16, 2), (28, .if_icmp .ne 16, 3), (31, .aload_n 0, 1), (32, .getfield 16, 3), (35, .iload_n 1, 1), (36, .iload_n 2, 1), (37, .i2s, 1), (38, .invokestatic 20, 3), (41, .goto 12, 3), (44, .aload_n 0, 1), (45, .getfield 16, 3), (48, .iload_n 1, 1), (49, .iload_n 2, 1), (50, .invokestatic 20, 3), (53, .return_, 1)])
def ab_m51 : ab_I := (⟨"StairRow$Sheet", "hasRange", "(II)Z"⟩, prog_5_method_5_code, 3, some .boolean, 3, false, 3, 1, (898, 897, 124, 69), [(0, .iload_n 1, 1), (1, .ifCond .lt 29, 3), (4, .iload_n 2, 1), (5, .ifCond .lt 25, 3), (8, .iload_n 1, 1), (9, .aload_n 0, 1), (10, .getfield 13, 3), (13, .if_icmp .gt 17, 3), (16, .iload_n 2, 1), (17, .aload_n 0, 1), (18, .getfield 13, 3), (21, .iload_n 1, 1), (22, .isub, 1), (23, .if_icmp .gt 7, 3), (26, .iconst 1, 1), (27, .goto 4, 3), (30, .iconst 0, 1), (31, .ireturn, 1)])
def ab_m52 : ab_I := (⟨"StairRow$Tape", "<init>", "()V"⟩, prog_6_method_1_code, 1, none, 4, false, 1, 1, (242, 241, 123, 0), [(0, .aload_n 0, 1), (1, .invokespecial 3, 3), (4, .aload_n 0, 1), (5, .bipush 120, 2), (7, .newarray .int, 2), (9, .putfield 11, 3), (12, .aload_n 0, 1), (13, .iconst 0, 1), (14, .putfield 15, 3), (17, .aload_n 0, 1), (18, .bipush 121, 2), (20, .newarray .int, 2), (22, .putfield 19, 3), (25, .aload_n 0, 1), (26, .bipush 121, 2), (28, .newarray .int, 2), (30, .putfield 22, 3), (33, .aload_n 0, 1), (34, .bipush 121, 2), (36, .newarray .int, 2), (38, .putfield 25, 3), (41, .aload_n 0, 1), (42, .iconst 0, 1), (43, .putfield 28, 3), (46, .aload_n 0, 1), (47, .iconst 0, 1), (48, .putfield 31, 3), (51, .return_, 1)])
def ab_m53 : ab_I := (⟨"StairRow$Tape", "free", "()I"⟩, prog_6_method_2_code, 1, some .int, 4, false, 1, 1, (686, 685, 123, 44), [(0, .bipush 120, 2), (2, .aload_n 0, 1), (3, .getfield 15, 3), (6, .isub, 1), (7, .ireturn, 1)])
def ab_m54 : ab_I := (⟨"StairRow$Tape", "add", "(I)V"⟩, prog_6_method_3_code, 2, none, 4, false, 2, 2, (690, 689, 123, 45), [(0, .aload_n 0, 1), (1, .getfield 15, 3), (4, .bipush 120, 2), (6, .if_icmp .ge 25, 3), (9, .aload_n 0, 1), (10, .getfield 11, 3), (13, .aload_n 0, 1), (14, .getfield 15, 3), (17, .iload_n 1, 1), (18, .invokestatic 34, 3), (21, .aload_n 0, 1), (22, .dup, 1), (23, .getfield 15, 3), (26, .iconst 1, 1), (27, .iadd, 1), (28, .putfield 15, 3), (31, .return_, 1)])
def ab_m55 : ab_I := (⟨"StairRow$Tape", "readInto", "(LStairRow$Row;)I"⟩, prog_6_method_4_code, 4, some .int, 4, false, 2, 9, (703, 702, 123, 46), [(0, .aload_n 0, 1), (1, .invokevirtual 38, 3), (4, .aload_n 0, 1), (5, .iconst 0, 1), (6, .putfield 31, 3), (9, .iconst 1, 1), (10, .istore_n 2, 1), (11, .iload_n 2, 1), (12, .bipush 120, 2), (14, .if_icmp .gt 78, 3), (17, .aload_n 0, 1), (18, .aload_n 1, 1), (19, .invokevirtual 41, 3), (22, .ifCond .ne 17, 3), (25, .iconst (-1), 1), (26, .aload_n 0, 1), (27, .getfield 25, 3), (30, .aload_n 0, 1), (31, .getfield 31, 3), (34, .invokestatic 45, 3), (37, .isub, 1), (38, .ireturn, 1), (39, .aload_n 0, 1), (40, .getfield 19, 3), (43, .aload_n 0, 1), (44, .getfield 31, 3), (47, .invokestatic 45, 3), (50, .istore_n 3, 1), (51, .iload_n 3, 1), (52, .ifCond .ne 5, 3), (55, .iload_n 2, 1), (56, .ireturn, 1), (57, .iload_n 3, 1), (58, .iconst 3, 1), (59, .if_icmp .eq 17, 3), (62, .iconst (-1), 1), (63, .aload_n 0, 1), (64, .getfield 25, 3), (67, .aload_n 0, 1), (68, .getfield 31, 3), (71, .invokestatic 45, 3), (74, .isub, 1), (75, .ireturn, 1), (76, .aload_n 0, 1), (77, .dup, 1), (78, .getfield 31, 3), (81, .iconst 1, 1), (82, .iadd, 1), (83, .putfield 31, 3), (86, .iinc 2 1, 3), (89, .goto (-78), 3), (92, .iconst (-1), 1), (93, .aload_n 0, 1), (94, .getfield 15, 3), (97, .isub, 1), (98, .ireturn, 1)])
def ab_m56 : ab_I := (⟨"StairRow$Tape", "readItem", "(LStairRow$Row;)Z"⟩, prog_6_method_5_code, 3, some .boolean, 4, false, 2, 5, (804, 803, 123, 54), [(0, .aload_n 0, 1), (1, .getfield 19, 3), (4, .aload_n 0, 1), (5, .getfield 31, 3), (8, .invokestatic 45, 3), (11, .iconst 1, 1), (12, .if_icmp .eq 5, 3), (15, .iconst 0, 1), (16, .ireturn, 1), (17, .aload_n 0, 1), (18, .getfield 22, 3), (21, .aload_n 0, 1), (22, .getfield 31, 3), (25, .invokestatic 45, 3), (28, .istore_n 2, 1), (29, .iload_n 2, 1), (30, .invokestatic 49, 3), (33, .ifCond .eq 10, 3), (36, .aload_n 0, 1), (37, .aload_n 1, 1), (38, .iload_n 2, 1), (39, .invokevirtual 55, 3), (42, .ireturn, 1), (43, .iload_n 2, 1), (44, .tableswitch 91 12 15 #[32, 32, 59, 75], 32), (76, .aload_n 0, 1), (77, .dup, 1), (78, .getfield 31, 3), (81, .iconst 1, 1), (82, .iadd, 1), (83, .putfield 31, 3), (86, .aload_n 0, 1), (87, .aload_n 1, 1), (88, .iload_n 2, 1), (89, .bipush 12, 2), (91, .if_icmp .ne 7, 3), (94, .iconst 1, 1), (95, .goto 4, 3), (98, .iconst 0, 1), (99, .invokevirtual 59, 3), (102, .ireturn, 1), (103, .aload_n 0, 1), (104, .dup, 1), (105, .getfield 31, 3), (108, .iconst 1, 1), (109, .iadd, 1), (110, .putfield 31, 3), (113, .aload_n 0, 1), (114, .aload_n 1, 1), (115, .invokevirtual 63, 3), (118, .ireturn, 1), (119, .aload_n 0, 1), (120, .dup, 1), (121, .getfield 31, 3), (124, .iconst 1, 1), (125, .iadd, 1), (126, .putfield 31, 3), (129, .aload_n 0, 1), (130, .aload_n 1, 1), (131, .invokevirtual 66, 3), (134, .ireturn, 1), (135, .iconst 0, 1), (136, .ireturn, 1)])
def ab_m57 : ab_I := (⟨"StairRow$Tape", "readHouse", "(LStairRow$Row;I)Z"⟩, prog_6_method_6_code, 5, some .boolean, 4, false, 3, 4, (809, 808, 123, 55), [(0, .aload_n 1, 1), (1, .invokevirtual 69, 3), (4, .ifCond .eq 5, 3), (7, .iconst 0, 1), (8, .ireturn, 1), (9, .aload_n 0, 1), (10, .dup, 1), (11, .getfield 31, 3), (14, .iconst 1, 1), (15, .iadd, 1), (16, .putfield 31, 3), (19, .aload_n 1, 1), (20, .iload_n 2, 1), (21, .invokevirtual 75, 3), (24, .istore_n 3, 1), (25, .aload_n 1, 1), (26, .iload_n 3, 1), (27, .invokevirtual 79, 3), (30, .astore 4, 2), (32, .aload 4, 2), (34, .ifnull 35, 3), (37, .aload_n 0, 1), (38, .aload 4, 2), (40, .iload_n 3, 1), (41, .invokevirtual 83, 3), (44, .ifCond .eq 25, 3), (47, .aload_n 0, 1), (48, .aload 4, 2), (50, .invokevirtual 87, 3), (53, .ifCond .eq 16, 3), (56, .aload_n 0, 1), (57, .aload 4, 2), (59, .invokevirtual 91, 3), (62, .ifCond .eq 7, 3), (65, .iconst 1, 1), (66, .goto 4, 3), (69, .iconst 0, 1), (70, .ireturn, 1)])
def ab_m58 : ab_I := (⟨"StairRow$Tape", "readStair", "(LStairRow$House;I)Z"⟩, prog_6_method_7_code, 4, some .boolean, 4, false, 3, 3, (816, 815, 123, 56), [(0, .aload_n 0, 1), (1, .bipush 7, 2), (3, .invokevirtual 94, 3), (6, .ifCond .ne 14, 3), (9, .aload_n 0, 1), (10, .bipush 8, 2), (12, .invokevirtual 94, 3), (15, .ifCond .ne 5, 3), (18, .iconst 1, 1), (19, .ireturn, 1), (20, .aload_n 0, 1), (21, .bipush 7, 2), (23, .invokevirtual 94, 3), (26, .ifCond .eq 7, 3), (29, .iconst 0, 1), (30, .goto 4, 3), (33, .iconst 1, 1), (34, .istore_n 3, 1), (35, .iload_n 2, 1), (36, .iload_n 3, 1), (37, .invokestatic 97, 3), (40, .ifCond .ne 5, 3), (43, .iconst 0, 1), (44, .ireturn, 1), (45, .aload_n 0, 1), (46, .dup, 1), (47, .getfield 31, 3), (50, .iconst 1, 1), (51, .iadd, 1), (52, .putfield 31, 3), (55, .aload_n 1, 1), (56, .iload_n 2, 1), (57, .iconst 1, 1), (58, .isub, 1), (59, .iconst 2, 1), (60, .iload_n 3, 1), (61, .imul, 1), (62, .iadd, 1), (63, .putfield 101, 3), (66, .iconst 1, 1), (67, .ireturn, 1)])
def ab_m59 : ab_I := (⟨"StairRow$Tape", "readHours", "(LStairRow$House;)Z"⟩, prog_6_method_8_code, 4, some .boolean, 4, false, 2, 3, (825, 824, 123, 58), [(0, .aload_n 0, 1), (1, .bipush 9, 2), (3, .invokevirtual 94, 3), (6, .ifCond .ne 5, 3), (9, .iconst 1, 1), (10, .ireturn, 1), (11, .aload_n 0, 1), (12, .dup, 1), (13, .getfield 31, 3), (16, .iconst 1, 1), (17, .iadd, 1), (18, .putfield 31, 3), (21, .aload_n 0, 1), (22, .bipush 24, 2), (24, .invokevirtual 104, 3), (27, .istore_n 2, 1), (28, .iload_n 2, 1), (29, .ifCond .lt 12, 3), (32, .aload_n 0, 1), (33, .bipush 10, 2), (35, .invokevirtual 94, 3), (38, .ifCond .ne 5, 3), (41, .iconst 0, 1), (42, .ireturn, 1), (43, .aload_n 0, 1), (44, .dup, 1), (45, .getfield 31, 3), (48, .iconst 1, 1), (49, .iadd, 1), (50, .putfield 31, 3), (53, .aload_n 0, 1), (54, .bipush 24, 2), (56, .invokevirtual 104, 3), (59, .istore_n 3, 1), (60, .iload_n 3, 1), (61, .ifCond .ge 5, 3), (64, .iconst 0, 1), (65, .ireturn, 1), (66, .aload_n 1, 1), (67, .iload_n 2, 1), (68, .putfield 107, 3), (71, .aload_n 1, 1), (72, .iload_n 3, 1), (73, .putfield 110, 3), (76, .iconst 1, 1), (77, .ireturn, 1)])
def ab_m60 : ab_I := (⟨"StairRow$Tape", "readSleepers", "(LStairRow$House;)Z"⟩, prog_6_method_9_code, 3, some .boolean, 4, false, 2, 3, (834, 833, 123, 60), [(0, .aload_n 0, 1), (1, .bipush 11, 2), (3, .invokevirtual 94, 3), (6, .ifCond .ne 5, 3), (9, .iconst 1, 1), (10, .ireturn, 1), (11, .aload_n 0, 1), (12, .dup, 1), (13, .getfield 31, 3), (16, .iconst 1, 1), (17, .iadd, 1), (18, .putfield 31, 3), (21, .aload_n 0, 1), (22, .bipush 10, 2), (24, .invokevirtual 104, 3), (27, .istore_n 2, 1), (28, .iload_n 2, 1), (29, .ifCond .ge 5, 3), (32, .iconst 0, 1), (33, .ireturn, 1), (34, .aload_n 1, 1), (35, .iload_n 2, 1), (36, .putfield 113, 3), (39, .iconst 1, 1), (40, .ireturn, 1)])
def ab_m61 : ab_I := (⟨"StairRow$Tape", "readNames", "(LStairRow$Row;Z)Z"⟩, prog_6_method_10_code, 6, some .boolean, 4, false, 3, 3, (838, 837, 123, 61), [(0, .aload_n 1, 1), (1, .aload_n 0, 1), (2, .aload_n 1, 1), (3, .getfield 116, 3), (6, .invokevirtual 104, 3), (9, .invokevirtual 79, 3), (12, .astore_n 3, 1), (13, .aload_n 3, 1), (14, .ifnonnull 5, 3), (17, .iconst 0, 1), (18, .ireturn, 1), (19, .aload_n 0, 1), (20, .bipush 8, 2), (22, .invokevirtual 104, 3), (25, .istore 4, 2), (27, .iconst 0, 1), (28, .istore 5, 2), (30, .iload 5, 2), (32, .bipush 120, 2), (34, .if_icmp .ge 72, 3), (37, .iload 4, 2), (39, .ifCond .lt 67, 3), (42, .iload_n 2, 1), (43, .ifCond .eq 19, 3), (46, .aload_n 3, 1), (47, .dup, 1), (48, .getfield 117, 3), (51, .iconst 1, 1), (52, .iload 4, 2), (54, .ishl, 1), (55, .ior, 1), (56, .putfield 117, 3), (59, .goto 16, 3), (62, .aload_n 3, 1), (63, .dup, 1), (64, .getfield 120, 3), (67, .iconst 1, 1), (68, .iload 4, 2), (70, .ishl, 1), (71, .ior, 1), (72, .putfield 120, 3), (75, .aload_n 0, 1), (76, .getfield 19, 3), (79, .aload_n 0, 1), (80, .getfield 31, 3), (83, .invokestatic 45, 3), (86, .iconst 2, 1), (87, .if_icmp .eq 5, 3), (90, .iconst 1, 1), (91, .ireturn, 1), (92, .aload_n 0, 1), (93, .bipush 8, 2), (95, .invokevirtual 104, 3), (98, .istore 4, 2), (100, .iinc 5 1, 3), (103, .goto (-73), 3), (106, .iconst 0, 1), (107, .ireturn, 1)])
def ab_m62 : ab_I := (⟨"StairRow$Tape", "readDoor", "(LStairRow$Row;)Z"⟩, prog_6_method_11_code, 3, some .boolean, 4, false, 2, 3, (842, 841, 123, 62), [(0, .aload_n 0, 1), (1, .bipush 14, 2), (3, .invokevirtual 104, 3), (6, .istore_n 2, 1), (7, .iload_n 2, 1), (8, .ifCond .ge 5, 3), (11, .iconst 0, 1), (12, .ireturn, 1), (13, .aload_n 1, 1), (14, .iload_n 2, 1), (15, .iconst 1, 1), (16, .invokevirtual 123, 3), (19, .iconst 1, 1), (20, .ireturn, 1)])
def ab_m63 : ab_I := (⟨"StairRow$Tape", "readBed", "(LStairRow$Row;)Z"⟩, prog_6_method_12_code, 4, some .boolean, 4, false, 2, 3, (847, 846, 123, 63), [(0, .aload_n 1, 1), (1, .aload_n 0, 1), (2, .aload_n 1, 1), (3, .getfield 116, 3), (6, .invokevirtual 104, 3), (9, .invokevirtual 79, 3), (12, .astore_n 2, 1), (13, .aload_n 2, 1), (14, .ifnull 12, 3), (17, .aload_n 0, 1), (18, .bipush 16, 2), (20, .invokevirtual 94, 3), (23, .ifCond .ne 5, 3), (26, .iconst 0, 1), (27, .ireturn, 1), (28, .aload_n 0, 1), (29, .dup, 1), (30, .getfield 31, 3), (33, .iconst 1, 1), (34, .iadd, 1), (35, .putfield 31, 3), (38, .aload_n 0, 1), (39, .aload_n 1, 1), (40, .getfield 116, 3), (43, .invokevirtual 104, 3), (46, .istore_n 3, 1), (47, .iload_n 3, 1), (48, .ifCond .ge 5, 3), (51, .iconst 0, 1), (52, .ireturn, 1), (53, .aload_n 2, 1), (54, .iload_n 3, 1), (55, .putfield 127, 3), (58, .iconst 1, 1), (59, .ireturn, 1)])
def ab_m64 : ab_I := (⟨"StairRow$Tape", "isWordHere", "(I)Z"⟩, prog_6_method_13_code, 2, some .boolean, 4, false, 2, 2, (820, 819, 123, 57), [(0, .aload_n 0, 1), (1, .getfield 19, 3), (4, .aload_n 0, 1), (5, .getfield 31, 3), (8, .invokestatic 45, 3), (11, .iconst 1, 1), (12, .if_icmp .ne 22, 3), (15, .aload_n 0, 1), (16, .getfield 22, 3), (19, .aload_n 0, 1), (20, .getfield 31, 3), (23, .invokestatic 45, 3), (26, .iload_n 1, 1), (27, .if_icmp .ne 7, 3), (30, .iconst 1, 1), (31, .goto 4, 3), (34, .iconst 0, 1), (35, .ireturn, 1)])
def ab_m65 : ab_I := (⟨"StairRow$Tape", "takeNumber", "(I)I"⟩, prog_6_method_14_code, 3, some .int, 4, false, 2, 2, (829, 828, 123, 59), [(0, .aload_n 0, 1), (1, .getfield 22, 3), (4, .aload_n 0, 1), (5, .getfield 31, 3), (8, .invokestatic 45, 3), (11, .istore_n 2, 1), (12, .aload_n 0, 1), (13, .getfield 19, 3), (16, .aload_n 0, 1), (17, .getfield 31, 3), (20, .invokestatic 45, 3), (23, .iconst 2, 1), (24, .if_icmp .ne 11, 3), (27, .iload_n 2, 1), (28, .iload_n 1, 1), (29, .invokestatic 130, 3), (32, .ifCond .ne 5, 3), (35, .iconst (-1), 1), (36, .ireturn, 1), (37, .aload_n 0, 1), (38, .dup, 1), (39, .getfield 31, 3), (42, .iconst 1, 1), (43, .iadd, 1), (44, .putfield 31, 3), (47, .iload_n 2, 1), (48, .ireturn, 1)])
def ab_m66 : ab_I := (⟨"StairRow$Tape", "findTokens", "()V"⟩, prog_6_method_15_code, 3, none, 4, false, 1, 8, (707, 706, 123, 47), [(0, .aload_n 0, 1), (1, .iconst 0, 1), (2, .putfield 28, 3), (5, .iconst 0, 1), (6, .istore_n 1, 1), (7, .iconst 0, 1), (8, .istore_n 2, 1), (9, .iload_n 2, 1), (10, .bipush 120, 2), (12, .if_icmp .ge 42, 3), (15, .iload_n 1, 1), (16, .aload_n 0, 1), (17, .getfield 15, 3), (20, .if_icmp .ge 34, 3), (23, .aload_n 0, 1), (24, .getfield 11, 3), (27, .iload_n 1, 1), (28, .invokestatic 45, 3), (31, .bipush 32, 2), (33, .if_icmp .ne 9, 3), (36, .iinc 1 1, 3), (39, .goto 9, 3), (42, .aload_n 0, 1), (43, .iload_n 1, 1), (44, .invokevirtual 133, 3), (47, .istore_n 1, 1), (48, .iinc 2 1, 3), (51, .goto (-42), 3), (54, .aload_n 0, 1), (55, .iconst 0, 1), (56, .iconst 0, 1), (57, .aload_n 0, 1), (58, .getfield 15, 3), (61, .invokevirtual 136, 3), (64, .return_, 1)])
def ab_m67 : ab_I := (⟨"StairRow$Tape", "addTokenAt", "(I)I"⟩, prog_6_method_16_code, 4, some .int, 4, false, 2, 7, (712, 711, 123, 48), [(0, .aload_n 0, 1), (1, .bipush 97, 2), (3, .bipush 122, 2), (5, .iload_n 1, 1), (6, .invokevirtual 140, 3), (9, .istore_n 2, 1), (10, .iload_n 2, 1), (11, .iload_n 1, 1), (12, .if_icmp .le 17, 3), (15, .aload_n 0, 1), (16, .iconst 1, 1), (17, .aload_n 0, 1), (18, .iload_n 1, 1), (19, .iload_n 2, 1), (20, .invokevirtual 144, 3), (23, .iload_n 1, 1), (24, .invokevirtual 136, 3), (27, .iload_n 2, 1), (28, .ireturn, 1), (29, .aload_n 0, 1), (30, .bipush 48, 2), (32, .bipush 57, 2), (34, .iload_n 1, 1), (35, .invokevirtual 140, 3), (38, .istore_n 2, 1), (39, .iload_n 2, 1), (40, .iload_n 1, 1), (41, .if_icmp .le 30, 3), (44, .aload_n 0, 1), (45, .iload_n 1, 1), (46, .iload_n 2, 1), (47, .invokevirtual 148, 3), (50, .istore_n 3, 1), (51, .aload_n 0, 1), (52, .iload_n 3, 1), (53, .sipush 999, 3), (56, .if_icmp .le 7, 3), (59, .iconst 4, 1), (60, .goto 4, 3), (63, .iconst 2, 1), (64, .iload_n 3, 1), (65, .iload_n 1, 1), (66, .invokevirtual 136, 3), (69, .iload_n 2, 1), (70, .ireturn, 1), (71, .aload_n 0, 1), (72, .aload_n 0, 1), (73, .getfield 11, 3), (76, .iload_n 1, 1), (77, .invokestatic 45, 3), (80, .bipush 59, 2), (82, .if_icmp .ne 7, 3), (85, .iconst 3, 1), (86, .goto 4, 3), (89, .iconst 4, 1), (90, .iconst 0, 1), (91, .iload_n 1, 1), (92, .invokevirtual 136, 3), (95, .iload_n 1, 1), (96, .iconst 1, 1), (97, .iadd, 1), (98, .ireturn, 1)])
def ab_m68 : ab_I := (⟨"StairRow$Tape", "addToken", "(III)V"⟩, prog_6_method_17_code, 4, none, 4, false, 4, 2, (796, 795, 123, 52), [(0, .aload_n 0, 1), (1, .getfield 19, 3), (4, .aload_n 0, 1), (5, .getfield 28, 3), (8, .iload_n 1, 1), (9, .invokestatic 34, 3), (12, .aload_n 0, 1), (13, .getfield 22, 3), (16, .aload_n 0, 1), (17, .getfield 28, 3), (20, .iload_n 2, 1), (21, .invokestatic 34, 3), (24, .aload_n 0, 1), (25, .getfield 25, 3), (28, .aload_n 0, 1), (29, .getfield 28, 3), (32, .iload_n 3, 1), (33, .invokestatic 34, 3), (36, .aload_n 0, 1), (37, .dup, 1), (38, .getfield 28, 3), (41, .iconst 1, 1), (42, .iadd, 1), (43, .putfield 28, 3), (46, .return_, 1)])
def ab_m69 : ab_I := (⟨"StairRow$Tape", "endOf", "(CCI)I"⟩, prog_6_method_18_code, 5, some .int, 4, false, 4, 2, (716, 715, 123, 49), [(0, .iload_n 3, 1), (1, .istore 4, 2), (3, .iload 4, 2), (5, .aload_n 0, 1), (6, .getfield 15, 3), (9, .if_icmp .ge 35, 3), (12, .aload_n 0, 1), (13, .getfield 11, 3), (16, .iload 4, 2), (18, .invokestatic 45, 3), (21, .iload_n 1, 1), (22, .if_icmp .lt 22, 3), (25, .aload_n 0, 1), (26, .getfield 11, 3), (29, .iload 4, 2), (31, .invokestatic 45, 3), (34, .iload_n 2, 1), (35, .if_icmp .gt 9, 3), (38, .iinc 4 1, 3), (41, .goto (-38), 3), (44, .iload 4, 2), (46, .ireturn, 1)])
def ab_m70 : ab_I := (⟨"StairRow$Tape", "numberBetween", "(II)I"⟩, prog_6_method_19_code, 5, some .int, 4, false, 3, 2, (800, 799, 123, 53), [(0, .iconst 0, 1), (1, .istore_n 3, 1), (2, .iload_n 1, 1), (3, .istore 4, 2), (5, .iload 4, 2), (7, .iload_n 2, 1), (8, .if_icmp .ge 34, 3), (11, .iload_n 3, 1), (12, .sipush 999, 3), (15, .if_icmp .gt 27, 3), (18, .bipush 10, 2), (20, .iload_n 3, 1), (21, .imul, 1), (22, .aload_n 0, 1), (23, .getfield 11, 3), (26, .iload 4, 2), (28, .invokestatic 45, 3), (31, .iadd, 1), (32, .bipush 48, 2), (34, .isub, 1), (35, .istore_n 3, 1), (36, .iinc 4 1, 3), (39, .goto (-34), 3), (42, .iload_n 3, 1), (43, .ireturn, 1)])
def ab_m71 : ab_I := (⟨"StairRow$Tape", "wordBetween", "(II)I"⟩, prog_6_method_20_code, 4, some .int, 4, false, 3, 6, (720, 719, 123, 50), [(0, .iconst 0, 1), (1, .istore_n 3, 1), (2, .iload_n 3, 1), (3, .bipush 17, 2), (5, .if_icmp .ge 24, 3), (8, .aload_n 0, 1), (9, .iload_n 3, 1), (10, .invokestatic 151, 3), (13, .iload_n 1, 1), (14, .iload_n 2, 1), (15, .invokevirtual 155, 3), (18, .ifCond .eq 5, 3), (21, .iload_n 3, 1), (22, .ireturn, 1), (23, .iinc 3 1, 3), (26, .goto (-24), 3), (29, .iconst (-1), 1), (30, .ireturn, 1)])
def ab_m72 : ab_I := (⟨"StairRow$Tape", "isWritten", "(Ljava/lang/String;II)Z"⟩, prog_6_method_21_code, 5, some .boolean, 4, false, 4, 5, (744, 743, 123, 51), [(0, .aload_n 1, 1), (1, .invokevirtual 159, 3), (4, .iload_n 3, 1), (5, .iload_n 2, 1), (6, .isub, 1), (7, .if_icmp .eq 5, 3), (10, .iconst 0, 1), (11, .ireturn, 1), (12, .iconst 0, 1), (13, .istore 4, 2), (15, .iload 4, 2), (17, .aload_n 1, 1), (18, .invokevirtual 159, 3), (21, .if_icmp .ge 31, 3), (24, .aload_n 1, 1), (25, .iload 4, 2), (27, .invokevirtual 165, 3), (30, .aload_n 0, 1), (31, .getfield 11, 3), (34, .iload_n 2, 1), (35, .iload 4, 2), (37, .iadd, 1), (38, .invokestatic 45, 3), (41, .if_icmp .eq 5, 3), (44, .iconst 0, 1), (45, .ireturn, 1), (46, .iinc 4 1, 3), (49, .goto (-34), 3), (52, .iconst 1, 1), (53, .ireturn, 1)])
def ab_m73 : ab_I := (⟨"StairRow$Tape", "letters", "(I)Ljava/lang/String;"⟩, prog_6_method_22_code, 1, some (.object "java/lang/String"), 4, true, 1, 1, (723, 722, 123, 0), [(0, .iload_n 0, 1), (1, .tableswitch 127 0 15 #[79, 82, 85, 88, 91, 94, 97, 100, 103, 106, 109, 112, 115, 118, 121, 124], 79), (80, .ldc 169, 2), (82, .areturn, 1), (83, .ldc 171, 2), (85, .areturn, 1), (86, .ldc 173, 2), (88, .areturn, 1), (89, .ldc 175, 2), (91, .areturn, 1), (92, .ldc 177, 2), (94, .areturn, 1), (95, .ldc 179, 2), (97, .areturn, 1), (98, .ldc 181, 2), (100, .areturn, 1), (101, .ldc 183, 2), (103, .areturn, 1), (104, .ldc 185, 2), (106, .areturn, 1), (107, .ldc 187, 2), (109, .areturn, 1), (110, .ldc 188, 2), (112, .areturn, 1), (113, .ldc 189, 2), (115, .areturn, 1), (116, .ldc 190, 2), (118, .areturn, 1), (119, .ldc 191, 2), (121, .areturn, 1), (122, .ldc 192, 2), (124, .areturn, 1), (125, .ldc 194, 2), (127, .areturn, 1), (128, .ldc 195, 2), (130, .areturn, 1)])
def ab_m74 : ab_I := (⟨"StairRow", "<init>", "()V"⟩, prog_1_method_1_code, 2, none, 5, false, 1, 3, (137, 136, 119, 0), [(0, .aload_n 0, 1), (1, .invokespecial 3, 3), (4, .aload_n 0, 1), (5, .new 9, 3), (8, .dup, 1), (9, .invokespecial 11, 3), (12, .putfield 12, 3), (15, .aload_n 0, 1), (16, .new 9, 3), (19, .dup, 1), (20, .invokespecial 11, 3), (23, .putfield 16, 3), (26, .aload_n 0, 1), (27, .new 9, 3), (30, .dup, 1), (31, .invokespecial 11, 3), (34, .putfield 19, 3), (37, .aload_n 0, 1), (38, .iconst 0, 1), (39, .putfield 22, 3), (42, .aload_n 0, 1), (43, .new 26, 3), (46, .dup, 1), (47, .invokespecial 28, 3), (50, .putfield 29, 3), (53, .aload_n 0, 1), (54, .new 33, 3), (57, .dup, 1), (58, .invokespecial 35, 3), (61, .putfield 36, 3), (64, .aload_n 0, 1), (65, .iconst 4, 1), (66, .anewarray 40, 3), (69, .putfield 42, 3), (72, .aload_n 0, 1), (73, .bipush 7, 2), (75, .newarray .int, 2), (77, .putfield 46, 3), (80, .iconst 0, 1), (81, .istore_n 1, 1), (82, .iload_n 1, 1), (83, .aload_n 0, 1), (84, .getfield 42, 3), (87, .arraylength, 1), (88, .if_icmp .ge 22, 3), (91, .aload_n 0, 1), (92, .getfield 42, 3), (95, .iload_n 1, 1), (96, .new 40, 3), (99, .dup, 1), (100, .invokespecial 50, 3), (103, .aastore, 1), (104, .iinc 1 1, 3), (107, .goto (-25), 3), (110, .return_, 1)])
def ab_m75 : ab_I := (⟨"StairRow", "house", "(I)I"⟩, prog_1_method_2_code, 2, some .int, 5, false, 2, 3, (315, 313, 119, 314), [(0, .iload_n 1, 1), (1, .invokestatic 51, 3), (4, .ifCond .ne 10, 3), (7, .aload_n 0, 1), (8, .ldc 57, 2), (10, .invokevirtual 58, 3), (13, .ireturn, 1), (14, .aload_n 0, 1), (15, .getfield 12, 3), (18, .invokevirtual 62, 3), (21, .ifCond .eq 10, 3), (24, .aload_n 0, 1), (25, .ldc 66, 2), (27, .invokevirtual 58, 3), (30, .ireturn, 1), (31, .aload_n 0, 1), (32, .getfield 12, 3), (35, .iload_n 1, 1), (36, .invokevirtual 67, 3), (39, .ireturn, 1)])
def ab_m76 : ab_I := (⟨"StairRow", "of", "(II)I"⟩, prog_1_method_3_code, 4, some .int, 5, false, 3, 3, (355, 353, 119, 354), [(0, .aload_n 0, 1), (1, .getfield 12, 3), (4, .iload_n 1, 1), (5, .invokevirtual 70, 3), (8, .astore_n 3, 1), (9, .aload_n 3, 1), (10, .ifnull 13, 3), (13, .iload_n 2, 1), (14, .ifCond .lt 9, 3), (17, .iload_n 2, 1), (18, .bipush 7, 2), (20, .if_icmp .le 10, 3), (23, .aload_n 0, 1), (24, .ldc 57, 2), (26, .invokevirtual 58, 3), (29, .ireturn, 1), (30, .aload_n 3, 1), (31, .iload_n 2, 1), (32, .invokevirtual 74, 3), (35, .ireturn, 1)])
def ab_m77 : ab_I := (⟨"StairRow", "change", "(III)I"⟩, prog_1_method_4_code, 6, some .int, 5, false, 4, 4, (364, 362, 119, 363), [(0, .aload_n 0, 1), (1, .getfield 12, 3), (4, .iload_n 1, 1), (5, .invokevirtual 70, 3), (8, .astore 4, 2), (10, .aload 4, 2), (12, .ifnull 15, 3), (15, .aload_n 0, 1), (16, .getfield 12, 3), (19, .iload_n 2, 1), (20, .iload_n 3, 1), (21, .invokevirtual 77, 3), (24, .ifCond .ne 10, 3), (27, .aload_n 0, 1), (28, .ldc 57, 2), (30, .invokevirtual 58, 3), (33, .ireturn, 1), (34, .aload 4, 2), (36, .iload_n 2, 1), (37, .invokevirtual 74, 3), (40, .istore 5, 2), (42, .aload 4, 2), (44, .iload_n 2, 1), (45, .iload_n 3, 1), (46, .invokevirtual 81, 3), (49, .iload 5, 2), (51, .ireturn, 1)])
def ab_m78 : ab_I := (⟨"StairRow", "stair", "(II)I"⟩, prog_1_method_5_code, 5, some .int, 5, false, 3, 3, (382, 380, 119, 381), [(0, .aload_n 0, 1), (1, .getfield 12, 3), (4, .iload_n 1, 1), (5, .invokevirtual 70, 3), (8, .astore_n 3, 1), (9, .aload_n 3, 1), (10, .ifnull 11, 3), (13, .iload_n 1, 1), (14, .iload_n 2, 1), (15, .invokestatic 85, 3), (18, .ifCond .ne 10, 3), (21, .aload_n 0, 1), (22, .ldc 57, 2), (24, .invokevirtual 58, 3), (27, .ireturn, 1), (28, .aload_n 3, 1), (29, .getfield 88, 3), (32, .istore 4, 2), (34, .aload_n 3, 1), (35, .iload_n 2, 1), (36, .ifCond .ge 7, 3), (39, .iconst (-1), 1), (40, .goto 10, 3), (43, .iload_n 1, 1), (44, .iconst 1, 1), (45, .isub, 1), (46, .iconst 2, 1), (47, .iload_n 2, 1), (48, .imul, 1), (49, .iadd, 1), (50, .putfield 88, 3), (53, .iload 4, 2), (55, .ireturn, 1)])
def ab_m79 : ab_I := (⟨"StairRow", "name", "(IIIZ)I"⟩, prog_1_method_6_code, 7, some .int, 5, false, 5, 3, (389, 387, 119, 388), [(0, .aload_n 0, 1), (1, .getfield 12, 3), (4, .iload_n 1, 1), (5, .invokevirtual 70, 3), (8, .astore 5, 2), (10, .aload 5, 2), (12, .ifnull 21, 3), (15, .iload_n 2, 1), (16, .ifCond .lt 17, 3), (19, .iload_n 2, 1), (20, .iconst 1, 1), (21, .if_icmp .gt 12, 3), (24, .iload_n 3, 1), (25, .bipush 8, 2), (27, .invokestatic 92, 3), (30, .ifCond .ne 10, 3), (33, .aload_n 0, 1), (34, .ldc 57, 2), (36, .invokevirtual 58, 3), (39, .ireturn, 1), (40, .iload_n 2, 1), (41, .ifCond .ne 11, 3), (44, .aload 5, 2), (46, .getfield 95, 3), (49, .goto 8, 3), (52, .aload 5, 2), (54, .getfield 98, 3), (57, .istore 6, 2), (59, .iload_n 2, 1), (60, .ifCond .ne 19, 3), (63, .aload 5, 2), (65, .iload 6, 2), (67, .iload_n 3, 1), (68, .iload 4, 2), (70, .invokestatic 101, 3), (73, .putfield 95, 3), (76, .goto 16, 3), (79, .aload 5, 2), (81, .iload 6, 2), (83, .iload_n 3, 1), (84, .iload 4, 2), (86, .invokestatic 101, 3), (89, .putfield 98, 3), (92, .iload 6, 2), (94, .iload_n 3, 1), (95, .invokestatic 105, 3), (98, .ifCond .eq 7, 3), (101, .iconst 1, 1), (102, .goto 4, 3), (105, .iconst 0, 1), (106, .ireturn, 1)])
def ab_m80 : ab_I := (⟨"StairRow", "door", "(IZ)I"⟩, prog_1_method_7_code, 4, some .int, 5, false, 3, 3, (400, 398, 119, 399), [(0, .iload_n 1, 1), (1, .bipush 14, 2), (3, .invokestatic 92, 3), (6, .ifCond .ne 10, 3), (9, .aload_n 0, 1), (10, .ldc 57, 2), (12, .invokevirtual 58, 3), (15, .ireturn, 1), (16, .aload_n 0, 1), (17, .getfield 12, 3), (20, .iload_n 1, 1), (21, .invokevirtual 108, 3), (24, .ifCond .eq 7, 3), (27, .iconst 1, 1), (28, .goto 4, 3), (31, .iconst 0, 1), (32, .istore_n 3, 1), (33, .aload_n 0, 1), (34, .getfield 12, 3), (37, .iload_n 1, 1), (38, .iload_n 2, 1), (39, .invokevirtual 111, 3), (42, .iload_n 3, 1), (43, .ireturn, 1)])
def ab_m81 : ab_I := (⟨"StairRow", "lets", "(III)I"⟩, prog_1_method_8_code, 5, some .int, 5, false, 4, 4, (414, 412, 119, 413), [(0, .aload_n 0, 1), (1, .getfield 12, 3), (4, .iload_n 1, 1), (5, .invokevirtual 70, 3), (8, .astore 4, 2), (10, .aload 4, 2), (12, .ifnull 12, 3), (15, .aload_n 0, 1), (16, .iload_n 2, 1), (17, .iload_n 3, 1), (18, .invokevirtual 115, 3), (21, .ifCond .ne 10, 3), (24, .aload_n 0, 1), (25, .ldc 57, 2), (27, .invokevirtual 58, 3), (30, .ireturn, 1), (31, .aload 4, 2), (33, .iload_n 2, 1), (34, .iload_n 3, 1), (35, .aload 4, 2), (37, .getfield 95, 3), (40, .invokevirtual 118, 3), (43, .ifCond .eq 7, 3), (46, .iconst 1, 1), (47, .goto 4, 3), (50, .iconst 0, 1), (51, .ireturn, 1)])
def ab_m82 : ab_I := (⟨"StairRow", "letting", "(II)I"⟩, prog_1_method_9_code, 3, some .int, 5, false, 3, 4, (432, 430, 119, 431), [(0, .aload_n 0, 1), (1, .iload_n 1, 1), (2, .iload_n 2, 1), (3, .invokevirtual 115, 3), (6, .ifCond .ne 10, 3), (9, .aload_n 0, 1), (10, .ldc 57, 2), (12, .invokevirtual 58, 3), (15, .ireturn, 1), (16, .aload_n 0, 1), (17, .getfield 12, 3), (20, .iload_n 1, 1), (21, .iload_n 2, 1), (22, .iconst 0, 1), (23, .iconst 0, 1), (24, .invokevirtual 122, 3), (27, .ireturn, 1)])
def ab_m83 : ab_I := (⟨"StairRow", "joined", "(I)I"⟩, prog_1_method_10_code, 2, some .int, 5, false, 2, 4, (441, 439, 119, 440), [(0, .aload_n 0, 1), (1, .getfield 12, 3), (4, .iload_n 1, 1), (5, .invokevirtual 126, 3), (8, .ifCond .ne 10, 3), (11, .aload_n 0, 1), (12, .ldc 57, 2), (14, .invokevirtual 58, 3), (17, .ireturn, 1), (18, .aload_n 0, 1), (19, .getfield 12, 3), (22, .iload_n 1, 1), (23, .invokevirtual 129, 3), (26, .ireturn, 1)])
def ab_m84 : ab_I := (⟨"StairRow", "way", "(III)I"⟩, prog_1_method_11_code, 5, some .int, 5, false, 4, 5, (459, 457, 119, 458), [(0, .aload_n 0, 1), (1, .iload_n 1, 1), (2, .iload_n 3, 1), (3, .invokevirtual 115, 3), (6, .ifCond .eq 14, 3), (9, .aload_n 0, 1), (10, .getfield 12, 3), (13, .iload_n 2, 1), (14, .invokevirtual 126, 3), (17, .ifCond .ne 10, 3), (20, .aload_n 0, 1), (21, .ldc 57, 2), (23, .invokevirtual 58, 3), (26, .ireturn, 1), (27, .aload_n 0, 1), (28, .getfield 29, 3), (31, .aload_n 0, 1), (32, .getfield 12, 3), (35, .invokevirtual 132, 3), (38, .aload_n 0, 1), (39, .getfield 29, 3), (42, .iload_n 2, 1), (43, .aload_n 0, 1), (44, .getfield 12, 3), (47, .iload_n 1, 1), (48, .iload_n 3, 1), (49, .iconst 0, 1), (50, .iconst 0, 1), (51, .invokevirtual 122, 3), (54, .invokevirtual 136, 3), (57, .istore 4, 2), (59, .iload 4, 2), (61, .ifCond .ne 12, 3), (64, .aload_n 0, 1), (65, .ldc 140, 2), (67, .invokevirtual 58, 3), (70, .goto 5, 3), (73, .iload 4, 2), (75, .ireturn, 1)])
def ab_m85 : ab_I := (⟨"StairRow", "noise", "(III)I"⟩, prog_1_method_12_code, 5, some .int, 5, false, 4, 5, (484, 482, 119, 483), [(0, .aload_n 0, 1), (1, .iload_n 1, 1), (2, .iload_n 3, 1), (3, .invokevirtual 115, 3), (6, .ifCond .eq 14, 3), (9, .aload_n 0, 1), (10, .getfield 12, 3), (13, .iload_n 2, 1), (14, .invokevirtual 126, 3), (17, .ifCond .ne 10, 3), (20, .aload_n 0, 1), (21, .ldc 57, 2), (23, .invokevirtual 58, 3), (26, .ireturn, 1), (27, .aload_n 0, 1), (28, .getfield 29, 3), (31, .aload_n 0, 1), (32, .getfield 12, 3), (35, .invokevirtual 132, 3), (38, .aload_n 0, 1), (39, .getfield 29, 3), (42, .aload_n 0, 1), (43, .getfield 12, 3), (46, .iload_n 3, 1), (47, .invokevirtual 141, 3), (50, .aload_n 0, 1), (51, .getfield 29, 3), (54, .iload_n 2, 1), (55, .aload_n 0, 1), (56, .getfield 12, 3), (59, .iload_n 1, 1), (60, .iload_n 3, 1), (61, .iconst 0, 1), (62, .iconst 0, 1), (63, .invokevirtual 122, 3), (66, .invokevirtual 145, 3), (69, .istore 4, 2), (71, .iload 4, 2), (73, .ifCond .ge 12, 3), (76, .aload_n 0, 1), (77, .ldc 140, 2), (79, .invokevirtual 58, 3), (82, .goto 5, 3), (85, .iload 4, 2), (87, .ireturn, 1)])
def ab_m86 : ab_I := (⟨"StairRow", "step", "(III)I"⟩, prog_1_method_13_code, 5, some .int, 5, false, 4, 5, (509, 507, 119, 508), [(0, .aload_n 0, 1), (1, .iload_n 1, 1), (2, .iload_n 2, 1), (3, .invokevirtual 115, 3), (6, .ifCond .eq 12, 3), (9, .iload_n 3, 1), (10, .bipush 16, 2), (12, .invokestatic 92, 3), (15, .ifCond .ne 10, 3), (18, .aload_n 0, 1), (19, .ldc 57, 2), (21, .invokevirtual 58, 3), (24, .ireturn, 1), (25, .aload_n 0, 1), (26, .getfield 29, 3), (29, .aload_n 0, 1), (30, .getfield 12, 3), (33, .invokevirtual 132, 3), (36, .aload_n 0, 1), (37, .getfield 29, 3), (40, .aload_n 0, 1), (41, .getfield 12, 3), (44, .iload_n 1, 1), (45, .invokevirtual 148, 3), (48, .aload_n 0, 1), (49, .getfield 12, 3), (52, .iload_n 1, 1), (53, .iload_n 2, 1), (54, .iconst 0, 1), (55, .iconst 0, 1), (56, .invokevirtual 122, 3), (59, .iload_n 3, 1), (60, .invokevirtual 151, 3), (63, .istore 4, 2), (65, .iload 4, 2), (67, .ifCond .ge 12, 3), (70, .aload_n 0, 1), (71, .ldc 140, 2), (73, .invokevirtual 58, 3), (76, .goto 5, 3), (79, .iload 4, 2), (81, .ireturn, 1)])
def ab_m87 : ab_I := (⟨"StairRow", "reach", "(II)I"⟩, prog_1_method_14_code, 3, some .int, 5, false, 3, 5, (529, 527, 119, 528), [(0, .aload_n 0, 1), (1, .iload_n 1, 1), (2, .iload_n 2, 1), (3, .invokevirtual 115, 3), (6, .ifCond .ne 10, 3), (9, .aload_n 0, 1), (10, .ldc 57, 2), (12, .invokevirtual 58, 3), (15, .ireturn, 1), (16, .aload_n 0, 1), (17, .getfield 29, 3), (20, .aload_n 0, 1), (21, .getfield 12, 3), (24, .invokevirtual 132, 3), (27, .aload_n 0, 1), (28, .getfield 29, 3), (31, .aload_n 0, 1), (32, .getfield 12, 3), (35, .iload_n 1, 1), (36, .iload_n 2, 1), (37, .iconst 0, 1), (38, .iconst 0, 1), (39, .invokevirtual 122, 3), (42, .invokevirtual 155, 3), (45, .ireturn, 1)])
def ab_m88 : ab_I := (⟨"StairRow", "off", "(I)I"⟩, prog_1_method_15_code, 2, some .int, 5, false, 2, 6, (537, 535, 119, 536), [(0, .iload_n 1, 1), (1, .bipush 24, 2), (3, .invokestatic 92, 3), (6, .ifCond .ne 10, 3), (9, .aload_n 0, 1), (10, .ldc 57, 2), (12, .invokevirtual 58, 3), (15, .ireturn, 1), (16, .aload_n 0, 1), (17, .aload_n 0, 1), (18, .getfield 12, 3), (21, .iload_n 1, 1), (22, .invokevirtual 158, 3), (25, .ireturn, 1)])
def ab_m89 : ab_I := (⟨"StairRow", "hours", "(I)I"⟩, prog_1_method_16_code, 4, some .int, 5, false, 2, 5, (545, 543, 119, 544), [(0, .aload_n 0, 1), (1, .getfield 12, 3), (4, .iload_n 1, 1), (5, .invokevirtual 162, 3), (8, .ifCond .ne 10, 3), (11, .aload_n 0, 1), (12, .ldc 57, 2), (14, .invokevirtual 58, 3), (17, .ireturn, 1), (18, .aload_n 0, 1), (19, .getfield 29, 3), (22, .aload_n 0, 1), (23, .getfield 12, 3), (26, .invokevirtual 132, 3), (29, .iconst 0, 1), (30, .istore_n 2, 1), (31, .iconst 0, 1), (32, .istore_n 3, 1), (33, .iload_n 3, 1), (34, .bipush 24, 2), (36, .if_icmp .ge 24, 3), (39, .aload_n 0, 1), (40, .iload_n 1, 1), (41, .iload_n 3, 1), (42, .invokevirtual 165, 3), (45, .ifCond .ne 9, 3), (48, .iload_n 2, 1), (49, .iconst 1, 1), (50, .iload_n 3, 1), (51, .ishl, 1), (52, .ior, 1), (53, .istore_n 2, 1), (54, .iinc 3 1, 3), (57, .goto (-24), 3), (60, .iload_n 2, 1), (61, .ireturn, 1)])
def ab_m90 : ab_I := (⟨"StairRow", "latest", "(I)I"⟩, prog_1_method_17_code, 3, some .int, 5, false, 2, 5, (553, 551, 119, 552), [(0, .aload_n 0, 1), (1, .getfield 12, 3), (4, .iload_n 1, 1), (5, .invokevirtual 162, 3), (8, .ifCond .ne 10, 3), (11, .aload_n 0, 1), (12, .ldc 57, 2), (14, .invokevirtual 58, 3), (17, .ireturn, 1), (18, .aload_n 0, 1), (19, .getfield 29, 3), (22, .aload_n 0, 1), (23, .getfield 12, 3), (26, .invokevirtual 132, 3), (29, .bipush 23, 2), (31, .istore_n 2, 1), (32, .iload_n 2, 1), (33, .ifCond .lt 20, 3), (36, .aload_n 0, 1), (37, .iload_n 1, 1), (38, .iload_n 2, 1), (39, .invokevirtual 165, 3), (42, .ifCond .le 5, 3), (45, .iload_n 2, 1), (46, .ireturn, 1), (47, .iinc 2 (-1), 3), (50, .goto (-18), 3), (53, .aload_n 0, 1), (54, .ldc 140, 2), (56, .invokevirtual 58, 3), (59, .ireturn, 1)])
def ab_m91 : ab_I := (⟨"StairRow", "best", "(I)I"⟩, prog_1_method_18_code, 6, some .int, 5, false, 2, 5, (557, 555, 119, 556), [(0, .aload_n 0, 1), (1, .getfield 12, 3), (4, .iload_n 1, 1), (5, .invokevirtual 162, 3), (8, .ifCond .ne 10, 3), (11, .aload_n 0, 1), (12, .ldc 57, 2), (14, .invokevirtual 58, 3), (17, .ireturn, 1), (18, .aload_n 0, 1), (19, .getfield 29, 3), (22, .aload_n 0, 1), (23, .getfield 12, 3), (26, .invokevirtual 132, 3), (29, .bipush 17, 2), (31, .istore_n 2, 1), (32, .iconst (-1), 1), (33, .istore_n 3, 1), (34, .iconst 0, 1), (35, .istore 4, 2), (37, .iload 4, 2), (39, .bipush 24, 2), (41, .if_icmp .ge 35, 3), (44, .aload_n 0, 1), (45, .iload_n 1, 1), (46, .iload 4, 2), (48, .invokevirtual 165, 3), (51, .istore 5, 2), (53, .iload 5, 2), (55, .ifCond .le 15, 3), (58, .iload 5, 2), (60, .iload_n 2, 1), (61, .if_icmp .ge 9, 3), (64, .iload 5, 2), (66, .istore_n 2, 1), (67, .iload 4, 2), (69, .istore_n 3, 1), (70, .iinc 4 1, 3), (73, .goto (-36), 3), (76, .iload_n 3, 1), (77, .ifCond .ge 12, 3), (80, .aload_n 0, 1), (81, .ldc 140, 2), (83, .invokevirtual 58, 3), (86, .goto 4, 3), (89, .iload_n 3, 1), (90, .ireturn, 1)])
def ab_m92 : ab_I := (⟨"StairRow", "worth", "(II)I"⟩, prog_1_method_19_code, 4, some .int, 5, false, 3, 7, (561, 559, 119, 560), [(0, .aload_n 0, 1), (1, .getfield 12, 3), (4, .iload_n 1, 1), (5, .invokevirtual 162, 3), (8, .ifCond .eq 12, 3), (11, .iload_n 2, 1), (12, .bipush 24, 2), (14, .invokestatic 92, 3), (17, .ifCond .ne 10, 3), (20, .aload_n 0, 1), (21, .ldc 57, 2), (23, .invokevirtual 58, 3), (26, .ireturn, 1), (27, .aload_n 0, 1), (28, .getfield 16, 3), (31, .aload_n 0, 1), (32, .getfield 12, 3), (35, .invokevirtual 168, 3), (38, .aload_n 0, 1), (39, .getfield 16, 3), (42, .iload_n 1, 1), (43, .invokevirtual 70, 3), (46, .astore_n 3, 1), (47, .aload_n 3, 1), (48, .ifnull 8, 3), (51, .aload_n 3, 1), (52, .iconst 0, 1), (53, .putfield 95, 3), (56, .aload_n 0, 1), (57, .iload_n 2, 1), (58, .invokevirtual 171, 3), (61, .ireturn, 1)])
def ab_m93 : ab_I := (⟨"StairRow", "helps", "(II)I"⟩, prog_1_method_20_code, 8, some .int, 5, false, 3, 5, (585, 583, 119, 584), [(0, .aload_n 0, 1), (1, .iload_n 1, 1), (2, .iload_n 2, 1), (3, .invokevirtual 115, 3), (6, .ifCond .ne 10, 3), (9, .aload_n 0, 1), (10, .ldc 57, 2), (12, .invokevirtual 58, 3), (15, .ireturn, 1), (16, .aload_n 0, 1), (17, .getfield 29, 3), (20, .aload_n 0, 1), (21, .getfield 12, 3), (24, .invokevirtual 132, 3), (27, .aload_n 0, 1), (28, .getfield 12, 3), (31, .iload_n 1, 1), (32, .invokevirtual 148, 3), (35, .istore_n 3, 1), (36, .aload_n 0, 1), (37, .getfield 12, 3), (40, .iload_n 1, 1), (41, .iload_n 2, 1), (42, .iconst 0, 1), (43, .iconst 0, 1), (44, .invokevirtual 122, 3), (47, .istore 4, 2), (49, .aload_n 0, 1), (50, .getfield 29, 3), (53, .iload_n 3, 1), (54, .iload 4, 2), (56, .invokevirtual 136, 3), (59, .ifCond .le 5, 3), (62, .iconst 0, 1), (63, .ireturn, 1), (64, .aload_n 0, 1), (65, .getfield 12, 3), (68, .iload_n 1, 1), (69, .iload_n 2, 1), (70, .iconst 0, 1), (71, .sipush 255, 3), (74, .invokevirtual 122, 3), (77, .iload 4, 2), (79, .iconst (-1), 1), (80, .ixor, 1), (81, .iand, 1), (82, .istore 5, 2), (84, .iconst 0, 1), (85, .istore 6, 2), (87, .iconst 0, 1), (88, .istore 7, 2), (90, .iload 7, 2), (92, .bipush 8, 2), (94, .if_icmp .ge 46, 3), (97, .iload 5, 2), (99, .iload 7, 2), (101, .invokestatic 105, 3), (104, .ifCond .eq 30, 3), (107, .aload_n 0, 1), (108, .getfield 29, 3), (111, .iload_n 3, 1), (112, .iload 4, 2), (114, .iconst 1, 1), (115, .iload 7, 2), (117, .ishl, 1), (118, .ior, 1), (119, .invokevirtual 136, 3), (122, .ifCond .le 12, 3), (125, .iload 6, 2), (127, .iconst 1, 1), (128, .iload 7, 2), (130, .ishl, 1), (131, .ior, 1), (132, .istore 6, 2), (134, .iinc 7 1, 3), (137, .goto (-47), 3), (140, .iload 6, 2), (142, .ireturn, 1)])
def ab_m94 : ab_I := (⟨"StairRow", "needs", "(II)I"⟩, prog_1_method_21_code, 4, some .int, 5, false, 3, 5, (589, 587, 119, 588), [(0, .aload_n 0, 1), (1, .iload_n 1, 1), (2, .iload_n 2, 1), (3, .invokevirtual 115, 3), (6, .ifCond .ne 10, 3), (9, .aload_n 0, 1), (10, .ldc 57, 2), (12, .invokevirtual 58, 3), (15, .ireturn, 1), (16, .aload_n 0, 1), (17, .getfield 29, 3), (20, .aload_n 0, 1), (21, .getfield 12, 3), (24, .invokevirtual 132, 3), (27, .aload_n 0, 1), (28, .iload_n 1, 1), (29, .iload_n 2, 1), (30, .invokevirtual 174, 3), (33, .istore_n 3, 1), (34, .iload_n 3, 1), (35, .ifCond .ge 12, 3), (38, .aload_n 0, 1), (39, .ldc 140, 2), (41, .invokevirtual 58, 3), (44, .goto 4, 3), (47, .iload_n 3, 1), (48, .ireturn, 1)])
def ab_m95 : ab_I := (⟨"StairRow", "law", "(I)I"⟩, prog_1_method_22_code, 5, some .int, 5, false, 2, 5, (597, 595, 119, 596), [(0, .iload_n 1, 1), (1, .bipush 24, 2), (3, .invokestatic 92, 3), (6, .ifCond .ne 10, 3), (9, .aload_n 0, 1), (10, .ldc 57, 2), (12, .invokevirtual 58, 3), (15, .ireturn, 1), (16, .aload_n 0, 1), (17, .getfield 29, 3), (20, .aload_n 0, 1), (21, .getfield 12, 3), (24, .invokevirtual 132, 3), (27, .iconst 0, 1), (28, .istore_n 2, 1), (29, .iconst 0, 1), (30, .istore_n 3, 1), (31, .iload_n 3, 1), (32, .aload_n 0, 1), (33, .getfield 12, 3), (36, .getfield 177, 3), (39, .if_icmp .ge 37, 3), (42, .aload_n 0, 1), (43, .iload_n 3, 1), (44, .iload_n 1, 1), (45, .invokevirtual 174, 3), (48, .istore 4, 2), (50, .iload 4, 2), (52, .ifCond .ge 10, 3), (55, .aload_n 0, 1), (56, .ldc 140, 2), (58, .invokevirtual 58, 3), (61, .ireturn, 1), (62, .iload_n 2, 1), (63, .iload 4, 2), (65, .invokestatic 180, 3), (68, .iadd, 1), (69, .istore_n 2, 1), (70, .iinc 3 1, 3), (73, .goto (-42), 3), (76, .iload_n 2, 1), (77, .ireturn, 1)])
def ab_m96 : ab_I := (⟨"StairRow", "quarrel", "(III)I"⟩, prog_1_method_23_code, 6, some .int, 5, false, 4, 7, (601, 599, 119, 600), [(0, .aload_n 0, 1), (1, .getfield 12, 3), (4, .iload_n 1, 1), (5, .invokevirtual 162, 3), (8, .ifCond .eq 28, 3), (11, .aload_n 0, 1), (12, .getfield 12, 3), (15, .iload_n 2, 1), (16, .invokevirtual 162, 3), (19, .ifCond .eq 17, 3), (22, .iload_n 1, 1), (23, .iload_n 2, 1), (24, .if_icmp .eq 12, 3), (27, .iload_n 3, 1), (28, .bipush 24, 2), (30, .invokestatic 92, 3), (33, .ifCond .ne 10, 3), (36, .aload_n 0, 1), (37, .ldc 57, 2), (39, .invokevirtual 58, 3), (42, .ireturn, 1), (43, .aload_n 0, 1), (44, .getfield 16, 3), (47, .aload_n 0, 1), (48, .getfield 12, 3), (51, .invokevirtual 168, 3), (54, .aload_n 0, 1), (55, .getfield 16, 3), (58, .iload_n 1, 1), (59, .invokevirtual 70, 3), (62, .astore 4, 2), (64, .aload_n 0, 1), (65, .getfield 16, 3), (68, .iload_n 2, 1), (69, .invokevirtual 70, 3), (72, .astore 5, 2), (74, .aload 4, 2), (76, .ifnull 20, 3), (79, .aload 5, 2), (81, .ifnull 15, 3), (84, .aload 4, 2), (86, .iload_n 2, 1), (87, .invokevirtual 185, 3), (90, .aload 5, 2), (92, .iload_n 1, 1), (93, .invokevirtual 185, 3), (96, .aload_n 0, 1), (97, .iload_n 3, 1), (98, .invokevirtual 171, 3), (101, .ireturn, 1)])
def ab_m97 : ab_I := (⟨"StairRow", "ring", "(I)I"⟩, prog_1_method_24_code, 6, some .int, 5, false, 2, 3, (610, 608, 119, 609), [(0, .aload_n 0, 1), (1, .getfield 12, 3), (4, .iload_n 1, 1), (5, .invokevirtual 162, 3), (8, .ifCond .ne 10, 3), (11, .aload_n 0, 1), (12, .ldc 57, 2), (14, .invokevirtual 58, 3), (17, .ireturn, 1), (18, .iconst 1, 1), (19, .iload_n 1, 1), (20, .ishl, 1), (21, .istore_n 2, 1), (22, .iload_n 2, 1), (23, .istore_n 3, 1), (24, .iconst 1, 1), (25, .istore 4, 2), (27, .iload 4, 2), (29, .aload_n 0, 1), (30, .getfield 12, 3), (33, .getfield 177, 3), (36, .if_icmp .gt 42, 3), (39, .aload_n 0, 1), (40, .getfield 12, 3), (43, .iload_n 3, 1), (44, .invokevirtual 189, 3), (47, .istore 5, 2), (49, .iload 5, 2), (51, .iload_n 1, 1), (52, .invokestatic 105, 3), (55, .ifCond .eq 6, 3), (58, .iload 4, 2), (60, .ireturn, 1), (61, .iload 5, 2), (63, .iload_n 2, 1), (64, .iconst (-1), 1), (65, .ixor, 1), (66, .iand, 1), (67, .istore_n 3, 1), (68, .iload_n 2, 1), (69, .iload_n 3, 1), (70, .ior, 1), (71, .istore_n 2, 1), (72, .iinc 4 1, 3), (75, .goto (-48), 3), (78, .aload_n 0, 1), (79, .ldc 140, 2), (81, .invokevirtual 58, 3), (84, .ireturn, 1)])
def ab_m98 : ab_I := (⟨"StairRow", "share", "(IIII)I"⟩, prog_1_method_25_code, 13, some .int, 5, false, 5, 5, (618, 616, 119, 617), [(0, .aload_n 0, 1), (1, .getfield 12, 3), (4, .iload_n 1, 1), (5, .invokevirtual 162, 3), (8, .ifCond .eq 23, 3), (11, .aload_n 0, 1), (12, .iload_n 2, 1), (13, .iload_n 3, 1), (14, .invokevirtual 115, 3), (17, .ifCond .eq 14, 3), (20, .iload 4, 2), (22, .ifCond .lt 9, 3), (25, .iload 4, 2), (27, .iconst 1, 1), (28, .if_icmp .le 10, 3), (31, .aload_n 0, 1), (32, .ldc 57, 2), (34, .invokevirtual 58, 3), (37, .ireturn, 1), (38, .aload_n 0, 1), (39, .getfield 29, 3), (42, .aload_n 0, 1), (43, .getfield 12, 3), (46, .invokevirtual 132, 3), (49, .aload_n 0, 1), (50, .getfield 12, 3), (53, .iload_n 2, 1), (54, .invokevirtual 148, 3), (57, .istore 5, 2), (59, .aload_n 0, 1), (60, .getfield 12, 3), (63, .iload_n 2, 1), (64, .iload_n 3, 1), (65, .sipush 255, 3), (68, .iconst 0, 1), (69, .invokevirtual 122, 3), (72, .istore 6, 2), (74, .aload_n 0, 1), (75, .getfield 12, 3), (78, .iload_n 2, 1), (79, .iload_n 3, 1), (80, .iconst 0, 1), (81, .iconst 0, 1), (82, .invokevirtual 122, 3), (85, .iload 6, 2), (87, .iconst (-1), 1), (88, .ixor, 1), (89, .iand, 1), (90, .istore 7, 2), (92, .iload 7, 2), (94, .iconst 1, 1), (95, .iload_n 1, 1), (96, .ishl, 1), (97, .iand, 1), (98, .istore 8, 2), (100, .iload 7, 2), (102, .iconst 1, 1), (103, .iload_n 1, 1), (104, .ishl, 1), (105, .iconst (-1), 1), (106, .ixor, 1), (107, .iand, 1), (108, .istore 9, 2), (110, .aload_n 0, 1), (111, .iload 5, 2), (113, .iload 6, 2), (115, .iload 8, 2), (117, .iload 9, 2), (119, .invokevirtual 192, 3), (122, .istore 10, 2), (124, .iconst 1, 1), (125, .iload 9, 2), (127, .invokestatic 180, 3), (130, .ishl, 1), (131, .istore 11, 2), (133, .iconst 0, 1), (134, .istore 12, 2), (136, .iload 12, 2), (138, .bipush 8, 2), (140, .if_icmp .ge 35, 3), (143, .iload 10, 2), (145, .iconst 2, 1), (146, .irem, 1), (147, .ifCond .ne 28, 3), (150, .iload 11, 2), (152, .iconst 2, 1), (153, .irem, 1), (154, .ifCond .ne 21, 3), (157, .iload 10, 2), (159, .iconst 2, 1), (160, .idiv, 1), (161, .istore 10, 2), (163, .iload 11, 2), (165, .iconst 2, 1), (166, .idiv, 1), (167, .istore 11, 2), (169, .iinc 12 1, 3), (172, .goto (-36), 3), (175, .iload 4, 2), (177, .ifCond .ne 8, 3), (180, .iload 10, 2), (182, .goto 5, 3), (185, .iload 11, 2), (187, .ireturn, 1)])
def ab_m99 : ab_I := (⟨"StairRow", "beds", "(I)I"⟩, prog_1_method_26_code, 2, some .int, 5, false, 2, 4, (626, 624, 119, 625), [(0, .aload_n 0, 1), (1, .getfield 12, 3), (4, .iload_n 1, 1), (5, .invokevirtual 162, 3), (8, .ifCond .ne 10, 3), (11, .aload_n 0, 1), (12, .ldc 57, 2), (14, .invokevirtual 58, 3), (17, .ireturn, 1), (18, .aload_n 0, 1), (19, .getfield 12, 3), (22, .iload_n 1, 1), (23, .invokevirtual 195, 3), (26, .ireturn, 1)])
def ab_m100 : ab_I := (⟨"StairRow", "swaps", "()I"⟩, prog_1_method_27_code, 5, some .int, 5, false, 1, 4, (634, 632, 119, 633), [(0, .iconst 0, 1), (1, .istore_n 1, 1), (2, .iconst 0, 1), (3, .istore_n 2, 1), (4, .iload_n 2, 1), (5, .aload_n 0, 1), (6, .getfield 12, 3), (9, .getfield 177, 3), (12, .if_icmp .ge 22, 3), (15, .iload_n 1, 1), (16, .iconst 1, 1), (17, .aload_n 0, 1), (18, .getfield 12, 3), (21, .iload_n 2, 1), (22, .invokevirtual 198, 3), (25, .ishl, 1), (26, .ior, 1), (27, .istore_n 1, 1), (28, .iinc 2 1, 3), (31, .goto (-27), 3), (34, .iload_n 1, 1), (35, .invokestatic 180, 3), (38, .aload_n 0, 1), (39, .getfield 12, 3), (42, .getfield 177, 3), (45, .if_icmp .eq 10, 3), (48, .aload_n 0, 1), (49, .ldc 201, 2), (51, .invokevirtual 58, 3), (54, .ireturn, 1), (55, .iconst 0, 1), (56, .istore_n 2, 1), (57, .iconst 0, 1), (58, .istore_n 3, 1), (59, .iconst 0, 1), (60, .istore 4, 2), (62, .iload 4, 2), (64, .aload_n 0, 1), (65, .getfield 12, 3), (68, .getfield 177, 3), (71, .if_icmp .ge 33, 3), (74, .iload_n 3, 1), (75, .iload 4, 2), (77, .invokestatic 105, 3), (80, .ifCond .ne 18, 3), (83, .iinc 2 1, 3), (86, .iload_n 3, 1), (87, .aload_n 0, 1), (88, .getfield 12, 3), (91, .iload 4, 2), (93, .invokevirtual 202, 3), (96, .ior, 1), (97, .istore_n 3, 1), (98, .iinc 4 1, 3), (101, .goto (-39), 3), (104, .aload_n 0, 1), (105, .getfield 12, 3), (108, .getfield 177, 3), (111, .iload_n 2, 1), (112, .isub, 1), (113, .ireturn, 1)])
def ab_m101 : ab_I := (⟨"StairRow", "fire", "()I"⟩, prog_1_method_28_code, 4, some .int, 5, false, 1, 5, (644, 642, 119, 643), [(0, .aload_n 0, 1), (1, .getfield 29, 3), (4, .aload_n 0, 1), (5, .getfield 12, 3), (8, .invokevirtual 132, 3), (11, .iconst 0, 1), (12, .istore_n 1, 1), (13, .iconst 0, 1), (14, .istore_n 2, 1), (15, .iload_n 2, 1), (16, .aload_n 0, 1), (17, .getfield 12, 3), (20, .getfield 177, 3), (23, .if_icmp .ge 45, 3), (26, .aload_n 0, 1), (27, .getfield 29, 3), (30, .aload_n 0, 1), (31, .getfield 12, 3), (34, .iload_n 2, 1), (35, .invokevirtual 148, 3), (38, .sipush 255, 3), (41, .invokevirtual 136, 3), (44, .istore_n 3, 1), (45, .iload_n 3, 1), (46, .ifCond .ne 10, 3), (49, .aload_n 0, 1), (50, .ldc 140, 2), (52, .invokevirtual 58, 3), (55, .ireturn, 1), (56, .iload_n 1, 1), (57, .iload_n 3, 1), (58, .invokestatic 205, 3), (61, .istore_n 1, 1), (62, .iinc 2 1, 3), (65, .goto (-50), 3), (68, .iload_n 1, 1), (69, .ireturn, 1)])
def ab_m102 : ab_I := (⟨"StairRow", "open", "(I)I"⟩, prog_1_method_29_code, 6, some .int, 5, false, 2, 6, (651, 649, 119, 650), [(0, .iload_n 1, 1), (1, .bipush 24, 2), (3, .invokestatic 92, 3), (6, .ifCond .ne 10, 3), (9, .aload_n 0, 1), (10, .ldc 57, 2), (12, .invokevirtual 58, 3), (15, .ireturn, 1), (16, .aload_n 0, 1), (17, .getfield 16, 3), (20, .aload_n 0, 1), (21, .getfield 12, 3), (24, .invokevirtual 168, 3), (27, .bipush 9, 2), (29, .istore_n 2, 1), (30, .iconst (-1), 1), (31, .istore_n 3, 1), (32, .iconst 0, 1), (33, .istore 4, 2), (35, .iload 4, 2), (37, .bipush 14, 2), (39, .if_icmp .ge 67, 3), (42, .aload_n 0, 1), (43, .getfield 12, 3), (46, .iload 4, 2), (48, .invokevirtual 108, 3), (51, .ifCond .ne 49, 3), (54, .aload_n 0, 1), (55, .getfield 16, 3), (58, .iload 4, 2), (60, .iconst 1, 1), (61, .invokevirtual 111, 3), (64, .aload_n 0, 1), (65, .aload_n 0, 1), (66, .getfield 16, 3), (69, .iload_n 1, 1), (70, .invokevirtual 158, 3), (73, .invokestatic 180, 3), (76, .istore 5, 2), (78, .aload_n 0, 1), (79, .getfield 16, 3), (82, .iload 4, 2), (84, .iconst 0, 1), (85, .invokevirtual 111, 3), (88, .iload 5, 2), (90, .iload_n 2, 1), (91, .if_icmp .ge 9, 3), (94, .iload 5, 2), (96, .istore_n 2, 1), (97, .iload 4, 2), (99, .istore_n 3, 1), (100, .iinc 4 1, 3), (103, .goto (-68), 3), (106, .iload_n 3, 1), (107, .ifCond .ge 12, 3), (110, .aload_n 0, 1), (111, .ldc 140, 2), (113, .invokevirtual 58, 3), (116, .goto 4, 3), (119, .iload_n 3, 1), (120, .ireturn, 1)])
def ab_m103 : ab_I := (⟨"StairRow", "shift", "()I"⟩, prog_1_method_30_code, 1, some .int, 5, false, 1, 6, (655, 653, 119, 654), [(0, .aload_n 0, 1), (1, .getfield 12, 3), (4, .invokevirtual 210, 3), (7, .aload_n 0, 1), (8, .aload_n 0, 1), (9, .getfield 12, 3), (12, .bipush 20, 2), (14, .invokevirtual 158, 3), (17, .invokestatic 180, 3), (20, .ireturn, 1)])
def ab_m104 : ab_I := (⟨"StairRow", "gossip", "(I)I"⟩, prog_1_method_31_code, 5, some .int, 5, false, 2, 4, (663, 661, 119, 662), [(0, .iload_n 1, 1), (1, .iconst 1, 1), (2, .if_icmp .lt 9, 3), (5, .iload_n 1, 1), (6, .bipush 12, 2), (8, .if_icmp .le 10, 3), (11, .aload_n 0, 1), (12, .ldc 57, 2), (14, .invokevirtual 58, 3), (17, .ireturn, 1), (18, .aload_n 0, 1), (19, .getfield 12, 3), (22, .getfield 177, 3), (25, .ifCond .ne 10, 3), (28, .aload_n 0, 1), (29, .ldc 201, 2), (31, .invokevirtual 58, 3), (34, .ireturn, 1), (35, .iconst 0, 1), (36, .istore_n 2, 1), (37, .iload_n 2, 1), (38, .iload_n 1, 1), (39, .if_icmp .ge 65, 3), (42, .aload_n 0, 1), (43, .getfield 12, 3), (46, .aload_n 0, 1), (47, .getfield 12, 3), (50, .getfield 177, 3), (53, .invokevirtual 213, 3), (56, .istore_n 3, 1), (57, .aload_n 0, 1), (58, .getfield 12, 3), (61, .aload_n 0, 1), (62, .getfield 12, 3), (65, .aload_n 0, 1), (66, .getfield 12, 3), (69, .getfield 177, 3), (72, .invokevirtual 213, 3), (75, .invokevirtual 70, 3), (78, .astore 4, 2), (80, .aload 4, 2), (82, .ifnull 16, 3), (85, .aload 4, 2), (87, .dup, 1), (88, .getfield 95, 3), (91, .iconst 1, 1), (92, .iload_n 3, 1), (93, .ishl, 1), (94, .ior, 1), (95, .putfield 95, 3), (98, .iinc 2 1, 3), (101, .goto (-64), 3), (104, .aload_n 0, 1), (105, .getfield 12, 3), (108, .invokevirtual 216, 3), (111, .ireturn, 1)])
def ab_m105 : ab_I := (⟨"StairRow", "seed", "(I)I"⟩, prog_1_method_32_code, 3, some .int, 5, false, 2, 1, (678, 676, 119, 677), [(0, .aload_n 0, 1), (1, .getfield 12, 3), (4, .getfield 220, 3), (7, .istore_n 2, 1), (8, .aload_n 0, 1), (9, .getfield 12, 3), (12, .iload_n 1, 1), (13, .putfield 220, 3), (16, .iload_n 2, 1), (17, .ireturn, 1)])
def ab_m106 : ab_I := (⟨"StairRow", "feed", "(II)I"⟩, prog_1_method_33_code, 4, some .int, 5, false, 3, 3, (682, 680, 119, 681), [(0, .iload_n 2, 1), (1, .iconst 1, 1), (2, .if_icmp .lt 8, 3), (5, .iload_n 2, 1), (6, .iconst 4, 1), (7, .if_icmp .le 10, 3), (10, .aload_n 0, 1), (11, .ldc 57, 2), (13, .invokevirtual 58, 3), (16, .ireturn, 1), (17, .iload_n 2, 1), (18, .aload_n 0, 1), (19, .getfield 36, 3), (22, .invokevirtual 223, 3), (25, .if_icmp .le 10, 3), (28, .aload_n 0, 1), (29, .ldc 66, 2), (31, .invokevirtual 58, 3), (34, .ireturn, 1), (35, .iload_n 2, 1), (36, .iconst 1, 1), (37, .isub, 1), (38, .istore_n 3, 1), (39, .iload_n 3, 1), (40, .ifCond .lt 26, 3), (43, .aload_n 0, 1), (44, .getfield 36, 3), (47, .iload_n 1, 1), (48, .bipush 8, 2), (50, .iload_n 3, 1), (51, .imul, 1), (52, .iushr, 1), (53, .sipush 255, 3), (56, .iand, 1), (57, .invokevirtual 226, 3), (60, .iinc 3 (-1), 3), (63, .goto (-24), 3), (66, .aload_n 0, 1), (67, .getfield 36, 3), (70, .getfield 229, 3), (73, .ireturn, 1)])
def ab_m107 : ab_I := (⟨"StairRow", "wipe", "()I"⟩, prog_1_method_34_code, 2, some .int, 5, false, 1, 1, (695, 693, 119, 694), [(0, .aload_n 0, 1), (1, .getfield 36, 3), (4, .getfield 229, 3), (7, .istore_n 1, 1), (8, .aload_n 0, 1), (9, .getfield 36, 3), (12, .iconst 0, 1), (13, .putfield 229, 3), (16, .iload_n 1, 1), (17, .ireturn, 1)])
def ab_m108 : ab_I := (⟨"StairRow", "text", "()I"⟩, prog_1_method_35_code, 2, some .int, 5, false, 1, 10, (699, 697, 119, 698), [(0, .aload_n 0, 1), (1, .getfield 16, 3), (4, .aload_n 0, 1), (5, .getfield 12, 3), (8, .invokevirtual 168, 3), (11, .aload_n 0, 1), (12, .getfield 36, 3), (15, .aload_n 0, 1), (16, .getfield 16, 3), (19, .invokevirtual 230, 3), (22, .istore_n 1, 1), (23, .aload_n 0, 1), (24, .getfield 36, 3), (27, .iconst 0, 1), (28, .putfield 229, 3), (31, .iload_n 1, 1), (32, .ifCond .lt 14, 3), (35, .aload_n 0, 1), (36, .getfield 12, 3), (39, .aload_n 0, 1), (40, .getfield 16, 3), (43, .invokevirtual 168, 3), (46, .iload_n 1, 1), (47, .ireturn, 1)])
def ab_m109 : ab_I := (⟨"StairRow", "hold", "(II)I"⟩, prog_1_method_36_code, 3, some .int, 5, false, 3, 3, (852, 850, 119, 851), [(0, .iload_n 1, 1), (1, .bipush 10, 2), (3, .invokestatic 92, 3), (6, .ifCond .eq 19, 3), (9, .iload_n 2, 1), (10, .iconst (-1), 1), (11, .if_icmp .eq 21, 3), (14, .aload_n 0, 1), (15, .getfield 12, 3), (18, .iload_n 2, 1), (19, .invokevirtual 162, 3), (22, .ifCond .ne 10, 3), (25, .aload_n 0, 1), (26, .ldc 57, 2), (28, .invokevirtual 58, 3), (31, .ireturn, 1), (32, .aload_n 0, 1), (33, .getfield 12, 3), (36, .getfield 234, 3), (39, .iload_n 1, 1), (40, .iload_n 2, 1), (41, .invokestatic 237, 3), (44, .iconst 1, 1), (45, .ireturn, 1)])
def ab_m110 : ab_I := (⟨"StairRow", "as", "(II)I"⟩, prog_1_method_37_code, 4, some .int, 5, false, 3, 4, (856, 854, 119, 855), [(0, .iload_n 1, 1), (1, .bipush 10, 2), (3, .invokestatic 92, 3), (6, .ifCond .eq 10, 3), (9, .iload_n 2, 1), (10, .invokestatic 51, 3), (13, .ifCond .ne 10, 3), (16, .aload_n 0, 1), (17, .ldc 57, 2), (19, .invokevirtual 58, 3), (22, .ireturn, 1), (23, .aload_n 0, 1), (24, .getfield 12, 3), (27, .aload_n 0, 1), (28, .getfield 12, 3), (31, .getfield 234, 3), (34, .iload_n 1, 1), (35, .invokestatic 241, 3), (38, .invokevirtual 70, 3), (41, .astore_n 3, 1), (42, .aload_n 3, 1), (43, .ifnonnull 10, 3), (46, .aload_n 0, 1), (47, .ldc 245, 2), (49, .invokevirtual 58, 3), (52, .ireturn, 1), (53, .aload_n 3, 1), (54, .iload_n 2, 1), (55, .invokevirtual 246, 3), (58, .ifCond .eq 10, 3), (61, .aload_n 3, 1), (62, .getfield 249, 3), (65, .goto 9, 3), (68, .aload_n 0, 1), (69, .ldc 252, 2), (71, .invokevirtual 58, 3), (74, .ireturn, 1)])
def ab_m111 : ab_I := (⟨"StairRow", "sheet", "(III)I"⟩, prog_1_method_38_code, 5, some .int, 5, false, 4, 3, (868, 866, 119, 867), [(0, .aload_n 0, 1), (1, .iload_n 1, 1), (2, .invokevirtual 253, 3), (5, .astore 4, 2), (7, .aload 4, 2), (9, .ifnull 25, 3), (12, .iload_n 2, 1), (13, .ifCond .eq 28, 3), (16, .iload_n 2, 1), (17, .bipush 8, 2), (19, .if_icmp .eq 22, 3), (22, .iload_n 2, 1), (23, .bipush 16, 2), (25, .if_icmp .eq 16, 3), (28, .iload_n 2, 1), (29, .bipush 32, 2), (31, .if_icmp .eq 10, 3), (34, .aload_n 0, 1), (35, .ldc 57, 2), (37, .invokevirtual 58, 3), (40, .ireturn, 1), (41, .iload_n 3, 1), (42, .ifCond .ge 11, 3), (45, .aload_n 0, 1), (46, .ldc_w 257, 3), (49, .invokevirtual 58, 3), (52, .ireturn, 1), (53, .iload_n 3, 1), (54, .bipush 40, 2), (56, .if_icmp .le 10, 3), (59, .aload_n 0, 1), (60, .ldc 57, 2), (62, .invokevirtual 58, 3), (65, .ireturn, 1), (66, .aload 4, 2), (68, .iload_n 2, 1), (69, .iload_n 3, 1), (70, .invokevirtual 258, 3), (73, .aload 4, 2), (75, .getfield 261, 3), (78, .ireturn, 1)])
def ab_m112 : ab_I := (⟨"StairRow", "write", "(III)I"⟩, prog_1_method_39_code, 5, some .int, 5, false, 4, 3, (881, 879, 119, 880), [(0, .aload_n 0, 1), (1, .iload_n 1, 1), (2, .invokevirtual 253, 3), (5, .astore 4, 2), (7, .aload 4, 2), (9, .ifnonnull 10, 3), (12, .aload_n 0, 1), (13, .ldc 57, 2), (15, .invokevirtual 58, 3), (18, .ireturn, 1), (19, .aload 4, 2), (21, .invokevirtual 262, 3), (24, .ifCond .eq 10, 3), (27, .aload_n 0, 1), (28, .ldc 245, 2), (30, .invokevirtual 58, 3), (33, .ireturn, 1), (34, .iload_n 2, 1), (35, .aload 4, 2), (37, .getfield 261, 3), (40, .invokestatic 92, 3), (43, .ifCond .ne 10, 3), (46, .aload_n 0, 1), (47, .ldc 57, 2), (49, .invokevirtual 58, 3), (52, .ireturn, 1), (53, .aload 4, 2), (55, .iload_n 2, 1), (56, .iload_n 3, 1), (57, .invokevirtual 265, 3), (60, .iconst 1, 1), (61, .ireturn, 1)])
def ab_m113 : ab_I := (⟨"StairRow", "copy", "(IIIII)I"⟩, prog_1_method_40_code, 8, some .int, 5, false, 6, 3, (894, 892, 119, 893), [(0, .aload_n 0, 1), (1, .iload_n 1, 1), (2, .invokevirtual 253, 3), (5, .astore 6, 2), (7, .aload_n 0, 1), (8, .iload_n 3, 1), (9, .invokevirtual 253, 3), (12, .astore 7, 2), (14, .aload 6, 2), (16, .ifnull 8, 3), (19, .aload 7, 2), (21, .ifnonnull 10, 3), (24, .aload_n 0, 1), (25, .ldc 57, 2), (27, .invokevirtual 58, 3), (30, .ireturn, 1), (31, .aload 6, 2), (33, .invokevirtual 262, 3), (36, .ifCond .ne 11, 3), (39, .aload 7, 2), (41, .invokevirtual 262, 3), (44, .ifCond .eq 10, 3), (47, .aload_n 0, 1), (48, .ldc 245, 2), (50, .invokevirtual 58, 3), (53, .ireturn, 1), (54, .aload 6, 2), (56, .getfield 268, 3), (59, .aload 7, 2), (61, .getfield 268, 3), (64, .if_icmp .eq 10, 3), (67, .aload_n 0, 1), (68, .ldc 252, 2), (70, .invokevirtual 58, 3), (73, .ireturn, 1), (74, .aload 6, 2), (76, .iload_n 2, 1), (77, .iload 5, 2), (79, .invokevirtual 271, 3), (82, .ifCond .eq 15, 3), (85, .aload 7, 2), (87, .iload 4, 2), (89, .iload 5, 2), (91, .invokevirtual 271, 3), (94, .ifCond .ne 10, 3), (97, .aload_n 0, 1), (98, .ldc 57, 2), (100, .invokevirtual 58, 3), (103, .ireturn, 1), (104, .aload 6, 2), (106, .getfield 274, 3), (109, .iload_n 2, 1), (110, .aload 7, 2), (112, .getfield 274, 3), (115, .iload 4, 2), (117, .iload 5, 2), (119, .invokestatic 277, 3), (122, .iload 5, 2), (124, .ireturn, 1)])
def ab_m114 : ab_I := (⟨"StairRow", "load", "(I)I"⟩, prog_1_method_41_code, 6, some .int, 5, false, 2, 3, (905, 903, 119, 904), [(0, .aload_n 0, 1), (1, .iload_n 1, 1), (2, .invokevirtual 253, 3), (5, .astore_n 2, 1), (6, .aload_n 2, 1), (7, .ifnonnull 10, 3), (10, .aload_n 0, 1), (11, .ldc 57, 2), (13, .invokevirtual 58, 3), (16, .ireturn, 1), (17, .aload_n 2, 1), (18, .invokevirtual 262, 3), (21, .ifCond .eq 10, 3), (24, .aload_n 0, 1), (25, .ldc 245, 2), (27, .invokevirtual 58, 3), (30, .ireturn, 1), (31, .aload_n 2, 1), (32, .getfield 261, 3), (35, .aload_n 0, 1), (36, .getfield 12, 3), (39, .getfield 177, 3), (42, .invokestatic 283, 3), (45, .istore_n 3, 1), (46, .iconst 0, 1), (47, .istore 4, 2), (49, .iload 4, 2), (51, .iload_n 3, 1), (52, .if_icmp .ge 43, 3), (55, .aload_n 0, 1), (56, .getfield 12, 3), (59, .iload 4, 2), (61, .invokevirtual 70, 3), (64, .astore 5, 2), (66, .aload 5, 2), (68, .ifnull 21, 3), (71, .aload 5, 2), (73, .aload_n 2, 1), (74, .getfield 274, 3), (77, .iload 4, 2), (79, .invokestatic 241, 3), (82, .sipush 255, 3), (85, .iand, 1), (86, .putfield 95, 3), (89, .iinc 4 1, 3), (92, .goto (-43), 3), (95, .iload_n 3, 1), (96, .ireturn, 1)])
def ab_m115 : ab_I := (⟨"StairRow", "judge", "(III)I"⟩, prog_1_method_42_code, 10, some .int, 5, false, 4, 5, (912, 910, 119, 911), [(0, .aload_n 0, 1), (1, .iload_n 1, 1), (2, .invokevirtual 253, 3), (5, .astore 4, 2), (7, .aload 4, 2), (9, .ifnonnull 10, 3), (12, .aload_n 0, 1), (13, .ldc 57, 2), (15, .invokevirtual 58, 3), (18, .ireturn, 1), (19, .aload 4, 2), (21, .invokevirtual 262, 3), (24, .ifCond .eq 10, 3), (27, .aload_n 0, 1), (28, .ldc 245, 2), (30, .invokevirtual 58, 3), (33, .ireturn, 1), (34, .aload_n 0, 1), (35, .iload_n 2, 1), (36, .iload_n 3, 1), (37, .invokevirtual 115, 3), (40, .ifCond .ne 10, 3), (43, .aload_n 0, 1), (44, .ldc 57, 2), (46, .invokevirtual 58, 3), (49, .ireturn, 1), (50, .aload_n 0, 1), (51, .getfield 29, 3), (54, .aload_n 0, 1), (55, .getfield 12, 3), (58, .invokevirtual 132, 3), (61, .aload_n 0, 1), (62, .getfield 12, 3), (65, .iload_n 2, 1), (66, .iload_n 3, 1), (67, .iconst 0, 1), (68, .iconst 0, 1), (69, .invokevirtual 122, 3), (72, .invokestatic 286, 3), (75, .istore 5, 2), (77, .sipush 21845, 3), (80, .iload 5, 2), (82, .iand, 1), (83, .istore 6, 2), (85, .iconst (-1), 1), (86, .istore 7, 2), (88, .iconst 0, 1), (89, .istore 8, 2), (91, .iload 8, 2), (93, .aload 4, 2), (95, .getfield 261, 3), (98, .if_icmp .ge 64, 3), (101, .aload 4, 2), (103, .getfield 274, 3), (106, .iload 8, 2), (108, .invokestatic 241, 3), (111, .istore 9, 2), (113, .iload 9, 2), (115, .bipush 16, 2), (117, .invokestatic 92, 3), (120, .ifCond .eq 13, 3), (123, .iload 6, 2), (125, .iload 9, 2), (127, .invokestatic 105, 3), (130, .ifCond .ne 8, 3), (133, .iconst 1, 1), (134, .iload 8, 2), (136, .iadd, 1), (137, .ireturn, 1), (138, .aload_n 0, 1), (139, .getfield 29, 3), (142, .iload 9, 2), (144, .invokevirtual 289, 3), (147, .iload 5, 2), (149, .iand, 1), (150, .istore 6, 2), (152, .iload 9, 2), (154, .istore 7, 2), (156, .iinc 8 1, 3), (159, .goto (-68), 3), (162, .iload 7, 2), (164, .aload_n 0, 1), (165, .getfield 12, 3), (168, .iload_n 2, 1), (169, .invokevirtual 148, 3), (172, .if_icmp .ne 7, 3), (175, .iconst 0, 1), (176, .goto 10, 3), (179, .iconst 1, 1), (180, .aload 4, 2), (182, .getfield 261, 3), (185, .iadd, 1), (186, .ireturn, 1)])
def ab_m116 : ab_I := (⟨"StairRow", "image", "()I"⟩, prog_1_method_43_code, 1, some .int, 5, false, 1, 3, (921, 919, 119, 920), [(0, .aload_n 0, 1), (1, .getfield 19, 3), (4, .aload_n 0, 1), (5, .getfield 12, 3), (8, .invokevirtual 168, 3), (11, .aload_n 0, 1), (12, .iconst 1, 1), (13, .putfield 22, 3), (16, .iconst 1, 1), (17, .ireturn, 1)])
def ab_m117 : ab_I := (⟨"StairRow", "undo", "()I"⟩, prog_1_method_44_code, 1, some .int, 5, false, 1, 3, (925, 923, 119, 924), [(0, .aload_n 0, 1), (1, .getfield 22, 3), (4, .ifCond .ne 10, 3), (7, .aload_n 0, 1), (8, .ldc 140, 2), (10, .invokevirtual 58, 3), (13, .ireturn, 1), (14, .aload_n 0, 1), (15, .getfield 12, 3), (18, .aload_n 0, 1), (19, .getfield 19, 3), (22, .invokevirtual 168, 3), (25, .aload_n 0, 1), (26, .getfield 12, 3), (29, .getfield 177, 3), (32, .ireturn, 1)])
def ab_m118 : ab_I := (⟨"StairRow", "tear", "()I"⟩, prog_1_method_45_code, 2, some .int, 5, false, 1, 1, (929, 927, 119, 928), [(0, .aload_n 0, 1), (1, .getfield 22, 3), (4, .ifCond .eq 7, 3), (7, .iconst 1, 1), (8, .goto 4, 3), (11, .iconst 0, 1), (12, .istore_n 1, 1), (13, .aload_n 0, 1), (14, .iconst 0, 1), (15, .putfield 22, 3), (18, .iload_n 1, 1), (19, .ireturn, 1)])
def ab_m119 : ab_I := (⟨"StairRow", "count", "(I)I"⟩, prog_1_method_46_code, 2, some .int, 5, false, 2, 4, (933, 931, 119, 932), [(0, .iload_n 1, 1), (1, .tableswitch 102 0 6 #[43, 51, 62, 70, 78, 86, 94], 43), (44, .aload_n 0, 1), (45, .getfield 12, 3), (48, .getfield 177, 3), (51, .ireturn, 1), (52, .aload_n 0, 1), (53, .getfield 12, 3), (56, .getfield 292, 3), (59, .invokestatic 180, 3), (62, .ireturn, 1), (63, .aload_n 0, 1), (64, .getfield 12, 3), (67, .invokevirtual 295, 3), (70, .ireturn, 1), (71, .aload_n 0, 1), (72, .getfield 12, 3), (75, .invokevirtual 298, 3), (78, .ireturn, 1), (79, .aload_n 0, 1), (80, .getfield 36, 3), (83, .getfield 229, 3), (86, .ireturn, 1), (87, .aload_n 0, 1), (88, .getfield 12, 3), (91, .getfield 220, 3), (94, .ireturn, 1), (95, .aload_n 0, 1), (96, .getfield 12, 3), (99, .invokevirtual 301, 3), (102, .ireturn, 1), (103, .aload_n 0, 1), (104, .ldc 57, 2), (106, .invokevirtual 58, 3), (109, .ireturn, 1)])
def ab_m120 : ab_I := (⟨"StairRow", "status", "(I)I"⟩, prog_1_method_47_code, 4, some .int, 5, false, 2, 3, (949, 947, 119, 948), [(0, .iload_n 1, 1), (1, .iconst (-1), 1), (2, .if_icmp .lt 9, 3), (5, .iload_n 1, 1), (6, .bipush 7, 2), (8, .if_icmp .lt 10, 3), (11, .aload_n 0, 1), (12, .ldc 57, 2), (14, .invokevirtual 58, 3), (17, .ireturn, 1), (18, .iload_n 1, 1), (19, .ifCond .lt 12, 3), (22, .aload_n 0, 1), (23, .getfield 46, 3), (26, .iload_n 1, 1), (27, .invokestatic 241, 3), (30, .ireturn, 1), (31, .iconst 0, 1), (32, .istore_n 2, 1), (33, .iconst 0, 1), (34, .istore_n 3, 1), (35, .iload_n 3, 1), (36, .aload_n 0, 1), (37, .getfield 46, 3), (40, .arraylength, 1), (41, .if_icmp .ge 18, 3), (44, .iload_n 2, 1), (45, .aload_n 0, 1), (46, .getfield 46, 3), (49, .iload_n 3, 1), (50, .iaload, 1), (51, .iadd, 1), (52, .istore_n 2, 1), (53, .iinc 3 1, 3), (56, .goto (-21), 3), (59, .iload_n 2, 1), (60, .ireturn, 1)])
def ab_m121 : ab_I := (⟨"StairRow", "found", "(I)I"⟩, prog_1_method_48_code, 3, some .int, 5, false, 2, 2, (328, 327, 119, 0), [(0, .ldc 57, 2), (2, .iload_n 1, 1), (3, .isub, 1), (4, .istore_n 2, 1), (5, .aload_n 0, 1), (6, .getfield 46, 3), (9, .iload_n 2, 1), (10, .aload_n 0, 1), (11, .getfield 46, 3), (14, .iload_n 2, 1), (15, .invokestatic 241, 3), (18, .iconst 1, 1), (19, .iadd, 1), (20, .invokestatic 237, 3), (23, .iload_n 1, 1), (24, .ireturn, 1)])
def ab_m122 : ab_I := (⟨"StairRow", "isVisit", "(II)Z"⟩, prog_1_method_49_code, 3, some .boolean, 5, false, 3, 3, (418, 417, 119, 11), [(0, .aload_n 0, 1), (1, .getfield 12, 3), (4, .iload_n 1, 1), (5, .invokevirtual 162, 3), (8, .ifCond .eq 16, 3), (11, .iload_n 2, 1), (12, .bipush 24, 2), (14, .invokestatic 92, 3), (17, .ifCond .eq 7, 3), (20, .iconst 1, 1), (21, .goto 4, 3), (24, .iconst 0, 1), (25, .ireturn, 1)])
def ab_m123 : ab_I := (⟨"StairRow", "sheetAt", "(I)LStairRow$Sheet;"⟩, prog_1_method_50_code, 2, some (.object "StairRow$Sheet"), 5, false, 2, 1, (872, 871, 119, 65), [(0, .iload_n 1, 1), (1, .ifCond .lt 12, 3), (4, .iload_n 1, 1), (5, .aload_n 0, 1), (6, .getfield 42, 3), (9, .arraylength, 1), (10, .if_icmp .lt 7, 3), (13, .aconst_null, 1), (14, .goto 9, 3), (17, .aload_n 0, 1), (18, .getfield 42, 3), (21, .iload_n 1, 1), (22, .aaload, 1), (23, .areturn, 1)])
def ab_m124 : ab_I := (⟨"StairRow", "lengthHome", "(II)I"⟩, prog_1_method_51_code, 3, some .int, 5, false, 3, 4, (549, 548, 119, 31), [(0, .aload_n 0, 1), (1, .getfield 29, 3), (4, .aload_n 0, 1), (5, .getfield 12, 3), (8, .iload_n 1, 1), (9, .invokevirtual 148, 3), (12, .aload_n 0, 1), (13, .getfield 12, 3), (16, .iload_n 1, 1), (17, .iload_n 2, 1), (18, .iconst 0, 1), (19, .iconst 0, 1), (20, .invokevirtual 122, 3), (23, .invokevirtual 136, 3), (26, .ireturn, 1)])
def ab_m125 : ab_I := (⟨"StairRow", "cutOff", "(LStairRow$Row;I)I"⟩, prog_1_method_52_code, 6, some .int, 5, false, 3, 5, (541, 540, 119, 30), [(0, .aload_n 0, 1), (1, .getfield 29, 3), (4, .aload_n 1, 1), (5, .invokevirtual 132, 3), (8, .iconst 0, 1), (9, .istore_n 3, 1), (10, .iconst 0, 1), (11, .istore 4, 2), (13, .iload 4, 2), (15, .aload_n 1, 1), (16, .getfield 177, 3), (19, .if_icmp .ge 45, 3), (22, .aload_n 1, 1), (23, .iload 4, 2), (25, .iload_n 2, 1), (26, .iconst 0, 1), (27, .iconst 0, 1), (28, .invokevirtual 122, 3), (31, .istore 5, 2), (33, .aload_n 0, 1), (34, .getfield 29, 3), (37, .aload_n 1, 1), (38, .iload 4, 2), (40, .invokevirtual 148, 3), (43, .iload 5, 2), (45, .invokevirtual 136, 3), (48, .ifCond .ne 10, 3), (51, .iload_n 3, 1), (52, .iconst 1, 1), (53, .iload 4, 2), (55, .ishl, 1), (56, .ior, 1), (57, .istore_n 3, 1), (58, .iinc 4 1, 3), (61, .goto (-48), 3), (64, .iload_n 3, 1), (65, .ireturn, 1)])
def ab_m126 : ab_I := (⟨"StairRow", "cutOffMore", "(I)I"⟩, prog_1_method_53_code, 2, some .int, 5, false, 2, 6, (575, 574, 119, 34), [(0, .aload_n 0, 1), (1, .aload_n 0, 1), (2, .getfield 16, 3), (5, .iload_n 1, 1), (6, .invokevirtual 158, 3), (9, .invokestatic 180, 3), (12, .aload_n 0, 1), (13, .aload_n 0, 1), (14, .getfield 12, 3), (17, .iload_n 1, 1), (18, .invokevirtual 158, 3), (21, .invokestatic 180, 3), (24, .isub, 1), (25, .ireturn, 1)])
def ab_m127 : ab_I := (⟨"StairRow", "fewestLeaves", "(II)I"⟩, prog_1_method_54_code, 9, some .int, 5, false, 3, 4, (593, 592, 119, 35), [(0, .aload_n 0, 1), (1, .getfield 12, 3), (4, .iload_n 1, 1), (5, .invokevirtual 148, 3), (8, .istore_n 3, 1), (9, .aload_n 0, 1), (10, .getfield 12, 3), (13, .iload_n 1, 1), (14, .iload_n 2, 1), (15, .iconst 0, 1), (16, .iconst 0, 1), (17, .invokevirtual 122, 3), (20, .istore 4, 2), (22, .aload_n 0, 1), (23, .getfield 29, 3), (26, .iload_n 3, 1), (27, .iload 4, 2), (29, .invokevirtual 136, 3), (32, .ifCond .le 5, 3), (35, .iconst 0, 1), (36, .ireturn, 1), (37, .aload_n 0, 1), (38, .getfield 12, 3), (41, .iload_n 1, 1), (42, .iload_n 2, 1), (43, .iconst 0, 1), (44, .sipush 255, 3), (47, .invokevirtual 122, 3), (50, .iload 4, 2), (52, .iconst (-1), 1), (53, .ixor, 1), (54, .iand, 1), (55, .istore 5, 2), (57, .aload_n 0, 1), (58, .getfield 29, 3), (61, .iload_n 3, 1), (62, .iload 4, 2), (64, .iload 5, 2), (66, .ior, 1), (67, .invokevirtual 136, 3), (70, .ifCond .ne 5, 3), (73, .iconst (-1), 1), (74, .ireturn, 1), (75, .iload 5, 2), (77, .istore 6, 2), (79, .iconst 1, 1), (80, .istore 7, 2), (82, .iload 7, 2), (84, .sipush 256, 3), (87, .if_icmp .ge 64, 3), (90, .iload 7, 2), (92, .invokestatic 180, 3), (95, .iload 6, 2), (97, .invokestatic 180, 3), (100, .if_icmp .ge 7, 3), (103, .iconst 1, 1), (104, .goto 4, 3), (107, .iconst 0, 1), (108, .istore 8, 2), (110, .iload 8, 2), (112, .ifCond .eq 33, 3), (115, .iload 7, 2), (117, .iload 5, 2), (119, .iconst (-1), 1), (120, .ixor, 1), (121, .iand, 1), (122, .ifCond .ne 23, 3), (125, .aload_n 0, 1), (126, .getfield 29, 3), (129, .iload_n 3, 1), (130, .iload 4, 2), (132, .iload 7, 2), (134, .ior, 1), (135, .invokevirtual 136, 3), (138, .ifCond .le 7, 3), (141, .iload 7, 2), (143, .istore 6, 2), (145, .iinc 7 1, 3), (148, .goto (-66), 3), (151, .iload 6, 2), (153, .ireturn, 1)])
def ab_m128 : ab_I := (⟨"StairRow", "countNeeded", "(IIII)I"⟩, prog_1_method_55_code, 7, some .int, 5, false, 5, 4, (622, 621, 119, 38), [(0, .iconst 0, 1), (1, .istore 5, 2), (3, .iconst 0, 1), (4, .istore 6, 2), (6, .iload 6, 2), (8, .sipush 256, 3), (11, .if_icmp .ge 58, 3), (14, .iload_n 3, 1), (15, .ifCond .eq 54, 3), (18, .iload 6, 2), (20, .iload 4, 2), (22, .iconst (-1), 1), (23, .ixor, 1), (24, .iand, 1), (25, .ifCond .ne 38, 3), (28, .aload_n 0, 1), (29, .getfield 29, 3), (32, .iload_n 1, 1), (33, .iload_n 2, 1), (34, .iload 6, 2), (36, .ior, 1), (37, .iload_n 3, 1), (38, .ior, 1), (39, .invokevirtual 136, 3), (42, .ifCond .le 21, 3), (45, .aload_n 0, 1), (46, .getfield 29, 3), (49, .iload_n 1, 1), (50, .iload_n 2, 1), (51, .iload 6, 2), (53, .ior, 1), (54, .invokevirtual 136, 3), (57, .ifCond .ne 6, 3), (60, .iinc 5 1, 3), (63, .iinc 6 1, 3), (66, .goto (-60), 3), (69, .iload 5, 2), (71, .ireturn, 1)])
def ab_m129 : ab_I := (⟨"StairRow", "isStair", "(II)Z"⟩, prog_1_method_56_code, 3, some .boolean, 5, true, 2, 1, (385, 384, 119, 0), [(0, .iload_n 1, 1), (1, .ifCond .ne 7, 3), (4, .iload_n 0, 1), (5, .ifCond .eq 14, 3), (8, .iload_n 1, 1), (9, .iconst 1, 1), (10, .if_icmp .ne 13, 3), (13, .iload_n 0, 1), (14, .bipush 7, 2), (16, .if_icmp .ne 7, 3), (19, .iconst 1, 1), (20, .goto 4, 3), (23, .iconst 0, 1), (24, .istore_n 2, 1), (25, .iload_n 1, 1), (26, .iconst (-1), 1), (27, .if_icmp .lt 16, 3), (30, .iload_n 1, 1), (31, .iconst 1, 1), (32, .if_icmp .gt 11, 3), (35, .iload_n 2, 1), (36, .ifCond .ne 7, 3), (39, .iconst 1, 1), (40, .goto 4, 3), (43, .iconst 0, 1), (44, .ireturn, 1)])
def ab_m130 : ab_I := (⟨"StairRow", "isBelow", "(II)Z"⟩, prog_1_method_57_code, 2, some .boolean, 5, true, 2, 1, (323, 322, 119, 0), [(0, .iload_n 0, 1), (1, .ifCond .lt 12, 3), (4, .iload_n 0, 1), (5, .iload_n 1, 1), (6, .if_icmp .ge 7, 3), (9, .iconst 1, 1), (10, .goto 4, 3), (13, .iconst 0, 1), (14, .ireturn, 1)])
def ab_m131 : ab_I := (⟨"StairRow", "isIn", "(II)Z"⟩, prog_1_method_58_code, 2, some .boolean, 5, true, 2, 1, (396, 395, 119, 0), [(0, .iload_n 0, 1), (1, .iload_n 1, 1), (2, .ishr, 1), (3, .iconst 1, 1), (4, .iand, 1), (5, .ifCond .eq 7, 3), (8, .iconst 1, 1), (9, .goto 4, 3), (12, .iconst 0, 1), (13, .ireturn, 1)])
def ab_m132 : ab_I := (⟨"StairRow", "marked", "(IIZ)I"⟩, prog_1_method_59_code, 3, some .int, 5, true, 3, 1, (393, 392, 119, 0), [(0, .iload_n 2, 1), (1, .ifCond .eq 11, 3), (4, .iload_n 0, 1), (5, .iconst 1, 1), (6, .iload_n 1, 1), (7, .ishl, 1), (8, .ior, 1), (9, .goto 10, 3), (12, .iload_n 0, 1), (13, .iconst 1, 1), (14, .iload_n 1, 1), (15, .ishl, 1), (16, .iconst (-1), 1), (17, .ixor, 1), (18, .iand, 1), (19, .ireturn, 1)])
def ab_m133 : ab_I := (⟨"StairRow", "cell", "([II)I"⟩, prog_1_method_60_code, 2, some .int, 5, true, 2, 1, (331, 330, 119, 0), [(0, .iload_n 1, 1), (1, .ifCond .lt 9, 3), (4, .iload_n 1, 1), (5, .aload_n 0, 1), (6, .arraylength, 1), (7, .if_icmp .lt 7, 3), (10, .iconst 0, 1), (11, .goto 6, 3), (14, .aload_n 0, 1), (15, .iload_n 1, 1), (16, .iaload, 1), (17, .ireturn, 1)])
def ab_m134 : ab_I := (⟨"StairRow", "put", "([III)V"⟩, prog_1_method_61_code, 3, none, 5, true, 3, 1, (334, 333, 119, 0), [(0, .iload_n 1, 1), (1, .ifCond .lt 13, 3), (4, .iload_n 1, 1), (5, .aload_n 0, 1), (6, .arraylength, 1), (7, .if_icmp .ge 7, 3), (10, .aload_n 0, 1), (11, .iload_n 1, 1), (12, .iload_n 2, 1), (13, .iastore, 1), (14, .return_, 1)])
def ab_m135 : ab_I := (⟨"StairRow", "roomsOf", "(I)I"⟩, prog_1_method_62_code, 3, some .int, 5, true, 1, 2, (473, 472, 119, 0), [(0, .iconst 0, 1), (1, .istore_n 1, 1), (2, .iconst 0, 1), (3, .istore_n 2, 1), (4, .iload_n 2, 1), (5, .bipush 8, 2), (7, .if_icmp .ge 25, 3), (10, .iload_n 0, 1), (11, .iload_n 2, 1), (12, .invokestatic 105, 3), (15, .ifCond .eq 11, 3), (18, .iload_n 1, 1), (19, .iconst 3, 1), (20, .iconst 2, 1), (21, .iload_n 2, 1), (22, .imul, 1), (23, .ishl, 1), (24, .ior, 1), (25, .istore_n 1, 1), (26, .iinc 2 1, 3), (29, .goto (-25), 3), (32, .iload_n 1, 1), (33, .ireturn, 1)])
def ab_m136 : ab_I := (⟨"StairRowModel", "<init>", "()V"⟩, prog_8_method_1_code, 2, none, 6, false, 1, 1, (954, 953, 125, 0), [(0, .aload_n 0, 1), (1, .invokespecial 1, 3), (4, .aload_n 0, 1), (5, .bipush 90, 2), (7, .newarray .int, 2), (9, .putfield 7, 3), (12, .aload_n 0, 1), (13, .bipush 90, 2), (15, .newarray .int, 2), (17, .putfield 13, 3), (20, .aload_n 0, 1), (21, .bipush 90, 2), (23, .newarray .int, 2), (25, .putfield 16, 3), (28, .aload_n 0, 1), (29, .bipush 7, 2), (31, .newarray .int, 2), (33, .putfield 19, 3), (36, .aload_n 0, 1), (37, .bipush 16, 2), (39, .newarray .int, 2), (41, .putfield 22, 3), (44, .aload_n 0, 1), (45, .bipush 120, 2), (47, .newarray .int, 2), (49, .putfield 25, 3), (52, .aload_n 0, 1), (53, .iconst 4, 1), (54, .newarray .int, 2), (56, .putfield 28, 3), (59, .aload_n 0, 1), (60, .iconst 4, 1), (61, .newarray .int, 2), (63, .putfield 31, 3), (66, .aload_n 0, 1), (67, .sipush 160, 3), (70, .newarray .int, 2), (72, .putfield 34, 3), (75, .aload_n 0, 1), (76, .bipush 40, 2), (78, .newarray .int, 2), (80, .putfield 37, 3), (83, .aload_n 0, 1), (84, .getfield 7, 3), (87, .iconst 1, 1), (88, .iconst 1, 1), (89, .iastore, 1), (90, .iconst 0, 1), (91, .istore_n 1, 1), (92, .iload_n 1, 1), (93, .bipush 10, 2), (95, .if_icmp .ge 19, 3), (98, .aload_n 0, 1), (99, .getfield 7, 3), (102, .bipush 80, 2), (104, .iload_n 1, 1), (105, .iadd, 1), (106, .iconst (-1), 1), (107, .iastore, 1), (108, .iinc 1 1, 3), (111, .goto (-19), 3), (114, .return_, 1)])
def ab_m137 : ab_I := (⟨"StairRowModel", "in", "(JJJ)Z"⟩, prog_8_method_2_code, 6, some .boolean, 6, true, 3, 1, (1012, 1011, 125, 0), [(0, .lload_n 0, 1), (1, .lload_n 2, 1), (2, .lcmp, 1), (3, .ifCond .lt 14, 3), (6, .lload_n 0, 1), (7, .lload 4, 2), (9, .lcmp, 1), (10, .ifCond .gt 7, 3), (13, .iconst 1, 1), (14, .goto 4, 3), (17, .iconst 0, 1), (18, .ireturn, 1)])
def ab_m138 : ab_I := (⟨"StairRowModel", "finds", "(I)I"⟩, prog_8_method_3_code, 2, some .int, 6, false, 2, 1, (1017, 1016, 125, 74), [(0, .aload_n 0, 1), (1, .getfield 19, 3), (4, .ldc 40, 2), (6, .iload_n 1, 1), (7, .isub, 1), (8, .dup2, 1), (9, .iaload, 1), (10, .iconst 1, 1), (11, .iadd, 1), (12, .iastore, 1), (13, .iload_n 1, 1), (14, .ireturn, 1)])
def ab_m139 : ab_I := (⟨"StairRowModel", "isHouse", "(I)Z"⟩, prog_8_method_4_code, 2, some .boolean, 6, false, 2, 2, (1033, 1032, 125, 76), [(0, .iload_n 1, 1), (1, .i2l, 1), (2, .lconst 0, 1), (3, .aload_n 0, 1), (4, .getfield 7, 3), (7, .iconst 0, 1), (8, .iaload, 1), (9, .iconst 1, 1), (10, .isub, 1), (11, .i2l, 1), (12, .invokestatic 41, 3), (15, .ireturn, 1)])
def ab_m140 : ab_I := (⟨"StairRowModel", "isRoom", "(I)Z"⟩, prog_8_method_5_code, 2, some .boolean, 6, false, 2, 2, (1101, 1100, 125, 83), [(0, .iload_n 1, 1), (1, .i2l, 1), (2, .lconst 0, 1), (3, .iconst 2, 1), (4, .aload_n 0, 1), (5, .getfield 7, 3), (8, .iconst 0, 1), (9, .iaload, 1), (10, .imul, 1), (11, .iconst 1, 1), (12, .isub, 1), (13, .i2l, 1), (14, .invokestatic 41, 3), (17, .ireturn, 1)])
def ab_m141 : ab_I := (⟨"StairRowModel", "isClock", "(I)Z"⟩, prog_8_method_6_code, 1, some .boolean, 6, true, 1, 2, (1049, 1048, 125, 0), [(0, .iload_n 0, 1), (1, .i2l, 1), (2, .lconst 0, 1), (3, .ldc2_w 45, 3), (6, .invokestatic 41, 3), (9, .ireturn, 1)])
def ab_m142 : ab_I := (⟨"StairRowModel", "has", "(II)Z"⟩, prog_8_method_7_code, 2, some .boolean, 6, true, 2, 1, (1063, 1062, 125, 0), [(0, .iload_n 0, 1), (1, .iload_n 1, 1), (2, .ishr, 1), (3, .iconst 1, 1), (4, .iand, 1), (5, .iconst 1, 1), (6, .if_icmp .ne 7, 3), (9, .iconst 1, 1), (10, .goto 4, 3), (13, .iconst 0, 1), (14, .ireturn, 1)])
def ab_m143 : ab_I := (⟨"StairRowModel", "ones", "(I)I"⟩, prog_8_method_8_code, 3, some .int, 6, true, 1, 1, (1197, 1196, 125, 0), [(0, .iconst 0, 1), (1, .istore_n 1, 1), (2, .iload_n 0, 1), (3, .istore_n 2, 1), (4, .iload_n 2, 1), (5, .ifCond .eq 15, 3), (8, .iinc 1 1, 3), (11, .iload_n 2, 1), (12, .iload_n 2, 1), (13, .iconst 1, 1), (14, .isub, 1), (15, .iand, 1), (16, .istore_n 2, 1), (17, .goto (-13), 3), (20, .iload_n 1, 1), (21, .ireturn, 1)])
def ab_m144 : ab_I := (⟨"StairRowModel", "lowest", "(I)I"⟩, prog_8_method_9_code, 2, some .int, 6, true, 1, 2, (1150, 1149, 125, 0), [(0, .iconst 0, 1), (1, .istore_n 1, 1), (2, .iload_n 0, 1), (3, .iload_n 1, 1), (4, .invokestatic 47, 3), (7, .ifCond .ne 9, 3), (10, .iinc 1 1, 3), (13, .goto (-11), 3), (16, .iload_n 1, 1), (17, .ireturn, 1)])
def ab_m145 : ab_I := (⟨"StairRowModel", "draw", "()I"⟩, prog_8_method_10_code, 1, some .int, 6, false, 1, 1, (1274, 1273, 125, 102), [(0, .aload_n 0, 1), (1, .getfield 7, 3), (4, .iconst 1, 1), (5, .aload_n 0, 1), (6, .getfield 7, 3), (9, .iconst 1, 1), (10, .iaload, 1), (11, .ldc 51, 2), (13, .imul, 1), (14, .sipush 12345, 3), (17, .iadd, 1), (18, .iastore, 1), (19, .aload_n 0, 1), (20, .getfield 7, 3), (23, .iconst 1, 1), (24, .iaload, 1), (25, .bipush 8, 2), (27, .iushr, 1), (28, .ireturn, 1)])
def ab_m146 : ab_I := (⟨"StairRowModel", "puts", "()V"⟩, prog_8_method_11_code, 2, none, 6, false, 1, 1, (1205, 1204, 125, 97), [(0, .iconst 0, 1), (1, .istore_n 1, 1), (2, .iload_n 1, 1), (3, .bipush 90, 2), (5, .if_icmp .ge 21, 3), (8, .aload_n 0, 1), (9, .getfield 16, 3), (12, .iload_n 1, 1), (13, .aload_n 0, 1), (14, .getfield 7, 3), (17, .iload_n 1, 1), (18, .iaload, 1), (19, .iastore, 1), (20, .iinc 1 1, 3), (23, .goto (-21), 3), (26, .return_, 1)])
def ab_m147 : ab_I := (⟨"StairRowModel", "putsBack", "()V"⟩, prog_8_method_12_code, 2, none, 6, false, 1, 1, (1233, 1232, 125, 101), [(0, .iconst 0, 1), (1, .istore_n 1, 1), (2, .iload_n 1, 1), (3, .bipush 90, 2), (5, .if_icmp .ge 21, 3), (8, .aload_n 0, 1), (9, .getfield 7, 3), (12, .iload_n 1, 1), (13, .aload_n 0, 1), (14, .getfield 16, 3), (17, .iload_n 1, 1), (18, .iaload, 1), (19, .iastore, 1), (20, .iinc 1 1, 3), (23, .goto (-21), 3), (26, .return_, 1)])
def ab_m148 : ab_I := (⟨"StairRowModel", "at", "(II)I"⟩, prog_8_method_13_code, 2, some .int, 6, true, 2, 1, (1025, 1024, 125, 0), [(0, .iconst 2, 1), (1, .bipush 8, 2), (3, .iload_n 0, 1), (4, .imul, 1), (5, .iadd, 1), (6, .iload_n 1, 1), (7, .iadd, 1), (8, .ireturn, 1)])
def ab_m149 : ab_I := (⟨"StairRowModel", "its", "(II)I"⟩, prog_8_method_14_code, 3, some .int, 6, false, 3, 2, (1038, 1037, 125, 77), [(0, .aload_n 0, 1), (1, .getfield 7, 3), (4, .iload_n 1, 1), (5, .iload_n 2, 1), (6, .invokestatic 52, 3), (9, .iaload, 1), (10, .ireturn, 1)])
def ab_m150 : ab_I := (⟨"StairRowModel", "newHouse", "(I)I"⟩, prog_8_method_15_code, 3, some .int, 6, false, 2, 2, (1022, 1021, 125, 75), [(0, .aload_n 0, 1), (1, .getfield 7, 3), (4, .iconst 0, 1), (5, .iaload, 1), (6, .istore_n 2, 1), (7, .aload_n 0, 1), (8, .getfield 7, 3), (11, .iload_n 2, 1), (12, .iconst 0, 1), (13, .invokestatic 52, 3), (16, .iload_n 1, 1), (17, .iastore, 1), (18, .aload_n 0, 1), (19, .getfield 7, 3), (22, .iload_n 2, 1), (23, .iconst 1, 1), (24, .invokestatic 52, 3), (27, .iconst (-1), 1), (28, .iastore, 1), (29, .aload_n 0, 1), (30, .getfield 7, 3), (33, .iload_n 2, 1), (34, .iconst 2, 1), (35, .invokestatic 52, 3), (38, .iconst 0, 1), (39, .iastore, 1), (40, .aload_n 0, 1), (41, .getfield 7, 3), (44, .iload_n 2, 1), (45, .iconst 3, 1), (46, .invokestatic 52, 3), (49, .bipush 6, 2), (51, .iastore, 1), (52, .aload_n 0, 1), (53, .getfield 7, 3), (56, .iload_n 2, 1), (57, .iconst 4, 1), (58, .invokestatic 52, 3), (61, .bipush 22, 2), (63, .iastore, 1), (64, .aload_n 0, 1), (65, .getfield 7, 3), (68, .iload_n 2, 1), (69, .iconst 5, 1), (70, .invokestatic 52, 3), (73, .iconst 0, 1), (74, .iastore, 1), (75, .aload_n 0, 1), (76, .getfield 7, 3), (79, .iload_n 2, 1), (80, .bipush 6, 2), (82, .invokestatic 52, 3), (85, .iconst 2, 1), (86, .iastore, 1), (87, .aload_n 0, 1), (88, .getfield 7, 3), (91, .iload_n 2, 1), (92, .bipush 7, 2), (94, .invokestatic 52, 3), (97, .iload_n 2, 1), (98, .iastore, 1), (99, .aload_n 0, 1), (100, .getfield 7, 3), (103, .iconst 0, 1), (104, .dup2, 1), (105, .iaload, 1), (106, .iconst 1, 1), (107, .iadd, 1), (108, .iastore, 1), (109, .iload_n 2, 1), (110, .ireturn, 1)])
def ab_m151 : ab_I := (⟨"StairRowModel", "house", "(I)I"⟩, prog_8_method_16_code, 2, some .int, 6, false, 2, 3, (1008, 1006, 125, 1007), [(0, .iload_n 1, 1), (1, .i2l, 1), (2, .lconst 0, 1), (3, .ldc2_w 56, 3), (6, .invokestatic 41, 3), (9, .ifCond .ne 10, 3), (12, .aload_n 0, 1), (13, .ldc 40, 2), (15, .invokevirtual 58, 3), (18, .ireturn, 1), (19, .aload_n 0, 1), (20, .getfield 7, 3), (23, .iconst 0, 1), (24, .iaload, 1), (25, .bipush 8, 2), (27, .if_icmp .ne 12, 3), (30, .aload_n 0, 1), (31, .ldc 62, 2), (33, .invokevirtual 58, 3), (36, .goto 8, 3), (39, .aload_n 0, 1), (40, .iload_n 1, 1), (41, .invokevirtual 63, 3), (44, .ireturn, 1)])
def ab_m152 : ab_I := (⟨"StairRowModel", "of", "(II)I"⟩, prog_8_method_17_code, 3, some .int, 6, false, 3, 3, (1029, 1027, 125, 1028), [(0, .aload_n 0, 1), (1, .iload_n 1, 1), (2, .invokevirtual 66, 3), (5, .ifCond .eq 24, 3), (8, .iload_n 2, 1), (9, .i2l, 1), (10, .lconst 0, 1), (11, .ldc2_w 70, 3), (14, .invokestatic 41, 3), (17, .ifCond .eq 12, 3), (20, .aload_n 0, 1), (21, .iload_n 1, 1), (22, .iload_n 2, 1), (23, .invokevirtual 72, 3), (26, .goto 9, 3), (29, .aload_n 0, 1), (30, .ldc 40, 2), (32, .invokevirtual 58, 3), (35, .ireturn, 1)])
def ab_m153 : ab_I := (⟨"StairRowModel", "isPart", "(II)Z"⟩, prog_8_method_18_code, 3, some .boolean, 6, false, 3, 3, (1046, 1045, 125, 78), [(0, .iload_n 1, 1), (1, .tableswitch 68 0 6 #[43, 68, 68, 53, 53, 68, 58], 43), (44, .iload_n 2, 1), (45, .i2l, 1), (46, .lconst 0, 1), (47, .ldc2_w 56, 3), (50, .invokestatic 41, 3), (53, .ireturn, 1), (54, .iload_n 2, 1), (55, .invokestatic 75, 3), (58, .ireturn, 1), (59, .iload_n 2, 1), (60, .i2l, 1), (61, .lconst 0, 1), (62, .ldc2_w 78, 3), (65, .invokestatic 41, 3), (68, .ireturn, 1), (69, .iload_n 1, 1), (70, .bipush 7, 2), (72, .if_icmp .ne 15, 3), (75, .aload_n 0, 1), (76, .iload_n 2, 1), (77, .invokevirtual 66, 3), (80, .ifCond .eq 7, 3), (83, .iconst 1, 1), (84, .goto 4, 3), (87, .iconst 0, 1), (88, .ireturn, 1)])
def ab_m154 : ab_I := (⟨"StairRowModel", "change", "(III)I"⟩, prog_8_method_19_code, 5, some .int, 6, false, 4, 4, (1042, 1040, 125, 1041), [(0, .aload_n 0, 1), (1, .iload_n 1, 1), (2, .invokevirtual 66, 3), (5, .ifCond .eq 12, 3), (8, .aload_n 0, 1), (9, .iload_n 2, 1), (10, .iload_n 3, 1), (11, .invokevirtual 80, 3), (14, .ifCond .ne 10, 3), (17, .aload_n 0, 1), (18, .ldc 40, 2), (20, .invokevirtual 58, 3), (23, .ireturn, 1), (24, .aload_n 0, 1), (25, .iload_n 1, 1), (26, .iload_n 2, 1), (27, .invokevirtual 72, 3), (30, .istore 4, 2), (32, .aload_n 0, 1), (33, .getfield 7, 3), (36, .iload_n 1, 1), (37, .iload_n 2, 1), (38, .invokestatic 52, 3), (41, .iload_n 3, 1), (42, .iastore, 1), (43, .iload 4, 2), (45, .ireturn, 1)])
def ab_m155 : ab_I := (⟨"StairRowModel", "stair", "(II)I"⟩, prog_8_method_20_code, 4, some .int, 6, false, 3, 3, (1055, 1053, 125, 1054), [(0, .aload_n 0, 1), (1, .iload_n 1, 1), (2, .invokevirtual 66, 3), (5, .ifCond .eq 34, 3), (8, .iload_n 2, 1), (9, .i2l, 1), (10, .ldc2_w 83, 3), (13, .lconst 1, 1), (14, .invokestatic 41, 3), (17, .ifCond .eq 22, 3), (20, .iload_n 2, 1), (21, .ifCond .ne 7, 3), (24, .iload_n 1, 1), (25, .ifCond .eq 14, 3), (28, .iload_n 2, 1), (29, .iconst 1, 1), (30, .if_icmp .ne 16, 3), (33, .iload_n 1, 1), (34, .bipush 7, 2), (36, .if_icmp .ne 10, 3), (39, .aload_n 0, 1), (40, .ldc 40, 2), (42, .invokevirtual 58, 3), (45, .ireturn, 1), (46, .aload_n 0, 1), (47, .iload_n 1, 1), (48, .iconst 1, 1), (49, .invokevirtual 72, 3), (52, .istore_n 3, 1), (53, .aload_n 0, 1), (54, .getfield 7, 3), (57, .iload_n 1, 1), (58, .iconst 1, 1), (59, .invokestatic 52, 3), (62, .iload_n 2, 1), (63, .ifCond .ge 7, 3), (66, .iconst (-1), 1), (67, .goto 16, 3), (70, .iload_n 2, 1), (71, .ifCond .ne 9, 3), (74, .iload_n 1, 1), (75, .iconst 1, 1), (76, .isub, 1), (77, .goto 6, 3), (80, .iload_n 1, 1), (81, .iconst 1, 1), (82, .iadd, 1), (83, .iastore, 1), (84, .iload_n 3, 1), (85, .ireturn, 1)])
def ab_m156 : ab_I := (⟨"StairRowModel", "name", "(IIIZ)I"⟩, prog_8_method_21_code, 7, some .int, 6, false, 5, 3, (1060, 1058, 125, 1059), [(0, .aload_n 0, 1), (1, .iload_n 1, 1), (2, .invokevirtual 66, 3), (5, .ifCond .eq 25, 3), (8, .iload_n 2, 1), (9, .i2l, 1), (10, .lconst 0, 1), (11, .lconst 1, 1), (12, .invokestatic 41, 3), (15, .ifCond .eq 15, 3), (18, .iload_n 3, 1), (19, .i2l, 1), (20, .lconst 0, 1), (21, .ldc2_w 70, 3), (24, .invokestatic 41, 3), (27, .ifCond .ne 10, 3), (30, .aload_n 0, 1), (31, .ldc 40, 2), (33, .invokevirtual 58, 3), (36, .ireturn, 1), (37, .iload_n 1, 1), (38, .iload_n 2, 1), (39, .ifCond .ne 7, 3), (42, .iconst 2, 1), (43, .goto 4, 3), (46, .iconst 5, 1), (47, .invokestatic 52, 3), (50, .istore 5, 2), (52, .aload_n 0, 1), (53, .getfield 7, 3), (56, .iload 5, 2), (58, .iaload, 1), (59, .istore 6, 2), (61, .aload_n 0, 1), (62, .getfield 7, 3), (65, .iload 5, 2), (67, .iload 4, 2), (69, .ifCond .eq 12, 3), (72, .iload 6, 2), (74, .iconst 1, 1), (75, .iload_n 3, 1), (76, .ishl, 1), (77, .ior, 1), (78, .goto 11, 3), (81, .iload 6, 2), (83, .iconst 1, 1), (84, .iload_n 3, 1), (85, .ishl, 1), (86, .iconst (-1), 1), (87, .ixor, 1), (88, .iand, 1), (89, .iastore, 1), (90, .iload 6, 2), (92, .iload_n 3, 1), (93, .invokestatic 47, 3), (96, .ifCond .eq 7, 3), (99, .iconst 1, 1), (100, .goto 4, 3), (103, .iconst 0, 1), (104, .ireturn, 1)])
def ab_m157 : ab_I := (⟨"StairRowModel", "door", "(IZ)I"⟩, prog_8_method_22_code, 4, some .int, 6, false, 3, 2, (1067, 1065, 125, 1066), [(0, .iload_n 1, 1), (1, .i2l, 1), (2, .lconst 0, 1), (3, .ldc2_w 85, 3), (6, .invokestatic 41, 3), (9, .ifCond .ne 10, 3), (12, .aload_n 0, 1), (13, .ldc 40, 2), (15, .invokevirtual 58, 3), (18, .ireturn, 1), (19, .aload_n 0, 1), (20, .getfield 7, 3), (23, .bipush 66, 2), (25, .iload_n 1, 1), (26, .iadd, 1), (27, .iaload, 1), (28, .istore_n 3, 1), (29, .aload_n 0, 1), (30, .getfield 7, 3), (33, .bipush 66, 2), (35, .iload_n 1, 1), (36, .iadd, 1), (37, .iload_n 2, 1), (38, .ifCond .eq 7, 3), (41, .iconst 1, 1), (42, .goto 4, 3), (45, .iconst 0, 1), (46, .iastore, 1), (47, .iload_n 3, 1), (48, .ireturn, 1)])
def ab_m158 : ab_I := (⟨"StairRowModel", "isHour", "(II)Z"⟩, prog_8_method_23_code, 5, some .boolean, 6, false, 3, 3, (1084, 1083, 125, 81), [(0, .aload_n 0, 1), (1, .iload_n 1, 1), (2, .iconst 3, 1), (3, .invokevirtual 72, 3), (6, .istore_n 3, 1), (7, .aload_n 0, 1), (8, .iload_n 1, 1), (9, .iconst 4, 1), (10, .invokevirtual 72, 3), (13, .istore 4, 2), (15, .iload_n 3, 1), (16, .iload 4, 2), (18, .if_icmp .le 22, 3), (21, .iload_n 2, 1), (22, .iload_n 3, 1), (23, .if_icmp .ge 9, 3), (26, .iload_n 2, 1), (27, .iload 4, 2), (29, .if_icmp .gt 7, 3), (32, .iconst 1, 1), (33, .goto 17, 3), (36, .iconst 0, 1), (37, .goto 13, 3), (40, .iload_n 2, 1), (41, .i2l, 1), (42, .iload_n 3, 1), (43, .i2l, 1), (44, .iload 4, 2), (46, .i2l, 1), (47, .invokestatic 41, 3), (50, .ireturn, 1)])
def ab_m159 : ab_I := (⟨"StairRowModel", "isLetting", "(III)Z"⟩, prog_8_method_24_code, 6, some .boolean, 6, false, 4, 4, (1080, 1079, 125, 80), [(0, .aload_n 0, 1), (1, .iload_n 1, 1), (2, .iconst 2, 1), (3, .invokevirtual 72, 3), (6, .iload_n 2, 1), (7, .invokestatic 47, 3), (10, .ifCond .eq 16, 3), (13, .aload_n 0, 1), (14, .iload_n 1, 1), (15, .iload_n 3, 1), (16, .invokevirtual 87, 3), (19, .ifCond .eq 7, 3), (22, .iconst 1, 1), (23, .goto 4, 3), (26, .iconst 0, 1), (27, .istore 4, 2), (29, .iload 4, 2), (31, .ifCond .eq 13, 3), (34, .iload_n 3, 1), (35, .bipush 20, 2), (37, .if_icmp .ge 7, 3), (40, .iconst 1, 1), (41, .goto 4, 3), (44, .iconst 0, 1), (45, .istore 5, 2), (47, .iload_n 1, 1), (48, .iload_n 2, 1), (49, .if_icmp .ne 5, 3), (52, .iconst 1, 1), (53, .ireturn, 1), (54, .aload_n 0, 1), (55, .iload_n 1, 1), (56, .iconst 0, 1), (57, .invokevirtual 72, 3), (60, .tableswitch 118 1 6 #[40, 43, 50, 52, 69, 94], 40), (100, .iload 5, 2), (102, .ireturn, 1), (103, .aload_n 0, 1), (104, .iload_n 1, 1), (105, .iload_n 3, 1), (106, .invokevirtual 87, 3), (109, .ireturn, 1), (110, .iconst 1, 1), (111, .ireturn, 1), (112, .iload 5, 2), (114, .ifCond .ne 9, 3), (117, .iload_n 3, 1), (118, .bipush 12, 2), (120, .if_icmp .ne 7, 3), (123, .iconst 1, 1), (124, .goto 4, 3), (127, .iconst 0, 1), (128, .ireturn, 1), (129, .iload 4, 2), (131, .ifCond .eq 21, 3), (134, .iload_n 3, 1), (135, .i2l, 1), (136, .ldc2_w 70, 3), (139, .ldc2_w 90, 3), (142, .invokestatic 41, 3), (145, .ifCond .eq 7, 3), (148, .iconst 1, 1), (149, .goto 4, 3), (152, .iconst 0, 1), (153, .ireturn, 1), (154, .iload 5, 2), (156, .ifCond .eq 20, 3), (159, .aload_n 0, 1), (160, .iload_n 1, 1), (161, .iconst 5, 1), (162, .invokevirtual 72, 3), (165, .iload_n 2, 1), (166, .invokestatic 47, 3), (169, .ifCond .ne 7, 3), (172, .iconst 1, 1), (173, .goto 4, 3), (176, .iconst 0, 1), (177, .ireturn, 1), (178, .iload 4, 2), (180, .ireturn, 1)])
def ab_m160 : ab_I := (⟨"StairRowModel", "isAsk", "(II)Z"⟩, prog_8_method_25_code, 3, some .boolean, 6, false, 3, 3, (1076, 1075, 125, 79), [(0, .aload_n 0, 1), (1, .iload_n 1, 1), (2, .invokevirtual 66, 3), (5, .ifCond .eq 14, 3), (8, .iload_n 2, 1), (9, .invokestatic 75, 3), (12, .ifCond .eq 7, 3), (15, .iconst 1, 1), (16, .goto 4, 3), (19, .iconst 0, 1), (20, .ireturn, 1)])
def ab_m161 : ab_I := (⟨"StairRowModel", "lets", "(III)I"⟩, prog_8_method_26_code, 4, some .int, 6, false, 4, 5, (1072, 1070, 125, 1071), [(0, .aload_n 0, 1), (1, .iload_n 1, 1), (2, .invokevirtual 66, 3), (5, .ifCond .eq 12, 3), (8, .aload_n 0, 1), (9, .iload_n 2, 1), (10, .iload_n 3, 1), (11, .invokevirtual 92, 3), (14, .ifCond .ne 10, 3), (17, .aload_n 0, 1), (18, .ldc 40, 2), (20, .invokevirtual 58, 3), (23, .ireturn, 1), (24, .aload_n 0, 1), (25, .iload_n 1, 1), (26, .iload_n 2, 1), (27, .iload_n 3, 1), (28, .invokevirtual 95, 3), (31, .ifCond .eq 7, 3), (34, .iconst 1, 1), (35, .goto 4, 3), (38, .iconst 0, 1), (39, .ireturn, 1)])
def ab_m162 : ab_I := (⟨"StairRowModel", "lettingSet", "(II)I"⟩, prog_8_method_27_code, 5, some .int, 6, false, 3, 5, (1093, 1092, 125, 82), [(0, .iconst 0, 1), (1, .istore_n 3, 1), (2, .iconst 0, 1), (3, .istore 4, 2), (5, .iload 4, 2), (7, .aload_n 0, 1), (8, .getfield 7, 3), (11, .iconst 0, 1), (12, .iaload, 1), (13, .if_icmp .ge 31, 3), (16, .iload_n 3, 1), (17, .aload_n 0, 1), (18, .iload 4, 2), (20, .iload_n 1, 1), (21, .iload_n 2, 1), (22, .invokevirtual 95, 3), (25, .ifCond .eq 10, 3), (28, .iconst 1, 1), (29, .iload 4, 2), (31, .ishl, 1), (32, .goto 4, 3), (35, .iconst 0, 1), (36, .ior, 1), (37, .istore_n 3, 1), (38, .iinc 4 1, 3), (41, .goto (-36), 3), (44, .iload_n 3, 1), (45, .ireturn, 1)])
def ab_m163 : ab_I := (⟨"StairRowModel", "letting", "(II)I"⟩, prog_8_method_28_code, 3, some .int, 6, false, 3, 6, (1089, 1087, 125, 1088), [(0, .aload_n 0, 1), (1, .iload_n 1, 1), (2, .iload_n 2, 1), (3, .invokevirtual 92, 3), (6, .ifCond .eq 12, 3), (9, .aload_n 0, 1), (10, .iload_n 1, 1), (11, .iload_n 2, 1), (12, .invokevirtual 99, 3), (15, .goto 9, 3), (18, .aload_n 0, 1), (19, .ldc 40, 2), (21, .invokevirtual 58, 3), (24, .ireturn, 1)])
def ab_m164 : ab_I := (⟨"StairRowModel", "wakes", "(II)I"⟩, prog_8_method_29_code, 5, some .int, 6, false, 3, 3, (1138, 1137, 125, 90), [(0, .aload_n 0, 1), (1, .iload_n 1, 1), (2, .iconst 0, 1), (3, .invokevirtual 72, 3), (6, .istore_n 3, 1), (7, .iload_n 2, 1), (8, .bipush 21, 2), (10, .if_icmp .gt 9, 3), (13, .iload_n 2, 1), (14, .bipush 6, 2), (16, .if_icmp .ge 13, 3), (19, .aload_n 0, 1), (20, .iload_n 1, 1), (21, .bipush 6, 2), (23, .invokevirtual 72, 3), (26, .goto 4, 3), (29, .iconst 0, 1), (30, .istore 4, 2), (32, .iload_n 3, 1), (33, .iconst 3, 1), (34, .if_icmp .ne 7, 3), (37, .iconst 0, 1), (38, .goto 17, 3), (41, .iload_n 3, 1), (42, .iconst 5, 1), (43, .if_icmp .ne 10, 3), (46, .iload 4, 2), (48, .iconst 1, 1), (49, .iadd, 1), (50, .goto 5, 3), (53, .iload 4, 2), (55, .ireturn, 1)])
def ab_m165 : ab_I := (⟨"StairRowModel", "joinedTo", "(I)I"⟩, prog_8_method_30_code, 7, some .int, 6, false, 2, 3, (1105, 1104, 125, 84), [(0, .iload_n 1, 1), (1, .iconst 2, 1), (2, .idiv, 1), (3, .istore_n 2, 1), (4, .iload_n 1, 1), (5, .iconst 2, 1), (6, .irem, 1), (7, .istore_n 3, 1), (8, .iconst 0, 1), (9, .istore 4, 2), (11, .iload_n 2, 1), (12, .ifCond .le 32, 3), (15, .aload_n 0, 1), (16, .getfield 7, 3), (19, .bipush 66, 2), (21, .iconst 2, 1), (22, .iload_n 2, 1), (23, .imul, 1), (24, .iadd, 1), (25, .iconst 2, 1), (26, .isub, 1), (27, .iload_n 3, 1), (28, .iadd, 1), (29, .iaload, 1), (30, .iconst 1, 1), (31, .if_icmp .ne 13, 3), (34, .iload 4, 2), (36, .iconst 1, 1), (37, .iload_n 1, 1), (38, .iconst 2, 1), (39, .isub, 1), (40, .ishl, 1), (41, .ior, 1), (42, .istore 4, 2), (44, .iload_n 2, 1), (45, .iconst 1, 1), (46, .iadd, 1), (47, .aload_n 0, 1), (48, .getfield 7, 3), (51, .iconst 0, 1), (52, .iaload, 1), (53, .if_icmp .ge 30, 3), (56, .aload_n 0, 1), (57, .getfield 7, 3), (60, .bipush 66, 2), (62, .iconst 2, 1), (63, .iload_n 2, 1), (64, .imul, 1), (65, .iadd, 1), (66, .iload_n 3, 1), (67, .iadd, 1), (68, .iaload, 1), (69, .iconst 1, 1), (70, .if_icmp .ne 13, 3), (73, .iload 4, 2), (75, .iconst 1, 1), (76, .iload_n 1, 1), (77, .iconst 2, 1), (78, .iadd, 1), (79, .ishl, 1), (80, .ior, 1), (81, .istore 4, 2), (83, .iconst 0, 1), (84, .istore 5, 2), (86, .iload 5, 2), (88, .aload_n 0, 1), (89, .getfield 7, 3), (92, .iconst 0, 1), (93, .iaload, 1), (94, .if_icmp .ge 80, 3), (97, .aload_n 0, 1), (98, .iload 5, 2), (100, .iconst 1, 1), (101, .invokevirtual 72, 3), (104, .istore 6, 2), (106, .aload_n 0, 1), (107, .iload 6, 2), (109, .invokevirtual 66, 3), (112, .ifCond .eq 56, 3), (115, .iload 4, 2), (117, .iload_n 3, 1), (118, .ifCond .ne 20, 3), (121, .iload 5, 2), (123, .iload_n 2, 1), (124, .if_icmp .ne 14, 3), (127, .iconst 1, 1), (128, .iconst 2, 1), (129, .iload 6, 2), (131, .imul, 1), (132, .iconst 1, 1), (133, .iadd, 1), (134, .ishl, 1), (135, .goto 4, 3), (138, .iconst 0, 1), (139, .ior, 1), (140, .istore 4, 2), (142, .iload 4, 2), (144, .iload_n 3, 1), (145, .iconst 1, 1), (146, .if_icmp .ne 18, 3), (149, .iload 6, 2), (151, .iload_n 2, 1), (152, .if_icmp .ne 12, 3), (155, .iconst 1, 1), (156, .iconst 2, 1), (157, .iload 5, 2), (159, .imul, 1), (160, .ishl, 1), (161, .goto 4, 3), (164, .iconst 0, 1), (165, .ior, 1), (166, .istore 4, 2), (168, .iinc 5 1, 3), (171, .goto (-85), 3), (174, .iload 4, 2), (176, .ireturn, 1)])
def ab_m166 : ab_I := (⟨"StairRowModel", "joined", "(I)I"⟩, prog_8_method_31_code, 2, some .int, 6, false, 2, 4, (1097, 1095, 125, 1096), [(0, .aload_n 0, 1), (1, .iload_n 1, 1), (2, .invokevirtual 102, 3), (5, .ifCond .eq 11, 3), (8, .aload_n 0, 1), (9, .iload_n 1, 1), (10, .invokevirtual 105, 3), (13, .goto 9, 3), (16, .aload_n 0, 1), (17, .ldc 40, 2), (19, .invokevirtual 58, 3), (22, .ireturn, 1)])
def ab_m167 : ab_I := (⟨"StairRowModel", "grounds", "()I"⟩, prog_8_method_32_code, 3, some .int, 6, false, 1, 1, (1113, 1112, 125, 85), [(0, .iconst 0, 1), (1, .istore_n 1, 1), (2, .iconst 0, 1), (3, .istore_n 2, 1), (4, .iload_n 2, 1), (5, .aload_n 0, 1), (6, .getfield 7, 3), (9, .iconst 0, 1), (10, .iaload, 1), (11, .if_icmp .ge 17, 3), (14, .iload_n 1, 1), (15, .iconst 1, 1), (16, .iconst 2, 1), (17, .iload_n 2, 1), (18, .imul, 1), (19, .ishl, 1), (20, .ior, 1), (21, .istore_n 1, 1), (22, .iinc 2 1, 3), (25, .goto (-21), 3), (28, .iload_n 1, 1), (29, .ireturn, 1)])
def ab_m168 : ab_I := (⟨"StairRowModel", "openRooms", "(II)I"⟩, prog_8_method_33_code, 5, some .int, 6, false, 3, 5, (1117, 1116, 125, 86), [(0, .iconst 0, 1), (1, .istore_n 3, 1), (2, .iconst 0, 1), (3, .istore 4, 2), (5, .iload 4, 2), (7, .aload_n 0, 1), (8, .getfield 7, 3), (11, .iconst 0, 1), (12, .iaload, 1), (13, .if_icmp .ge 33, 3), (16, .iload_n 3, 1), (17, .aload_n 0, 1), (18, .iload 4, 2), (20, .iload_n 1, 1), (21, .iload_n 2, 1), (22, .invokevirtual 95, 3), (25, .ifCond .eq 12, 3), (28, .iconst 3, 1), (29, .iconst 2, 1), (30, .iload 4, 2), (32, .imul, 1), (33, .ishl, 1), (34, .goto 4, 3), (37, .iconst 0, 1), (38, .ior, 1), (39, .istore_n 3, 1), (40, .iinc 4 1, 3), (43, .goto (-38), 3), (46, .iload_n 3, 1), (47, .ireturn, 1)])
def ab_m169 : ab_I := (⟨"StairRowModel", "joinedAll", "(I)I"⟩, prog_8_method_34_code, 4, some .int, 6, false, 2, 4, (1125, 1124, 125, 88), [(0, .iconst 0, 1), (1, .istore_n 2, 1), (2, .iconst 0, 1), (3, .istore_n 3, 1), (4, .iload_n 3, 1), (5, .bipush 16, 2), (7, .if_icmp .ge 29, 3), (10, .iload_n 2, 1), (11, .iload_n 1, 1), (12, .iload_n 3, 1), (13, .invokestatic 47, 3), (16, .ifCond .eq 11, 3), (19, .aload_n 0, 1), (20, .iload_n 3, 1), (21, .invokevirtual 105, 3), (24, .goto 4, 3), (27, .iconst 0, 1), (28, .ior, 1), (29, .istore_n 2, 1), (30, .iinc 3 1, 3), (33, .goto (-29), 3), (36, .iload_n 2, 1), (37, .ireturn, 1)])
def ab_m170 : ab_I := (⟨"StairRowModel", "reached", "(II)I"⟩, prog_8_method_35_code, 6, some .int, 6, false, 3, 6, (1158, 1157, 125, 92), [(0, .aload_n 0, 1), (1, .iload_n 1, 1), (2, .iload_n 2, 1), (3, .invokevirtual 108, 3), (6, .istore_n 3, 1), (7, .iconst 0, 1), (8, .istore 4, 2), (10, .aload_n 0, 1), (11, .invokevirtual 111, 3), (14, .iload_n 3, 1), (15, .iand, 1), (16, .istore 5, 2), (18, .iload 5, 2), (20, .ifCond .eq 28, 3), (23, .iload 4, 2), (25, .iload 5, 2), (27, .ior, 1), (28, .istore 4, 2), (30, .aload_n 0, 1), (31, .iload 5, 2), (33, .invokevirtual 115, 3), (36, .iload_n 3, 1), (37, .iand, 1), (38, .iload 4, 2), (40, .iconst (-1), 1), (41, .ixor, 1), (42, .iand, 1), (43, .istore 5, 2), (45, .goto (-27), 3), (48, .iload 4, 2), (50, .ireturn, 1)])
def ab_m171 : ab_I := (⟨"StairRowModel", "lengthOf", "(III)I"⟩, prog_8_method_36_code, 7, some .int, 6, false, 4, 5, (1121, 1120, 125, 87), [(0, .iconst 0, 1), (1, .istore 4, 2), (3, .iload_n 1, 1), (4, .iload_n 3, 1), (5, .iand, 1), (6, .istore 5, 2), (8, .iconst 0, 1), (9, .istore 6, 2), (11, .iload 5, 2), (13, .ifCond .eq 40, 3), (16, .iload 4, 2), (18, .iload_n 2, 1), (19, .invokestatic 47, 3), (22, .ifCond .ne 31, 3), (25, .iload 4, 2), (27, .iload 5, 2), (29, .ior, 1), (30, .istore 4, 2), (32, .aload_n 0, 1), (33, .iload 5, 2), (35, .invokevirtual 115, 3), (38, .iload_n 3, 1), (39, .iand, 1), (40, .iload 4, 2), (42, .iconst (-1), 1), (43, .ixor, 1), (44, .iand, 1), (45, .istore 5, 2), (47, .iinc 6 1, 3), (50, .goto (-39), 3), (53, .iload 4, 2), (55, .iload_n 2, 1), (56, .invokestatic 47, 3), (59, .ifCond .eq 8, 3), (62, .iload 6, 2), (64, .goto 4, 3), (67, .iconst 0, 1), (68, .ireturn, 1)])
def ab_m172 : ab_I := (⟨"StairRowModel", "homeOf", "(I)I"⟩, prog_8_method_37_code, 2, some .int, 6, false, 2, 3, (1147, 1146, 125, 91), [(0, .iconst 2, 1), (1, .aload_n 0, 1), (2, .iload_n 1, 1), (3, .bipush 7, 2), (5, .invokevirtual 72, 3), (8, .imul, 1), (9, .iconst 1, 1), (10, .iadd, 1), (11, .ireturn, 1)])
def ab_m173 : ab_I := (⟨"StairRowModel", "wayHome", "(II)I"⟩, prog_8_method_38_code, 3, some .int, 6, false, 3, 6, (1174, 1173, 125, 95), [(0, .aload_n 0, 1), (1, .aload_n 0, 1), (2, .invokevirtual 111, 3), (5, .aload_n 0, 1), (6, .iload_n 1, 1), (7, .invokevirtual 118, 3), (10, .aload_n 0, 1), (11, .iload_n 1, 1), (12, .iload_n 2, 1), (13, .invokevirtual 108, 3), (16, .invokevirtual 121, 3), (19, .ireturn, 1)])
def ab_m174 : ab_I := (⟨"StairRowModel", "isOff", "(II)Z"⟩, prog_8_method_39_code, 3, some .boolean, 6, false, 3, 7, (1170, 1169, 125, 94), [(0, .aload_n 0, 1), (1, .iload_n 1, 1), (2, .iload_n 2, 1), (3, .invokevirtual 125, 3), (6, .ifCond .ne 7, 3), (9, .iconst 1, 1), (10, .goto 4, 3), (13, .iconst 0, 1), (14, .ireturn, 1)])
def ab_m175 : ab_I := (⟨"StairRowModel", "way", "(III)I"⟩, prog_8_method_40_code, 5, some .int, 6, false, 4, 6, (1109, 1107, 125, 1108), [(0, .aload_n 0, 1), (1, .iload_n 1, 1), (2, .iload_n 3, 1), (3, .invokevirtual 92, 3), (6, .ifCond .eq 11, 3), (9, .aload_n 0, 1), (10, .iload_n 2, 1), (11, .invokevirtual 102, 3), (14, .ifCond .ne 10, 3), (17, .aload_n 0, 1), (18, .ldc 40, 2), (20, .invokevirtual 58, 3), (23, .ireturn, 1), (24, .aload_n 0, 1), (25, .aload_n 0, 1), (26, .invokevirtual 111, 3), (29, .iload_n 2, 1), (30, .aload_n 0, 1), (31, .iload_n 1, 1), (32, .iload_n 3, 1), (33, .invokevirtual 108, 3), (36, .invokevirtual 121, 3), (39, .istore 4, 2), (41, .iload 4, 2), (43, .ifCond .ne 12, 3), (46, .aload_n 0, 1), (47, .ldc 128, 2), (49, .invokevirtual 58, 3), (52, .goto 5, 3), (55, .iload 4, 2), (57, .ireturn, 1)])
def ab_m176 : ab_I := (⟨"StairRowModel", "findNoises", "(II)V"⟩, prog_8_method_41_code, 8, none, 6, false, 3, 4, (1134, 1133, 125, 89), [(0, .iconst 0, 1), (1, .istore_n 3, 1), (2, .iload_n 3, 1), (3, .bipush 16, 2), (5, .if_icmp .ge 35, 3), (8, .aload_n 0, 1), (9, .getfield 22, 3), (12, .iload_n 3, 1), (13, .aload_n 0, 1), (14, .invokevirtual 111, 3), (17, .iload_n 1, 1), (18, .iand, 1), (19, .iload_n 3, 1), (20, .invokestatic 47, 3), (23, .ifCond .eq 7, 3), (26, .iconst 0, 1), (27, .goto 6, 3), (30, .sipush 999, 3), (33, .iastore, 1), (34, .iinc 3 1, 3), (37, .goto (-35), 3), (40, .iconst 0, 1), (41, .istore_n 3, 1), (42, .iload_n 3, 1), (43, .bipush 16, 2), (45, .if_icmp .ge 142, 3), (48, .iconst 0, 1), (49, .istore 4, 2), (51, .iload 4, 2), (53, .iconst 2, 1), (54, .aload_n 0, 1), (55, .getfield 7, 3), (58, .iconst 0, 1), (59, .iaload, 1), (60, .imul, 1), (61, .if_icmp .ge 120, 3), (64, .aload_n 0, 1), (65, .getfield 22, 3), (68, .iload 4, 2), (70, .iaload, 1), (71, .iload 4, 2), (73, .iconst 2, 1), (74, .irem, 1), (75, .iconst 1, 1), (76, .if_icmp .ne 15, 3), (79, .aload_n 0, 1), (80, .iload 4, 2), (82, .iconst 2, 1), (83, .idiv, 1), (84, .iload_n 2, 1), (85, .invokevirtual 129, 3), (88, .goto 4, 3), (91, .iconst 0, 1), (92, .iadd, 1), (93, .istore 5, 2), (95, .iload_n 1, 1), (96, .iload 4, 2), (98, .invokestatic 47, 3), (101, .ifCond .eq 14, 3), (104, .aload_n 0, 1), (105, .iload 4, 2), (107, .invokevirtual 105, 3), (110, .iload_n 1, 1), (111, .iand, 1), (112, .goto 4, 3), (115, .iconst 0, 1), (116, .istore 6, 2), (118, .iconst 0, 1), (119, .istore 7, 2), (121, .iload 7, 2), (123, .bipush 16, 2), (125, .if_icmp .ge 50, 3), (128, .aload_n 0, 1), (129, .getfield 22, 3), (132, .iload 7, 2), (134, .iload 6, 2), (136, .iload 7, 2), (138, .invokestatic 47, 3), (141, .ifCond .eq 20, 3), (144, .iload 5, 2), (146, .aload_n 0, 1), (147, .getfield 22, 3), (150, .iload 7, 2), (152, .iaload, 1), (153, .if_icmp .ge 8, 3), (156, .iload 5, 2), (158, .goto 10, 3), (161, .aload_n 0, 1), (162, .getfield 22, 3), (165, .iload 7, 2), (167, .iaload, 1), (168, .iastore, 1), (169, .iinc 7 1, 3), (172, .goto (-51), 3), (175, .iinc 4 1, 3), (178, .goto (-127), 3), (181, .iinc 3 1, 3), (184, .goto (-142), 3), (187, .return_, 1)])
def ab_m177 : ab_I := (⟨"StairRowModel", "noise", "(III)I"⟩, prog_8_method_42_code, 4, some .int, 6, false, 4, 6, (1130, 1128, 125, 1129), [(0, .aload_n 0, 1), (1, .iload_n 1, 1), (2, .iload_n 3, 1), (3, .invokevirtual 92, 3), (6, .ifCond .eq 11, 3), (9, .aload_n 0, 1), (10, .iload_n 2, 1), (11, .invokevirtual 102, 3), (14, .ifCond .ne 10, 3), (17, .aload_n 0, 1), (18, .ldc 40, 2), (20, .invokevirtual 58, 3), (23, .ireturn, 1), (24, .aload_n 0, 1), (25, .aload_n 0, 1), (26, .iload_n 1, 1), (27, .iload_n 3, 1), (28, .invokevirtual 108, 3), (31, .iload_n 3, 1), (32, .invokevirtual 132, 3), (35, .aload_n 0, 1), (36, .getfield 22, 3), (39, .iload_n 2, 1), (40, .iaload, 1), (41, .sipush 998, 3), (44, .if_icmp .le 12, 3), (47, .aload_n 0, 1), (48, .ldc 128, 2), (50, .invokevirtual 58, 3), (53, .goto 9, 3), (56, .aload_n 0, 1), (57, .getfield 22, 3), (60, .iload_n 2, 1), (61, .iaload, 1), (62, .ireturn, 1)])
def ab_m178 : ab_I := (⟨"StairRowModel", "step", "(III)I"⟩, prog_8_method_43_code, 10, some .int, 6, false, 4, 6, (1142, 1140, 125, 1141), [(0, .aload_n 0, 1), (1, .iload_n 1, 1), (2, .iload_n 2, 1), (3, .invokevirtual 92, 3), (6, .ifCond .eq 15, 3), (9, .iload_n 3, 1), (10, .i2l, 1), (11, .lconst 0, 1), (12, .ldc2_w 136, 3), (15, .invokestatic 41, 3), (18, .ifCond .ne 10, 3), (21, .aload_n 0, 1), (22, .ldc 40, 2), (24, .invokevirtual 58, 3), (27, .ireturn, 1), (28, .aload_n 0, 1), (29, .iload_n 1, 1), (30, .iload_n 2, 1), (31, .invokevirtual 108, 3), (34, .istore 4, 2), (36, .aload_n 0, 1), (37, .iload_n 1, 1), (38, .invokevirtual 118, 3), (41, .istore 5, 2), (43, .aload_n 0, 1), (44, .aload_n 0, 1), (45, .invokevirtual 111, 3), (48, .iload 5, 2), (50, .iload 4, 2), (52, .invokevirtual 121, 3), (55, .istore 6, 2), (57, .iload_n 3, 1), (58, .iload 6, 2), (60, .if_icmp .lt 10, 3), (63, .aload_n 0, 1), (64, .ldc 128, 2), (66, .invokevirtual 58, 3), (69, .ireturn, 1), (70, .aload_n 0, 1), (71, .invokevirtual 111, 3), (74, .istore 7, 2), (76, .iconst (-1), 1), (77, .istore 8, 2), (79, .iconst 0, 1), (80, .istore 9, 2), (82, .iload 9, 2), (84, .iload_n 3, 1), (85, .if_icmp .gt 70, 3), (88, .iload 7, 2), (90, .invokestatic 138, 3), (93, .istore 8, 2), (95, .iload 4, 2), (97, .iload 8, 2), (99, .invokestatic 47, 3), (102, .ifCond .eq 30, 3), (105, .iload 7, 2), (107, .iload 8, 2), (109, .invokestatic 47, 3), (112, .ifCond .eq 20, 3), (115, .aload_n 0, 1), (116, .iconst 1, 1), (117, .iload 8, 2), (119, .ishl, 1), (120, .iload 5, 2), (122, .iload 4, 2), (124, .invokevirtual 121, 3), (127, .iload 6, 2), (129, .if_icmp .eq 9, 3), (132, .iinc 8 1, 3), (135, .goto (-40), 3), (138, .aload_n 0, 1), (139, .iload 8, 2), (141, .invokevirtual 105, 3), (144, .istore 7, 2), (146, .iinc 6 (-1), 3), (149, .iinc 9 1, 3), (152, .goto (-70), 3), (155, .iload 8, 2), (157, .ireturn, 1)])
def ab_m179 : ab_I := (⟨"StairRowModel", "reach", "(II)I"⟩, prog_8_method_44_code, 3, some .int, 6, false, 3, 7, (1154, 1152, 125, 1153), [(0, .aload_n 0, 1), (1, .iload_n 1, 1), (2, .iload_n 2, 1), (3, .invokevirtual 92, 3), (6, .ifCond .eq 12, 3), (9, .aload_n 0, 1), (10, .iload_n 1, 1), (11, .iload_n 2, 1), (12, .invokevirtual 141, 3), (15, .goto 9, 3), (18, .aload_n 0, 1), (19, .ldc 40, 2), (21, .invokevirtual 58, 3), (24, .ireturn, 1)])
def ab_m180 : ab_I := (⟨"StairRowModel", "offSet", "(I)I"⟩, prog_8_method_45_code, 4, some .int, 6, false, 2, 8, (1166, 1165, 125, 93), [(0, .iconst 0, 1), (1, .istore_n 2, 1), (2, .iconst 0, 1), (3, .istore_n 3, 1), (4, .iload_n 3, 1), (5, .aload_n 0, 1), (6, .getfield 7, 3), (9, .iconst 0, 1), (10, .iaload, 1), (11, .if_icmp .ge 28, 3), (14, .iload_n 2, 1), (15, .aload_n 0, 1), (16, .iload_n 3, 1), (17, .iload_n 1, 1), (18, .invokevirtual 144, 3), (21, .ifCond .eq 9, 3), (24, .iconst 1, 1), (25, .iload_n 3, 1), (26, .ishl, 1), (27, .goto 4, 3), (30, .iconst 0, 1), (31, .ior, 1), (32, .istore_n 2, 1), (33, .iinc 3 1, 3), (36, .goto (-32), 3), (39, .iload_n 2, 1), (40, .ireturn, 1)])
def ab_m181 : ab_I := (⟨"StairRowModel", "off", "(I)I"⟩, prog_8_method_46_code, 2, some .int, 6, false, 2, 9, (1162, 1160, 125, 1161), [(0, .iload_n 1, 1), (1, .invokestatic 75, 3), (4, .ifCond .eq 11, 3), (7, .aload_n 0, 1), (8, .iload_n 1, 1), (9, .invokevirtual 147, 3), (12, .goto 9, 3), (15, .aload_n 0, 1), (16, .ldc 40, 2), (18, .invokevirtual 58, 3), (21, .ireturn, 1)])
def ab_m182 : ab_I := (⟨"StairRowModel", "offHours", "(I)I"⟩, prog_8_method_47_code, 4, some .int, 6, false, 2, 8, (1182, 1181, 125, 96), [(0, .iconst 0, 1), (1, .istore_n 2, 1), (2, .iconst 0, 1), (3, .istore_n 3, 1), (4, .iload_n 3, 1), (5, .bipush 24, 2), (7, .if_icmp .ge 28, 3), (10, .iload_n 2, 1), (11, .aload_n 0, 1), (12, .iload_n 1, 1), (13, .iload_n 3, 1), (14, .invokevirtual 144, 3), (17, .ifCond .eq 9, 3), (20, .iconst 1, 1), (21, .iload_n 3, 1), (22, .ishl, 1), (23, .goto 4, 3), (26, .iconst 0, 1), (27, .ior, 1), (28, .istore_n 2, 1), (29, .iinc 3 1, 3), (32, .goto (-28), 3), (35, .iload_n 2, 1), (36, .ireturn, 1)])
def ab_m183 : ab_I := (⟨"StairRowModel", "hours", "(I)I"⟩, prog_8_method_48_code, 2, some .int, 6, false, 2, 9, (1178, 1176, 125, 1177), [(0, .aload_n 0, 1), (1, .iload_n 1, 1), (2, .invokevirtual 66, 3), (5, .ifCond .eq 11, 3), (8, .aload_n 0, 1), (9, .iload_n 1, 1), (10, .invokevirtual 150, 3), (13, .goto 9, 3), (16, .aload_n 0, 1), (17, .ldc 40, 2), (19, .invokevirtual 58, 3), (22, .ireturn, 1)])
def ab_m184 : ab_I := (⟨"StairRowModel", "latest", "(I)I"⟩, prog_8_method_49_code, 4, some .int, 6, false, 2, 9, (1186, 1184, 125, 1185), [(0, .aload_n 0, 1), (1, .iload_n 1, 1), (2, .invokevirtual 66, 3), (5, .ifCond .ne 10, 3), (8, .aload_n 0, 1), (9, .ldc 40, 2), (11, .invokevirtual 58, 3), (14, .ireturn, 1), (15, .aload_n 0, 1), (16, .iload_n 1, 1), (17, .invokevirtual 150, 3), (20, .istore_n 2, 1), (21, .bipush 23, 2), (23, .istore_n 3, 1), (24, .iload_n 3, 1), (25, .ifCond .lt 17, 3), (28, .iload_n 2, 1), (29, .iload_n 3, 1), (30, .invokestatic 47, 3), (33, .ifCond .eq 9, 3), (36, .iinc 3 (-1), 3), (39, .goto (-15), 3), (42, .iload_n 3, 1), (43, .ifCond .ge 12, 3), (46, .aload_n 0, 1), (47, .ldc 128, 2), (49, .invokevirtual 58, 3), (52, .goto 4, 3), (55, .iload_n 3, 1), (56, .ireturn, 1)])
def ab_m185 : ab_I := (⟨"StairRowModel", "best", "(I)I"⟩, prog_8_method_50_code, 6, some .int, 6, false, 2, 7, (1190, 1188, 125, 1189), [(0, .aload_n 0, 1), (1, .iload_n 1, 1), (2, .invokevirtual 66, 3), (5, .ifCond .ne 10, 3), (8, .aload_n 0, 1), (9, .ldc 40, 2), (11, .invokevirtual 58, 3), (14, .ireturn, 1), (15, .iconst (-1), 1), (16, .istore_n 2, 1), (17, .iconst 0, 1), (18, .istore_n 3, 1), (19, .iconst 0, 1), (20, .istore 4, 2), (22, .iload 4, 2), (24, .bipush 24, 2), (26, .if_icmp .ge 39, 3), (29, .aload_n 0, 1), (30, .iload_n 1, 1), (31, .iload 4, 2), (33, .invokevirtual 125, 3), (36, .istore 5, 2), (38, .iload 5, 2), (40, .ifCond .le 19, 3), (43, .iload_n 2, 1), (44, .ifCond .lt 9, 3), (47, .iload 5, 2), (49, .iload_n 3, 1), (50, .if_icmp .ge 9, 3), (53, .iload 4, 2), (55, .istore_n 2, 1), (56, .iload 5, 2), (58, .istore_n 3, 1), (59, .iinc 4 1, 3), (62, .goto (-40), 3), (65, .iload_n 2, 1), (66, .ifCond .ge 12, 3), (69, .aload_n 0, 1), (70, .ldc 128, 2), (72, .invokevirtual 58, 3), (75, .goto 4, 3), (78, .iload_n 2, 1), (79, .ireturn, 1)])
def ab_m186 : ab_I := (⟨"StairRowModel", "worth", "(II)I"⟩, prog_8_method_51_code, 6, some .int, 6, false, 3, 9, (1194, 1192, 125, 1193), [(0, .aload_n 0, 1), (1, .iload_n 1, 1), (2, .invokevirtual 66, 3), (5, .ifCond .eq 10, 3), (8, .iload_n 2, 1), (9, .invokestatic 75, 3), (12, .ifCond .ne 10, 3), (15, .aload_n 0, 1), (16, .ldc 40, 2), (18, .invokevirtual 58, 3), (21, .ireturn, 1), (22, .aload_n 0, 1), (23, .iload_n 1, 1), (24, .iconst 2, 1), (25, .invokevirtual 72, 3), (28, .istore_n 3, 1), (29, .aload_n 0, 1), (30, .iload_n 2, 1), (31, .invokevirtual 147, 3), (34, .invokestatic 153, 3), (37, .istore 4, 2), (39, .aload_n 0, 1), (40, .getfield 7, 3), (43, .iload_n 1, 1), (44, .iconst 2, 1), (45, .invokestatic 52, 3), (48, .iconst 0, 1), (49, .iastore, 1), (50, .aload_n 0, 1), (51, .iload_n 2, 1), (52, .invokevirtual 147, 3), (55, .invokestatic 153, 3), (58, .istore 5, 2), (60, .aload_n 0, 1), (61, .getfield 7, 3), (64, .iload_n 1, 1), (65, .iconst 2, 1), (66, .invokestatic 52, 3), (69, .iload_n 3, 1), (70, .iastore, 1), (71, .iload 5, 2), (73, .iload 4, 2), (75, .isub, 1), (76, .ireturn, 1)])
def ab_m187 : ab_I := (⟨"StairRowModel", "isOffWith", "(III)Z"⟩, prog_8_method_52_code, 6, some .boolean, 6, false, 4, 8, (1209, 1208, 125, 98), [(0, .iconst 0, 1), (1, .istore 4, 2), (3, .iload 4, 2), (5, .aload_n 0, 1), (6, .getfield 7, 3), (9, .iconst 0, 1), (10, .iaload, 1), (11, .if_icmp .ge 39, 3), (14, .aload_n 0, 1), (15, .getfield 7, 3), (18, .iload 4, 2), (20, .iconst 2, 1), (21, .invokestatic 52, 3), (24, .dup2, 1), (25, .iaload, 1), (26, .iload_n 3, 1), (27, .iload 4, 2), (29, .invokestatic 47, 3), (32, .ifCond .eq 9, 3), (35, .iconst 1, 1), (36, .iload_n 1, 1), (37, .ishl, 1), (38, .goto 4, 3), (41, .iconst 0, 1), (42, .ior, 1), (43, .iastore, 1), (44, .iinc 4 1, 3), (47, .goto (-44), 3), (50, .aload_n 0, 1), (51, .iload_n 1, 1), (52, .iload_n 2, 1), (53, .invokevirtual 144, 3), (56, .istore 4, 2), (58, .iconst 0, 1), (59, .istore 5, 2), (61, .iload 5, 2), (63, .aload_n 0, 1), (64, .getfield 7, 3), (67, .iconst 0, 1), (68, .iaload, 1), (69, .if_icmp .ge 31, 3), (72, .aload_n 0, 1), (73, .getfield 7, 3), (76, .iload 5, 2), (78, .iconst 2, 1), (79, .invokestatic 52, 3), (82, .aload_n 0, 1), (83, .getfield 16, 3), (86, .iload 5, 2), (88, .iconst 2, 1), (89, .invokestatic 52, 3), (92, .iaload, 1), (93, .iastore, 1), (94, .iinc 5 1, 3), (97, .goto (-36), 3), (100, .iload 4, 2), (102, .ireturn, 1)])
def ab_m188 : ab_I := (⟨"StairRowModel", "helps", "(II)I"⟩, prog_8_method_53_code, 5, some .int, 6, false, 3, 9, (1201, 1199, 125, 1200), [(0, .aload_n 0, 1), (1, .iload_n 1, 1), (2, .iload_n 2, 1), (3, .invokevirtual 92, 3), (6, .ifCond .ne 10, 3), (9, .aload_n 0, 1), (10, .ldc 40, 2), (12, .invokevirtual 58, 3), (15, .ireturn, 1), (16, .aload_n 0, 1), (17, .iload_n 1, 1), (18, .iload_n 2, 1), (19, .invokevirtual 144, 3), (22, .ifCond .ne 5, 3), (25, .iconst 0, 1), (26, .ireturn, 1), (27, .aload_n 0, 1), (28, .invokevirtual 156, 3), (31, .iconst 0, 1), (32, .istore_n 3, 1), (33, .iconst 0, 1), (34, .istore 4, 2), (36, .iload 4, 2), (38, .aload_n 0, 1), (39, .getfield 7, 3), (42, .iconst 0, 1), (43, .iaload, 1), (44, .if_icmp .ge 33, 3), (47, .iload_n 3, 1), (48, .aload_n 0, 1), (49, .iload_n 1, 1), (50, .iload_n 2, 1), (51, .iconst 1, 1), (52, .iload 4, 2), (54, .ishl, 1), (55, .invokevirtual 159, 3), (58, .ifCond .eq 7, 3), (61, .iconst 0, 1), (62, .goto 7, 3), (65, .iconst 1, 1), (66, .iload 4, 2), (68, .ishl, 1), (69, .ior, 1), (70, .istore_n 3, 1), (71, .iinc 4 1, 3), (74, .goto (-38), 3), (77, .iload_n 3, 1), (78, .ireturn, 1)])
def ab_m189 : ab_I := (⟨"StairRowModel", "needed", "(II)I"⟩, prog_8_method_54_code, 5, some .int, 6, false, 3, 9, (1217, 1216, 125, 99), [(0, .aload_n 0, 1), (1, .invokevirtual 156, 3), (4, .iconst (-1), 1), (5, .istore_n 3, 1), (6, .iconst 0, 1), (7, .istore 4, 2), (9, .iload 4, 2), (11, .iconst 1, 1), (12, .aload_n 0, 1), (13, .getfield 7, 3), (16, .iconst 0, 1), (17, .iaload, 1), (18, .ishl, 1), (19, .if_icmp .ge 43, 3), (22, .iload_n 3, 1), (23, .ifCond .lt 15, 3), (26, .iload 4, 2), (28, .invokestatic 153, 3), (31, .iload_n 3, 1), (32, .invokestatic 153, 3), (35, .if_icmp .ge 19, 3), (38, .aload_n 0, 1), (39, .iload_n 1, 1), (40, .iload_n 2, 1), (41, .iload 4, 2), (43, .invokevirtual 159, 3), (46, .ifCond .ne 8, 3), (49, .iload 4, 2), (51, .goto 4, 3), (54, .iload_n 3, 1), (55, .istore_n 3, 1), (56, .iinc 4 1, 3), (59, .goto (-50), 3), (62, .iload_n 3, 1), (63, .ireturn, 1)])
def ab_m190 : ab_I := (⟨"StairRowModel", "needs", "(II)I"⟩, prog_8_method_55_code, 4, some .int, 6, false, 3, 10, (1213, 1211, 125, 1212), [(0, .aload_n 0, 1), (1, .iload_n 1, 1), (2, .iload_n 2, 1), (3, .invokevirtual 92, 3), (6, .ifCond .ne 10, 3), (9, .aload_n 0, 1), (10, .ldc 40, 2), (12, .invokevirtual 58, 3), (15, .ireturn, 1), (16, .aload_n 0, 1), (17, .iload_n 1, 1), (18, .iload_n 2, 1), (19, .invokevirtual 162, 3), (22, .istore_n 3, 1), (23, .iload_n 3, 1), (24, .ifCond .ge 12, 3), (27, .aload_n 0, 1), (28, .ldc 128, 2), (30, .invokevirtual 58, 3), (33, .goto 4, 3), (36, .iload_n 3, 1), (37, .ireturn, 1)])
def ab_m191 : ab_I := (⟨"StairRowModel", "law", "(I)I"⟩, prog_8_method_56_code, 5, some .int, 6, false, 2, 10, (1221, 1219, 125, 1220), [(0, .iload_n 1, 1), (1, .invokestatic 75, 3), (4, .ifCond .ne 10, 3), (7, .aload_n 0, 1), (8, .ldc 40, 2), (10, .invokevirtual 58, 3), (13, .ireturn, 1), (14, .iconst 0, 1), (15, .istore_n 2, 1), (16, .iconst 0, 1), (17, .istore_n 3, 1), (18, .iload_n 3, 1), (19, .aload_n 0, 1), (20, .getfield 7, 3), (23, .iconst 0, 1), (24, .iaload, 1), (25, .if_icmp .ge 38, 3), (28, .iload_n 2, 1), (29, .ifCond .lt 34, 3), (32, .aload_n 0, 1), (33, .iload_n 3, 1), (34, .iload_n 1, 1), (35, .invokevirtual 162, 3), (38, .istore 4, 2), (40, .iload 4, 2), (42, .ifCond .ge 7, 3), (45, .iconst (-1), 1), (46, .goto 10, 3), (49, .iload_n 2, 1), (50, .iload 4, 2), (52, .invokestatic 153, 3), (55, .iadd, 1), (56, .istore_n 2, 1), (57, .iinc 3 1, 3), (60, .goto (-42), 3), (63, .iload_n 2, 1), (64, .ifCond .ge 12, 3), (67, .aload_n 0, 1), (68, .ldc 128, 2), (70, .invokevirtual 58, 3), (73, .goto 4, 3), (76, .iload_n 2, 1), (77, .ireturn, 1)])
def ab_m192 : ab_I := (⟨"StairRowModel", "quarrels", "(II)V"⟩, prog_8_method_57_code, 3, none, 6, false, 3, 2, (1229, 1228, 125, 100), [(0, .aload_n 0, 1), (1, .getfield 7, 3), (4, .iload_n 1, 1), (5, .iconst 2, 1), (6, .invokestatic 52, 3), (9, .dup2, 1), (10, .iaload, 1), (11, .iconst 1, 1), (12, .iload_n 2, 1), (13, .ishl, 1), (14, .iconst (-1), 1), (15, .ixor, 1), (16, .iand, 1), (17, .iastore, 1), (18, .aload_n 0, 1), (19, .getfield 7, 3), (22, .iload_n 1, 1), (23, .iconst 5, 1), (24, .invokestatic 52, 3), (27, .dup2, 1), (28, .iaload, 1), (29, .iconst 1, 1), (30, .iload_n 2, 1), (31, .ishl, 1), (32, .ior, 1), (33, .iastore, 1), (34, .return_, 1)])
def ab_m193 : ab_I := (⟨"StairRowModel", "quarrel", "(III)I"⟩, prog_8_method_58_code, 6, some .int, 6, false, 4, 9, (1225, 1223, 125, 1224), [(0, .aload_n 0, 1), (1, .iload_n 1, 1), (2, .invokevirtual 66, 3), (5, .ifCond .eq 23, 3), (8, .aload_n 0, 1), (9, .iload_n 2, 1), (10, .invokevirtual 66, 3), (13, .ifCond .eq 15, 3), (16, .iload_n 1, 1), (17, .iload_n 2, 1), (18, .if_icmp .eq 10, 3), (21, .iload_n 3, 1), (22, .invokestatic 75, 3), (25, .ifCond .ne 10, 3), (28, .aload_n 0, 1), (29, .ldc 40, 2), (31, .invokevirtual 58, 3), (34, .ireturn, 1), (35, .aload_n 0, 1), (36, .iload_n 3, 1), (37, .invokevirtual 147, 3), (40, .invokestatic 153, 3), (43, .istore 4, 2), (45, .aload_n 0, 1), (46, .invokevirtual 156, 3), (49, .aload_n 0, 1), (50, .iload_n 1, 1), (51, .iload_n 2, 1), (52, .invokevirtual 165, 3), (55, .aload_n 0, 1), (56, .iload_n 2, 1), (57, .iload_n 1, 1), (58, .invokevirtual 165, 3), (61, .aload_n 0, 1), (62, .iload_n 3, 1), (63, .invokevirtual 147, 3), (66, .invokestatic 153, 3), (69, .istore 5, 2), (71, .aload_n 0, 1), (72, .invokevirtual 168, 3), (75, .iload 5, 2), (77, .iload 4, 2), (79, .isub, 1), (80, .ireturn, 1)])
def ab_m194 : ab_I := (⟨"StairRowModel", "ring", "(I)I"⟩, prog_8_method_59_code, 7, some .int, 6, false, 2, 3, (1237, 1235, 125, 1236), [(0, .aload_n 0, 1), (1, .iload_n 1, 1), (2, .invokevirtual 66, 3), (5, .ifCond .ne 10, 3), (8, .aload_n 0, 1), (9, .ldc 40, 2), (11, .invokevirtual 58, 3), (14, .ireturn, 1), (15, .iconst 1, 1), (16, .aload_n 0, 1), (17, .getfield 7, 3), (20, .iconst 0, 1), (21, .iaload, 1), (22, .ishl, 1), (23, .iconst 1, 1), (24, .isub, 1), (25, .istore_n 2, 1), (26, .aload_n 0, 1), (27, .iload_n 1, 1), (28, .iconst 2, 1), (29, .invokevirtual 72, 3), (32, .iload_n 2, 1), (33, .iand, 1), (34, .iconst 1, 1), (35, .iload_n 1, 1), (36, .ishl, 1), (37, .iconst (-1), 1), (38, .ixor, 1), (39, .iand, 1), (40, .istore_n 3, 1), (41, .iconst 1, 1), (42, .istore 4, 2), (44, .iload 4, 2), (46, .bipush 9, 2), (48, .if_icmp .ge 77, 3), (51, .iload_n 3, 1), (52, .iload_n 1, 1), (53, .invokestatic 47, 3), (56, .ifCond .ne 69, 3), (59, .iconst 0, 1), (60, .istore 5, 2), (62, .iconst 0, 1), (63, .istore 6, 2), (65, .iload 6, 2), (67, .aload_n 0, 1), (68, .getfield 7, 3), (71, .iconst 0, 1), (72, .iaload, 1), (73, .if_icmp .ge 41, 3), (76, .iload 5, 2), (78, .iload_n 3, 1), (79, .iload 6, 2), (81, .invokestatic 47, 3), (84, .ifCond .eq 20, 3), (87, .aload_n 0, 1), (88, .iload 6, 2), (90, .iconst 2, 1), (91, .invokevirtual 72, 3), (94, .iconst 1, 1), (95, .iload 6, 2), (97, .ishl, 1), (98, .iconst (-1), 1), (99, .ixor, 1), (100, .iand, 1), (101, .goto 4, 3), (104, .iconst 0, 1), (105, .ior, 1), (106, .istore 5, 2), (108, .iinc 6 1, 3), (111, .goto (-46), 3), (114, .iload 5, 2), (116, .iload_n 2, 1), (117, .iand, 1), (118, .istore_n 3, 1), (119, .iinc 4 1, 3), (122, .goto (-78), 3), (125, .iload 4, 2), (127, .bipush 8, 2), (129, .if_icmp .le 12, 3), (132, .aload_n 0, 1), (133, .ldc 128, 2), (135, .invokevirtual 58, 3), (138, .goto 5, 3), (141, .iload 4, 2), (143, .ireturn, 1)])
def ab_m195 : ab_I := (⟨"StairRowModel", "common", "(II)I"⟩, prog_8_method_60_code, 5, some .int, 6, true, 2, 1, (1244, 1243, 125, 0), [(0, .iload_n 0, 1), (1, .istore_n 2, 1), (2, .iload_n 1, 1), (3, .istore_n 3, 1), (4, .iload_n 3, 1), (5, .ifCond .eq 16, 3), (8, .iload_n 2, 1), (9, .iload_n 3, 1), (10, .irem, 1), (11, .istore 4, 2), (13, .iload_n 3, 1), (14, .istore_n 2, 1), (15, .iload 4, 2), (17, .istore_n 3, 1), (18, .goto (-14), 3), (21, .iload_n 2, 1), (22, .ireturn, 1)])
def ab_m196 : ab_I := (⟨"StairRowModel", "share", "(IIII)I"⟩, prog_8_method_61_code, 8, some .int, 6, false, 5, 8, (1241, 1239, 125, 1240), [(0, .aload_n 0, 1), (1, .iload_n 1, 1), (2, .invokevirtual 66, 3), (5, .ifCond .eq 23, 3), (8, .aload_n 0, 1), (9, .iload_n 2, 1), (10, .iload_n 3, 1), (11, .invokevirtual 92, 3), (14, .ifCond .eq 14, 3), (17, .iload 4, 2), (19, .i2l, 1), (20, .lconst 0, 1), (21, .lconst 1, 1), (22, .invokestatic 41, 3), (25, .ifCond .ne 10, 3), (28, .aload_n 0, 1), (29, .ldc 40, 2), (31, .invokevirtual 58, 3), (34, .ireturn, 1), (35, .aload_n 0, 1), (36, .invokevirtual 156, 3), (39, .iconst 0, 1), (40, .istore 5, 2), (42, .iconst 0, 1), (43, .istore 6, 2), (45, .iload 6, 2), (47, .iconst 1, 1), (48, .aload_n 0, 1), (49, .getfield 7, 3), (52, .iconst 0, 1), (53, .iaload, 1), (54, .ishl, 1), (55, .if_icmp .ge 126, 3), (58, .iload 6, 2), (60, .iload_n 1, 1), (61, .invokestatic 47, 3), (64, .ifCond .ne 111, 3), (67, .iconst 0, 1), (68, .istore 7, 2), (70, .iload 7, 2), (72, .aload_n 0, 1), (73, .getfield 7, 3), (76, .iconst 0, 1), (77, .iaload, 1), (78, .if_icmp .ge 45, 3), (81, .aload_n 0, 1), (82, .getfield 7, 3), (85, .iload 7, 2), (87, .iconst 2, 1), (88, .invokestatic 52, 3), (91, .iload 6, 2), (93, .iload 7, 2), (95, .invokestatic 47, 3), (98, .ifCond .eq 17, 3), (101, .aload_n 0, 1), (102, .getfield 16, 3), (105, .iload 7, 2), (107, .iconst 2, 1), (108, .invokestatic 52, 3), (111, .iaload, 1), (112, .goto 4, 3), (115, .iconst 0, 1), (116, .iastore, 1), (117, .iinc 7 1, 3), (120, .goto (-50), 3), (123, .aload_n 0, 1), (124, .iload_n 2, 1), (125, .iload_n 3, 1), (126, .invokevirtual 144, 3), (129, .istore 7, 2), (131, .aload_n 0, 1), (132, .getfield 7, 3), (135, .iload_n 1, 1), (136, .iconst 2, 1), (137, .invokestatic 52, 3), (140, .aload_n 0, 1), (141, .getfield 16, 3), (144, .iload_n 1, 1), (145, .iconst 2, 1), (146, .invokestatic 52, 3), (149, .iaload, 1), (150, .iastore, 1), (151, .iload 5, 2), (153, .iload 7, 2), (155, .ifCond .eq 16, 3), (158, .aload_n 0, 1), (159, .iload_n 2, 1), (160, .iload_n 3, 1), (161, .invokevirtual 144, 3), (164, .ifCond .ne 7, 3), (167, .iconst 1, 1), (168, .goto 4, 3), (171, .iconst 0, 1), (172, .iadd, 1), (173, .istore 5, 2), (175, .iinc 6 1, 3), (178, .goto (-133), 3), (181, .aload_n 0, 1), (182, .invokevirtual 168, 3), (185, .iconst 1, 1), (186, .aload_n 0, 1), (187, .getfield 7, 3), (190, .iconst 0, 1), (191, .iaload, 1), (192, .iconst 1, 1), (193, .isub, 1), (194, .ishl, 1), (195, .istore 6, 2), (197, .iload 6, 2), (199, .iload 5, 2), (201, .invokestatic 171, 3), (204, .istore 7, 2), (206, .iload 4, 2), (208, .ifCond .ne 11, 3), (211, .iload 5, 2), (213, .iload 7, 2), (215, .idiv, 1), (216, .goto 8, 3), (219, .iload 6, 2), (221, .iload 7, 2), (223, .idiv, 1), (224, .ireturn, 1)])
def ab_m197 : ab_I := (⟨"StairRowModel", "beds", "(I)I"⟩, prog_8_method_62_code, 4, some .int, 6, false, 2, 3, (1248, 1246, 125, 1247), [(0, .aload_n 0, 1), (1, .iload_n 1, 1), (2, .invokevirtual 66, 3), (5, .ifCond .ne 10, 3), (8, .aload_n 0, 1), (9, .ldc 40, 2), (11, .invokevirtual 58, 3), (14, .ireturn, 1), (15, .iconst 0, 1), (16, .istore_n 2, 1), (17, .iconst 0, 1), (18, .istore_n 3, 1), (19, .iload_n 3, 1), (20, .aload_n 0, 1), (21, .getfield 7, 3), (24, .iconst 0, 1), (25, .iaload, 1), (26, .if_icmp .ge 30, 3), (29, .iload_n 2, 1), (30, .aload_n 0, 1), (31, .iload_n 3, 1), (32, .bipush 7, 2), (34, .invokevirtual 72, 3), (37, .iload_n 1, 1), (38, .if_icmp .ne 9, 3), (41, .iconst 1, 1), (42, .iload_n 3, 1), (43, .ishl, 1), (44, .goto 4, 3), (47, .iconst 0, 1), (48, .ior, 1), (49, .istore_n 2, 1), (50, .iinc 3 1, 3), (53, .goto (-34), 3), (56, .iload_n 2, 1), (57, .ireturn, 1)])
def ab_m198 : ab_I := (⟨"StairRowModel", "swaps", "()I"⟩, prog_8_method_63_code, 6, some .int, 6, false, 1, 3, (1252, 1250, 125, 1251), [(0, .iconst 0, 1), (1, .istore_n 1, 1), (2, .iconst 0, 1), (3, .istore_n 2, 1), (4, .iload_n 2, 1), (5, .aload_n 0, 1), (6, .getfield 7, 3), (9, .iconst 0, 1), (10, .iaload, 1), (11, .if_icmp .ge 21, 3), (14, .iload_n 1, 1), (15, .iconst 1, 1), (16, .aload_n 0, 1), (17, .iload_n 2, 1), (18, .bipush 7, 2), (20, .invokevirtual 72, 3), (23, .ishl, 1), (24, .ior, 1), (25, .istore_n 1, 1), (26, .iinc 2 1, 3), (29, .goto (-25), 3), (32, .iload_n 1, 1), (33, .invokestatic 153, 3), (36, .aload_n 0, 1), (37, .getfield 7, 3), (40, .iconst 0, 1), (41, .iaload, 1), (42, .if_icmp .ge 10, 3), (45, .aload_n 0, 1), (46, .ldc 174, 2), (48, .invokevirtual 58, 3), (51, .ireturn, 1), (52, .iconst 0, 1), (53, .istore_n 2, 1), (54, .iconst 0, 1), (55, .istore_n 3, 1), (56, .iconst 0, 1), (57, .istore 4, 2), (59, .iload 4, 2), (61, .aload_n 0, 1), (62, .getfield 7, 3), (65, .iconst 0, 1), (66, .iaload, 1), (67, .if_icmp .ge 59, 3), (70, .iload_n 3, 1), (71, .iload_n 2, 1), (72, .iload 4, 2), (74, .invokestatic 47, 3), (77, .ifCond .eq 7, 3), (80, .iconst 0, 1), (81, .goto 4, 3), (84, .iconst 1, 1), (85, .iadd, 1), (86, .istore_n 3, 1), (87, .iload 4, 2), (89, .istore 5, 2), (91, .iload_n 2, 1), (92, .iload 5, 2), (94, .invokestatic 47, 3), (97, .ifCond .ne 23, 3), (100, .iload_n 2, 1), (101, .iconst 1, 1), (102, .iload 5, 2), (104, .ishl, 1), (105, .ior, 1), (106, .istore_n 2, 1), (107, .aload_n 0, 1), (108, .iload 5, 2), (110, .bipush 7, 2), (112, .invokevirtual 72, 3), (115, .istore 5, 2), (117, .goto (-26), 3), (120, .iinc 4 1, 3), (123, .goto (-64), 3), (126, .aload_n 0, 1), (127, .getfield 7, 3), (130, .iconst 0, 1), (131, .iaload, 1), (132, .iload_n 3, 1), (133, .isub, 1), (134, .ireturn, 1)])
def ab_m199 : ab_I := (⟨"StairRowModel", "fire", "()I"⟩, prog_8_method_64_code, 5, some .int, 6, false, 1, 5, (1257, 1255, 125, 1256), [(0, .iconst 0, 1), (1, .istore_n 1, 1), (2, .iconst 0, 1), (3, .istore_n 2, 1), (4, .iload_n 2, 1), (5, .aload_n 0, 1), (6, .getfield 7, 3), (9, .iconst 0, 1), (10, .iaload, 1), (11, .if_icmp .ge 78, 3), (14, .iload_n 1, 1), (15, .ifCond .lt 74, 3), (18, .iconst 1, 1), (19, .aload_n 0, 1), (20, .iload_n 2, 1), (21, .invokevirtual 118, 3), (24, .ishl, 1), (25, .istore_n 3, 1), (26, .iconst 1, 1), (27, .istore 4, 2), (29, .iload 4, 2), (31, .bipush 17, 2), (33, .if_icmp .ge 26, 3), (36, .iload_n 3, 1), (37, .aload_n 0, 1), (38, .invokevirtual 111, 3), (41, .iand, 1), (42, .ifCond .ne 17, 3), (45, .iload_n 3, 1), (46, .aload_n 0, 1), (47, .iload_n 3, 1), (48, .invokevirtual 115, 3), (51, .ior, 1), (52, .istore_n 3, 1), (53, .iinc 4 1, 3), (56, .goto (-27), 3), (59, .iload 4, 2), (61, .bipush 16, 2), (63, .if_icmp .le 7, 3), (66, .iconst (-1), 1), (67, .goto 15, 3), (70, .iload 4, 2), (72, .iload_n 1, 1), (73, .if_icmp .le 8, 3), (76, .iload 4, 2), (78, .goto 4, 3), (81, .iload_n 1, 1), (82, .istore_n 1, 1), (83, .iinc 2 1, 3), (86, .goto (-82), 3), (89, .iload_n 1, 1), (90, .ifCond .ge 12, 3), (93, .aload_n 0, 1), (94, .ldc 128, 2), (96, .invokevirtual 58, 3), (99, .goto 4, 3), (102, .iload_n 1, 1), (103, .ireturn, 1)])
def ab_m200 : ab_I := (⟨"StairRowModel", "open", "(I)I"⟩, prog_8_method_65_code, 6, some .int, 6, false, 2, 9, (1261, 1259, 125, 1260), [(0, .iload_n 1, 1), (1, .invokestatic 75, 3), (4, .ifCond .ne 10, 3), (7, .aload_n 0, 1), (8, .ldc 40, 2), (10, .invokevirtual 58, 3), (13, .ireturn, 1), (14, .iconst (-1), 1), (15, .istore_n 2, 1), (16, .iconst 0, 1), (17, .istore_n 3, 1), (18, .iconst 0, 1), (19, .istore 4, 2), (21, .iload 4, 2), (23, .bipush 14, 2), (25, .if_icmp .ge 70, 3), (28, .aload_n 0, 1), (29, .getfield 7, 3), (32, .bipush 66, 2), (34, .iload 4, 2), (36, .iadd, 1), (37, .iaload, 1), (38, .ifCond .ne 51, 3), (41, .aload_n 0, 1), (42, .getfield 7, 3), (45, .bipush 66, 2), (47, .iload 4, 2), (49, .iadd, 1), (50, .iconst 1, 1), (51, .iastore, 1), (52, .aload_n 0, 1), (53, .iload_n 1, 1), (54, .invokevirtual 147, 3), (57, .invokestatic 153, 3), (60, .istore 5, 2), (62, .aload_n 0, 1), (63, .getfield 7, 3), (66, .bipush 66, 2), (68, .iload 4, 2), (70, .iadd, 1), (71, .iconst 0, 1), (72, .iastore, 1), (73, .iload_n 2, 1), (74, .ifCond .lt 9, 3), (77, .iload 5, 2), (79, .iload_n 3, 1), (80, .if_icmp .ge 9, 3), (83, .iload 4, 2), (85, .istore_n 2, 1), (86, .iload 5, 2), (88, .istore_n 3, 1), (89, .iinc 4 1, 3), (92, .goto (-71), 3), (95, .iload_n 2, 1), (96, .ifCond .ge 12, 3), (99, .aload_n 0, 1), (100, .ldc 128, 2), (102, .invokevirtual 58, 3), (105, .goto 4, 3), (108, .iload_n 2, 1), (109, .ireturn, 1)])
def ab_m201 : ab_I := (⟨"StairRowModel", "shift", "()I"⟩, prog_8_method_66_code, 2, some .int, 6, false, 1, 9, (1265, 1263, 125, 1264), [(0, .iconst 0, 1), (1, .istore_n 1, 1), (2, .iload_n 1, 1), (3, .aload_n 0, 1), (4, .getfield 7, 3), (7, .iconst 0, 1), (8, .iaload, 1), (9, .if_icmp .ge 36, 3), (12, .aload_n 0, 1), (13, .getfield 7, 3), (16, .iload_n 1, 1), (17, .bipush 7, 2), (19, .invokestatic 52, 3), (22, .aload_n 0, 1), (23, .iload_n 1, 1), (24, .bipush 7, 2), (26, .invokevirtual 72, 3), (29, .iconst 1, 1), (30, .iadd, 1), (31, .aload_n 0, 1), (32, .getfield 7, 3), (35, .iconst 0, 1), (36, .iaload, 1), (37, .irem, 1), (38, .iastore, 1), (39, .iinc 1 1, 3), (42, .goto (-40), 3), (45, .aload_n 0, 1), (46, .bipush 20, 2), (48, .invokevirtual 147, 3), (51, .invokestatic 153, 3), (54, .ireturn, 1)])
def ab_m202 : ab_I := (⟨"StairRowModel", "gossip", "(I)I"⟩, prog_8_method_67_code, 5, some .int, 6, false, 2, 3, (1269, 1267, 125, 1268), [(0, .iload_n 1, 1), (1, .i2l, 1), (2, .lconst 1, 1), (3, .ldc2_w 175, 3), (6, .invokestatic 41, 3), (9, .ifCond .ne 10, 3), (12, .aload_n 0, 1), (13, .ldc 40, 2), (15, .invokevirtual 58, 3), (18, .ireturn, 1), (19, .aload_n 0, 1), (20, .getfield 7, 3), (23, .iconst 0, 1), (24, .iaload, 1), (25, .ifCond .ne 10, 3), (28, .aload_n 0, 1), (29, .ldc 174, 2), (31, .invokevirtual 58, 3), (34, .ireturn, 1), (35, .iconst 0, 1), (36, .istore_n 2, 1), (37, .iload_n 2, 1), (38, .iload_n 1, 1), (39, .if_icmp .ge 51, 3), (42, .aload_n 0, 1), (43, .invokevirtual 177, 3), (46, .aload_n 0, 1), (47, .getfield 7, 3), (50, .iconst 0, 1), (51, .iaload, 1), (52, .irem, 1), (53, .istore_n 3, 1), (54, .aload_n 0, 1), (55, .invokevirtual 177, 3), (58, .aload_n 0, 1), (59, .getfield 7, 3), (62, .iconst 0, 1), (63, .iaload, 1), (64, .irem, 1), (65, .istore 4, 2), (67, .aload_n 0, 1), (68, .getfield 7, 3), (71, .iload 4, 2), (73, .iconst 2, 1), (74, .invokestatic 52, 3), (77, .dup2, 1), (78, .iaload, 1), (79, .iconst 1, 1), (80, .iload_n 3, 1), (81, .ishl, 1), (82, .ior, 1), (83, .iastore, 1), (84, .iinc 2 1, 3), (87, .goto (-50), 3), (90, .iconst 0, 1), (91, .istore_n 2, 1), (92, .iconst 0, 1), (93, .istore_n 3, 1), (94, .iload_n 3, 1), (95, .aload_n 0, 1), (96, .getfield 7, 3), (99, .iconst 0, 1), (100, .iaload, 1), (101, .if_icmp .ge 38, 3), (104, .iload_n 2, 1), (105, .aload_n 0, 1), (106, .iload_n 3, 1), (107, .iconst 2, 1), (108, .invokevirtual 72, 3), (111, .iconst 1, 1), (112, .aload_n 0, 1), (113, .getfield 7, 3), (116, .iconst 0, 1), (117, .iaload, 1), (118, .ishl, 1), (119, .iconst 1, 1), (120, .isub, 1), (121, .iand, 1), (122, .iconst 1, 1), (123, .iload_n 3, 1), (124, .ishl, 1), (125, .iconst (-1), 1), (126, .ixor, 1), (127, .iand, 1), (128, .invokestatic 153, 3), (131, .iadd, 1), (132, .istore_n 2, 1), (133, .iinc 3 1, 3), (136, .goto (-42), 3), (139, .iload_n 2, 1), (140, .ireturn, 1)])
def ab_m203 : ab_I := (⟨"StairRowModel", "seed", "(I)I"⟩, prog_8_method_68_code, 3, some .int, 6, false, 2, 1, (1279, 1277, 125, 1278), [(0, .aload_n 0, 1), (1, .getfield 7, 3), (4, .iconst 1, 1), (5, .iaload, 1), (6, .istore_n 2, 1), (7, .aload_n 0, 1), (8, .getfield 7, 3), (11, .iconst 1, 1), (12, .iload_n 1, 1), (13, .iastore, 1), (14, .iload_n 2, 1), (15, .ireturn, 1)])
def ab_m204 : ab_I := (⟨"StairRowModel", "feed", "(II)I"⟩, prog_8_method_69_code, 4, some .int, 6, false, 3, 2, (1283, 1281, 125, 1282), [(0, .iload_n 2, 1), (1, .i2l, 1), (2, .lconst 1, 1), (3, .ldc2_w 180, 3), (6, .invokestatic 41, 3), (9, .ifCond .ne 10, 3), (12, .aload_n 0, 1), (13, .ldc 40, 2), (15, .invokevirtual 58, 3), (18, .ireturn, 1), (19, .aload_n 0, 1), (20, .getfield 182, 3), (23, .iload_n 2, 1), (24, .iadd, 1), (25, .bipush 120, 2), (27, .if_icmp .le 10, 3), (30, .aload_n 0, 1), (31, .ldc 62, 2), (33, .invokevirtual 58, 3), (36, .ireturn, 1), (37, .iload_n 2, 1), (38, .iconst 1, 1), (39, .isub, 1), (40, .istore_n 3, 1), (41, .iload_n 3, 1), (42, .ifCond .lt 38, 3), (45, .aload_n 0, 1), (46, .getfield 25, 3), (49, .aload_n 0, 1), (50, .getfield 182, 3), (53, .iload_n 1, 1), (54, .bipush 8, 2), (56, .iload_n 3, 1), (57, .imul, 1), (58, .ishr, 1), (59, .sipush 255, 3), (62, .iand, 1), (63, .iastore, 1), (64, .aload_n 0, 1), (65, .dup, 1), (66, .getfield 182, 3), (69, .iconst 1, 1), (70, .iadd, 1), (71, .putfield 182, 3), (74, .iinc 3 (-1), 3), (77, .goto (-36), 3), (80, .aload_n 0, 1), (81, .getfield 182, 3), (84, .ireturn, 1)])
def ab_m205 : ab_I := (⟨"StairRowModel", "wipe", "()I"⟩, prog_8_method_70_code, 2, some .int, 6, false, 1, 1, (1288, 1286, 125, 1287), [(0, .aload_n 0, 1), (1, .getfield 182, 3), (4, .istore_n 1, 1), (5, .aload_n 0, 1), (6, .iconst 0, 1), (7, .putfield 182, 3), (10, .iload_n 1, 1), (11, .ireturn, 1)])
def ab_m206 : ab_I := (⟨"StairRowModel", "byteAt", "(I)I"⟩, prog_8_method_71_code, 2, some .int, 6, false, 2, 1, (1300, 1299, 125, 104), [(0, .iload_n 1, 1), (1, .aload_n 0, 1), (2, .getfield 182, 3), (5, .if_icmp .ge 12, 3), (8, .aload_n 0, 1), (9, .getfield 25, 3), (12, .iload_n 1, 1), (13, .iaload, 1), (14, .goto 4, 3), (17, .iconst (-1), 1), (18, .ireturn, 1)])
def ab_m207 : ab_I := (⟨"StairRowModel", "isLetter", "(I)Z"⟩, prog_8_method_72_code, 1, some .boolean, 6, true, 1, 2, (1303, 1302, 125, 0), [(0, .iload_n 0, 1), (1, .i2l, 1), (2, .ldc2_w 186, 3), (5, .ldc2_w 188, 3), (8, .invokestatic 41, 3), (11, .ireturn, 1)])
def ab_m208 : ab_I := (⟨"StairRowModel", "isDigit", "(I)Z"⟩, prog_8_method_73_code, 1, some .boolean, 6, true, 1, 2, (1308, 1307, 125, 0), [(0, .iload_n 0, 1), (1, .i2l, 1), (2, .ldc2_w 190, 3), (5, .ldc2_w 192, 3), (8, .invokestatic 41, 3), (11, .ireturn, 1)])
def ab_m209 : ab_I := (⟨"StairRowModel", "token", "()V"⟩, prog_8_method_74_code, 3, none, 6, false, 1, 3, (1296, 1295, 125, 103), [(0, .aload_n 0, 1), (1, .aload_n 0, 1), (2, .getfield 194, 3), (5, .putfield 197, 3), (8, .aload_n 0, 1), (9, .aload_n 0, 1), (10, .getfield 197, 3), (13, .invokevirtual 200, 3), (16, .bipush 32, 2), (18, .if_icmp .ne 16, 3), (21, .aload_n 0, 1), (22, .dup, 1), (23, .getfield 197, 3), (26, .iconst 1, 1), (27, .iadd, 1), (28, .putfield 197, 3), (31, .goto (-23), 3), (34, .aload_n 0, 1), (35, .aload_n 0, 1), (36, .getfield 197, 3), (39, .invokevirtual 200, 3), (42, .invokestatic 203, 3), (45, .istore_n 1, 1), (46, .aload_n 0, 1), (47, .aload_n 0, 1), (48, .getfield 197, 3), (51, .invokevirtual 200, 3), (54, .invokestatic 206, 3), (57, .istore_n 2, 1), (58, .aload_n 0, 1), (59, .aload_n 0, 1), (60, .getfield 197, 3), (63, .aload_n 0, 1), (64, .getfield 182, 3), (67, .if_icmp .ge 12, 3), (70, .aload_n 0, 1), (71, .getfield 197, 3), (74, .iconst 1, 1), (75, .iadd, 1), (76, .goto 7, 3), (79, .aload_n 0, 1), (80, .getfield 197, 3), (83, .putfield 194, 3), (86, .iload_n 1, 1), (87, .ifCond .eq 17, 3), (90, .aload_n 0, 1), (91, .aload_n 0, 1), (92, .getfield 194, 3), (95, .invokevirtual 200, 3), (98, .invokestatic 203, 3), (101, .ifCond .ne 21, 3), (104, .iload_n 2, 1), (105, .ifCond .eq 30, 3), (108, .aload_n 0, 1), (109, .aload_n 0, 1), (110, .getfield 194, 3), (113, .invokevirtual 200, 3), (116, .invokestatic 206, 3), (119, .ifCond .eq 16, 3), (122, .aload_n 0, 1), (123, .dup, 1), (124, .getfield 194, 3), (127, .iconst 1, 1), (128, .iadd, 1), (129, .putfield 194, 3), (132, .goto (-46), 3), (135, .return_, 1)])
def ab_m210 : ab_I := (⟨"StairRowModel", "wants", "(Z)V"⟩, prog_8_method_75_code, 2, none, 6, false, 2, 4, (1339, 1338, 125, 109), [(0, .aload_n 0, 1), (1, .aload_n 0, 1), (2, .getfield 209, 3), (5, .ifCond .ne 7, 3), (8, .iload_n 1, 1), (9, .ifCond .ne 7, 3), (12, .iconst 1, 1), (13, .goto 4, 3), (16, .iconst 0, 1), (17, .putfield 209, 3), (20, .aload_n 0, 1), (21, .getfield 209, 3), (24, .ifCond .ne 7, 3), (27, .aload_n 0, 1), (28, .invokevirtual 213, 3), (31, .return_, 1)])
def ab_m211 : ab_I := (⟨"StairRowModel", "word", "()J"⟩, prog_8_method_76_code, 4, some .long, 6, false, 1, 3, (1322, 1321, 125, 107), [(0, .lconst 0, 1), (1, .lstore_n 1, 1), (2, .aload_n 0, 1), (3, .getfield 197, 3), (6, .istore_n 3, 1), (7, .iload_n 3, 1), (8, .aload_n 0, 1), (9, .getfield 194, 3), (12, .if_icmp .ge 38, 3), (15, .lload_n 1, 1), (16, .ldc2_w 216, 3), (19, .lcmp, 1), (20, .ifCond .le 7, 3), (23, .lload_n 1, 1), (24, .goto 19, 3), (27, .ldc2_w 218, 3), (30, .lload_n 1, 1), (31, .lmul, 1), (32, .aload_n 0, 1), (33, .getfield 25, 3), (36, .iload_n 3, 1), (37, .iaload, 1), (38, .bipush 96, 2), (40, .isub, 1), (41, .i2l, 1), (42, .ladd, 1), (43, .lstore_n 1, 1), (44, .iinc 3 1, 3), (47, .goto (-40), 3), (50, .aload_n 0, 1), (51, .getfield 209, 3), (54, .ifCond .ne 17, 3), (57, .aload_n 0, 1), (58, .aload_n 0, 1), (59, .getfield 197, 3), (62, .invokevirtual 200, 3), (65, .invokestatic 203, 3), (68, .ifCond .ne 7, 3), (71, .lconst 0, 1), (72, .goto 4, 3), (75, .lload_n 1, 1), (76, .lreturn, 1)])
def ab_m212 : ab_I := (⟨"StairRowModel", "number", "(II)V"⟩, prog_8_method_77_code, 6, none, 6, false, 3, 5, (1346, 1345, 125, 110), [(0, .aload_n 0, 1), (1, .getfield 209, 3), (4, .ifCond .eq 4, 3), (7, .return_, 1), (8, .aload_n 0, 1), (9, .aload_n 0, 1), (10, .getfield 197, 3), (13, .invokevirtual 200, 3), (16, .invokestatic 206, 3), (19, .istore_n 3, 1), (20, .iconst 0, 1), (21, .istore 4, 2), (23, .aload_n 0, 1), (24, .getfield 197, 3), (27, .istore 5, 2), (29, .iload 5, 2), (31, .aload_n 0, 1), (32, .getfield 194, 3), (35, .if_icmp .ge 44, 3), (38, .iload_n 3, 1), (39, .ifCond .eq 40, 3), (42, .iload 4, 2), (44, .sipush 999, 3), (47, .if_icmp .le 8, 3), (50, .iload 4, 2), (52, .goto 19, 3), (55, .bipush 10, 2), (57, .iload 4, 2), (59, .imul, 1), (60, .aload_n 0, 1), (61, .getfield 25, 3), (64, .iload 5, 2), (66, .iaload, 1), (67, .iadd, 1), (68, .bipush 48, 2), (70, .isub, 1), (71, .istore 4, 2), (73, .iinc 5 1, 3), (76, .goto (-47), 3), (79, .aload_n 0, 1), (80, .iload 4, 2), (82, .putfield 220, 3), (85, .aload_n 0, 1), (86, .iload_n 3, 1), (87, .ifCond .eq 20, 3), (90, .iload 4, 2), (92, .i2l, 1), (93, .iload_n 1, 1), (94, .i2l, 1), (95, .iload_n 2, 1), (96, .i2l, 1), (97, .invokestatic 41, 3), (100, .ifCond .eq 7, 3), (103, .iconst 1, 1), (104, .goto 4, 3), (107, .iconst 0, 1), (108, .invokevirtual 223, 3), (111, .return_, 1)])
def ab_m213 : ab_I := (⟨"StairRowModel", "kindHere", "()I"⟩, prog_8_method_78_code, 3, some .int, 6, false, 1, 4, (1318, 1317, 125, 106), [(0, .aload_n 0, 1), (1, .invokevirtual 227, 3), (4, .lstore_n 1, 1), (5, .lload_n 1, 1), (6, .ldc2_w 231, 3), (9, .lcmp, 1), (10, .ifCond .ne 7, 3), (13, .iconst 0, 1), (14, .goto 77, 3), (17, .lload_n 1, 1), (18, .ldc2_w 233, 3), (21, .lcmp, 1), (22, .ifCond .ne 7, 3), (25, .iconst 1, 1), (26, .goto 65, 3), (29, .lload_n 1, 1), (30, .ldc2_w 235, 3), (33, .lcmp, 1), (34, .ifCond .ne 7, 3), (37, .iconst 2, 1), (38, .goto 53, 3), (41, .lload_n 1, 1), (42, .ldc2_w 237, 3), (45, .lcmp, 1), (46, .ifCond .ne 7, 3), (49, .iconst 3, 1), (50, .goto 41, 3), (53, .lload_n 1, 1), (54, .ldc2_w 239, 3), (57, .lcmp, 1), (58, .ifCond .ne 7, 3), (61, .iconst 4, 1), (62, .goto 29, 3), (65, .lload_n 1, 1), (66, .ldc2_w 241, 3), (69, .lcmp, 1), (70, .ifCond .ne 7, 3), (73, .iconst 5, 1), (74, .goto 17, 3), (77, .lload_n 1, 1), (78, .ldc2_w 243, 3), (81, .lcmp, 1), (82, .ifCond .ne 8, 3), (85, .bipush 6, 2), (87, .goto 4, 3), (90, .iconst (-1), 1), (91, .ireturn, 1)])
def ab_m214 : ab_I := (⟨"StairRowModel", "houseItem", "(I)V"⟩, prog_8_method_79_code, 3, none, 6, false, 2, 6, (1335, 1334, 125, 108), [(0, .aload_n 0, 1), (1, .aload_n 0, 1), (2, .getfield 7, 3), (5, .iconst 0, 1), (6, .iaload, 1), (7, .bipush 8, 2), (9, .if_icmp .ge 7, 3), (12, .iconst 1, 1), (13, .goto 4, 3), (16, .iconst 0, 1), (17, .invokevirtual 223, 3), (20, .aload_n 0, 1), (21, .getfield 209, 3), (24, .ifCond .eq 4, 3), (27, .return_, 1), (28, .aload_n 0, 1), (29, .iload_n 1, 1), (30, .invokevirtual 63, 3), (33, .istore_n 2, 1), (34, .aload_n 0, 1), (35, .invokevirtual 227, 3), (38, .ldc2_w 245, 3), (41, .lcmp, 1), (42, .ifCond .ne 32, 3), (45, .aload_n 0, 1), (46, .iload_n 2, 1), (47, .ifCond .le 7, 3), (50, .iconst 1, 1), (51, .goto 4, 3), (54, .iconst 0, 1), (55, .invokevirtual 223, 3), (58, .aload_n 0, 1), (59, .getfield 7, 3), (62, .iload_n 2, 1), (63, .iconst 1, 1), (64, .invokestatic 52, 3), (67, .iload_n 2, 1), (68, .iconst 1, 1), (69, .isub, 1), (70, .iastore, 1), (71, .goto 42, 3), (74, .aload_n 0, 1), (75, .invokevirtual 227, 3), (78, .ldc2_w 247, 3), (81, .lcmp, 1), (82, .ifCond .ne 31, 3), (85, .aload_n 0, 1), (86, .iload_n 2, 1), (87, .bipush 7, 2), (89, .if_icmp .ge 7, 3), (92, .iconst 1, 1), (93, .goto 4, 3), (96, .iconst 0, 1), (97, .invokevirtual 223, 3), (100, .aload_n 0, 1), (101, .getfield 7, 3), (104, .iload_n 2, 1), (105, .iconst 1, 1), (106, .invokestatic 52, 3), (109, .iload_n 2, 1), (110, .iconst 1, 1), (111, .iadd, 1), (112, .iastore, 1), (113, .aload_n 0, 1), (114, .invokevirtual 227, 3), (117, .ldc2_w 249, 3), (120, .lcmp, 1), (121, .ifCond .ne 70, 3), (124, .aload_n 0, 1), (125, .iconst 1, 1), (126, .invokevirtual 223, 3), (129, .aload_n 0, 1), (130, .iconst 0, 1), (131, .bipush 23, 2), (133, .invokevirtual 251, 3), (136, .aload_n 0, 1), (137, .getfield 7, 3), (140, .iload_n 2, 1), (141, .iconst 3, 1), (142, .invokestatic 52, 3), (145, .aload_n 0, 1), (146, .getfield 220, 3), (149, .iastore, 1), (150, .aload_n 0, 1), (151, .aload_n 0, 1), (152, .invokevirtual 227, 3), (155, .ldc2_w 253, 3), (158, .lcmp, 1), (159, .ifCond .ne 7, 3), (162, .iconst 1, 1), (163, .goto 4, 3), (166, .iconst 0, 1), (167, .invokevirtual 223, 3), (170, .aload_n 0, 1), (171, .iconst 0, 1), (172, .bipush 23, 2), (174, .invokevirtual 251, 3), (177, .aload_n 0, 1), (178, .getfield 7, 3), (181, .iload_n 2, 1), (182, .iconst 4, 1), (183, .invokestatic 52, 3), (186, .aload_n 0, 1), (187, .getfield 220, 3), (190, .iastore, 1), (191, .aload_n 0, 1), (192, .invokevirtual 227, 3), (195, .ldc2_w 255, 3), (198, .lcmp, 1), (199, .ifCond .ne 30, 3), (202, .aload_n 0, 1), (203, .iconst 1, 1), (204, .invokevirtual 223, 3), (207, .aload_n 0, 1), (208, .iconst 0, 1), (209, .bipush 9, 2), (211, .invokevirtual 251, 3), (214, .aload_n 0, 1), (215, .getfield 7, 3), (218, .iload_n 2, 1), (219, .bipush 6, 2), (221, .invokestatic 52, 3), (224, .aload_n 0, 1), (225, .getfield 220, 3), (228, .iastore, 1), (229, .return_, 1)])
def ab_m215 : ab_I := (⟨"StairRowModel", "namesItem", "(I)V"⟩, prog_8_method_80_code, 4, none, 6, false, 2, 6, (1353, 1352, 125, 111), [(0, .aload_n 0, 1), (1, .iconst 1, 1), (2, .invokevirtual 223, 3), (5, .aload_n 0, 1), (6, .iconst 0, 1), (7, .aload_n 0, 1), (8, .getfield 7, 3), (11, .iconst 0, 1), (12, .iaload, 1), (13, .iconst 1, 1), (14, .isub, 1), (15, .invokevirtual 251, 3), (18, .aload_n 0, 1), (19, .getfield 220, 3), (22, .istore_n 2, 1), (23, .iconst 1, 1), (24, .istore_n 3, 1), (25, .iload_n 3, 1), (26, .ifCond .eq 58, 3), (29, .aload_n 0, 1), (30, .getfield 209, 3), (33, .ifCond .ne 51, 3), (36, .aload_n 0, 1), (37, .iconst 0, 1), (38, .bipush 7, 2), (40, .invokevirtual 251, 3), (43, .aload_n 0, 1), (44, .getfield 209, 3), (47, .ifCond .ne (-22), 3), (50, .aload_n 0, 1), (51, .getfield 7, 3), (54, .iload_n 2, 1), (55, .iload_n 1, 1), (56, .invokestatic 52, 3), (59, .dup2, 1), (60, .iaload, 1), (61, .iconst 1, 1), (62, .aload_n 0, 1), (63, .getfield 220, 3), (66, .ishl, 1), (67, .ior, 1), (68, .iastore, 1), (69, .aload_n 0, 1), (70, .aload_n 0, 1), (71, .getfield 197, 3), (74, .invokevirtual 200, 3), (77, .invokestatic 206, 3), (80, .istore_n 3, 1), (81, .goto (-56), 3), (84, .return_, 1)])
def ab_m216 : ab_I := (⟨"StairRowModel", "bedItem", "()V"⟩, prog_8_method_81_code, 2, none, 6, false, 1, 6, (1359, 1358, 125, 112), [(0, .aload_n 0, 1), (1, .aload_n 0, 1), (2, .invokevirtual 227, 3), (5, .ldc2_w 257, 3), (8, .lcmp, 1), (9, .ifCond .ne 7, 3), (12, .iconst 1, 1), (13, .goto 4, 3), (16, .iconst 0, 1), (17, .invokevirtual 223, 3), (20, .aload_n 0, 1), (21, .iconst 0, 1), (22, .aload_n 0, 1), (23, .getfield 7, 3), (26, .iconst 0, 1), (27, .iaload, 1), (28, .iconst 1, 1), (29, .isub, 1), (30, .invokevirtual 251, 3), (33, .aload_n 0, 1), (34, .getfield 220, 3), (37, .istore_n 1, 1), (38, .aload_n 0, 1), (39, .aload_n 0, 1), (40, .invokevirtual 227, 3), (43, .ldc2_w 259, 3), (46, .lcmp, 1), (47, .ifCond .ne 7, 3), (50, .iconst 1, 1), (51, .goto 4, 3), (54, .iconst 0, 1), (55, .invokevirtual 223, 3), (58, .aload_n 0, 1), (59, .iconst 0, 1), (60, .aload_n 0, 1), (61, .getfield 7, 3), (64, .iconst 0, 1), (65, .iaload, 1), (66, .iconst 1, 1), (67, .isub, 1), (68, .invokevirtual 251, 3), (71, .aload_n 0, 1), (72, .getfield 209, 3), (75, .ifCond .ne 18, 3), (78, .aload_n 0, 1), (79, .getfield 7, 3), (82, .iload_n 1, 1), (83, .bipush 7, 2), (85, .invokestatic 52, 3), (88, .aload_n 0, 1), (89, .getfield 220, 3), (92, .iastore, 1), (93, .return_, 1)])
def ab_m217 : ab_I := (⟨"StairRowModel", "item", "()V"⟩, prog_8_method_82_code, 2, none, 6, false, 1, 7, (1314, 1313, 125, 105), [(0, .aload_n 0, 1), (1, .invokevirtual 261, 3), (4, .istore_n 1, 1), (5, .iload_n 1, 1), (6, .ifCond .lt 11, 3), (9, .aload_n 0, 1), (10, .iload_n 1, 1), (11, .invokevirtual 264, 3), (14, .goto 91, 3), (17, .aload_n 0, 1), (18, .invokevirtual 227, 3), (21, .ldc2_w 268, 3), (24, .lcmp, 1), (25, .ifCond .ne 11, 3), (28, .aload_n 0, 1), (29, .iconst 2, 1), (30, .invokevirtual 270, 3), (33, .goto 72, 3), (36, .aload_n 0, 1), (37, .invokevirtual 227, 3), (40, .ldc2_w 273, 3), (43, .lcmp, 1), (44, .ifCond .ne 11, 3), (47, .aload_n 0, 1), (48, .iconst 5, 1), (49, .invokevirtual 270, 3), (52, .goto 53, 3), (55, .aload_n 0, 1), (56, .invokevirtual 227, 3), (59, .ldc2_w 275, 3), (62, .lcmp, 1), (63, .ifCond .ne 38, 3), (66, .aload_n 0, 1), (67, .iconst 1, 1), (68, .invokevirtual 223, 3), (71, .aload_n 0, 1), (72, .iconst 0, 1), (73, .bipush 13, 2), (75, .invokevirtual 251, 3), (78, .aload_n 0, 1), (79, .getfield 209, 3), (82, .ifCond .ne 23, 3), (85, .aload_n 0, 1), (86, .getfield 7, 3), (89, .bipush 66, 2), (91, .aload_n 0, 1), (92, .getfield 220, 3), (95, .iadd, 1), (96, .iconst 1, 1), (97, .iastore, 1), (98, .goto 7, 3), (101, .aload_n 0, 1), (102, .invokevirtual 277, 3), (105, .return_, 1)])
def ab_m218 : ab_I := (⟨"StairRowModel", "text", "()I"⟩, prog_8_method_83_code, 2, some .int, 6, false, 1, 8, (1292, 1290, 125, 1291), [(0, .aload_n 0, 1), (1, .invokevirtual 156, 3), (4, .aload_n 0, 1), (5, .iconst 0, 1), (6, .putfield 194, 3), (9, .aload_n 0, 1), (10, .iconst 0, 1), (11, .putfield 209, 3), (14, .aload_n 0, 1), (15, .invokevirtual 213, 3), (18, .iconst 1, 1), (19, .istore_n 1, 1), (20, .aload_n 0, 1), (21, .invokevirtual 280, 3), (24, .aload_n 0, 1), (25, .getfield 209, 3), (28, .ifCond .ne 46, 3), (31, .aload_n 0, 1), (32, .getfield 197, 3), (35, .aload_n 0, 1), (36, .getfield 182, 3), (39, .if_icmp .ge 35, 3), (42, .aload_n 0, 1), (43, .aload_n 0, 1), (44, .aload_n 0, 1), (45, .getfield 197, 3), (48, .invokevirtual 200, 3), (51, .bipush 59, 2), (53, .if_icmp .ne 7, 3), (56, .iconst 1, 1), (57, .goto 4, 3), (60, .iconst 0, 1), (61, .invokevirtual 223, 3), (64, .aload_n 0, 1), (65, .invokevirtual 280, 3), (68, .iinc 1 1, 3), (71, .goto (-47), 3), (74, .aload_n 0, 1), (75, .iconst 0, 1), (76, .putfield 182, 3), (79, .aload_n 0, 1), (80, .getfield 209, 3), (83, .ifCond .eq 14, 3), (86, .aload_n 0, 1), (87, .invokevirtual 168, 3), (90, .iconst (-1), 1), (91, .aload_n 0, 1), (92, .getfield 197, 3), (95, .isub, 1), (96, .ireturn, 1), (97, .iload_n 1, 1), (98, .ireturn, 1)])
def ab_m219 : ab_I := (⟨"StairRowModel", "hold", "(II)I"⟩, prog_8_method_84_code, 3, some .int, 6, false, 3, 3, (1365, 1363, 125, 1364), [(0, .iload_n 1, 1), (1, .i2l, 1), (2, .lconst 0, 1), (3, .ldc2_w 78, 3), (6, .invokestatic 41, 3), (9, .ifCond .eq 16, 3), (12, .iload_n 2, 1), (13, .iconst (-1), 1), (14, .if_icmp .eq 18, 3), (17, .aload_n 0, 1), (18, .iload_n 2, 1), (19, .invokevirtual 66, 3), (22, .ifCond .ne 10, 3), (25, .aload_n 0, 1), (26, .ldc 40, 2), (28, .invokevirtual 58, 3), (31, .ireturn, 1), (32, .aload_n 0, 1), (33, .getfield 7, 3), (36, .bipush 80, 2), (38, .iload_n 1, 1), (39, .iadd, 1), (40, .iload_n 2, 1), (41, .iastore, 1), (42, .iconst 1, 1), (43, .ireturn, 1)])
def ab_m220 : ab_I := (⟨"StairRowModel", "as", "(II)I"⟩, prog_8_method_85_code, 6, some .int, 6, false, 3, 3, (1369, 1367, 125, 1368), [(0, .iload_n 1, 1), (1, .i2l, 1), (2, .lconst 0, 1), (3, .ldc2_w 78, 3), (6, .invokestatic 41, 3), (9, .ifCond .eq 15, 3), (12, .iload_n 2, 1), (13, .i2l, 1), (14, .lconst 0, 1), (15, .ldc2_w 56, 3), (18, .invokestatic 41, 3), (21, .ifCond .ne 10, 3), (24, .aload_n 0, 1), (25, .ldc 40, 2), (27, .invokevirtual 58, 3), (30, .ireturn, 1), (31, .aload_n 0, 1), (32, .getfield 7, 3), (35, .bipush 80, 2), (37, .iload_n 1, 1), (38, .iadd, 1), (39, .iaload, 1), (40, .istore_n 3, 1), (41, .iload_n 3, 1), (42, .ifCond .ge 11, 3), (45, .aload_n 0, 1), (46, .ldc_w 283, 3), (49, .invokevirtual 58, 3), (52, .ireturn, 1), (53, .aload_n 0, 1), (54, .iload_n 3, 1), (55, .iconst 0, 1), (56, .invokevirtual 72, 3), (59, .istore 4, 2), (61, .iload_n 2, 1), (62, .ifCond .eq 38, 3), (65, .iload 4, 2), (67, .iload_n 2, 1), (68, .if_icmp .eq 32, 3), (71, .iload_n 2, 1), (72, .iconst 1, 1), (73, .if_icmp .ne 16, 3), (76, .iload 4, 2), (78, .iconst 4, 1), (79, .if_icmp .eq 21, 3), (82, .iload 4, 2), (84, .bipush 6, 2), (86, .if_icmp .eq 14, 3), (89, .iload_n 2, 1), (90, .iconst 2, 1), (91, .if_icmp .ne 13, 3), (94, .iload 4, 2), (96, .iconst 3, 1), (97, .if_icmp .ne 7, 3), (100, .iconst 1, 1), (101, .goto 4, 3), (104, .iconst 0, 1), (105, .istore 5, 2), (107, .iload 5, 2), (109, .ifCond .eq 7, 3), (112, .iload_n 3, 1), (113, .goto 10, 3), (116, .aload_n 0, 1), (117, .ldc_w 284, 3), (120, .invokevirtual 58, 3), (123, .ireturn, 1)])
def ab_m221 : ab_I := (⟨"StairRowModel", "isOne", "(I)Z"⟩, prog_8_method_86_code, 1, some .boolean, 6, true, 1, 2, (1378, 1377, 125, 0), [(0, .iload_n 0, 1), (1, .i2l, 1), (2, .lconst 0, 1), (3, .ldc2_w 285, 3), (6, .invokestatic 41, 3), (9, .ireturn, 1)])
def ab_m222 : ab_I := (⟨"StairRowModel", "sheet", "(III)I"⟩, prog_8_method_87_code, 5, some .int, 6, false, 4, 3, (1375, 1373, 125, 1374), [(0, .iload_n 1, 1), (1, .invokestatic 287, 3), (4, .ifCond .eq 25, 3), (7, .iload_n 2, 1), (8, .ifCond .eq 28, 3), (11, .iload_n 2, 1), (12, .bipush 8, 2), (14, .if_icmp .eq 22, 3), (17, .iload_n 2, 1), (18, .bipush 16, 2), (20, .if_icmp .eq 16, 3), (23, .iload_n 2, 1), (24, .bipush 32, 2), (26, .if_icmp .eq 10, 3), (29, .aload_n 0, 1), (30, .ldc 40, 2), (32, .invokevirtual 58, 3), (35, .ireturn, 1), (36, .iload_n 3, 1), (37, .ifCond .ge 11, 3), (40, .aload_n 0, 1), (41, .ldc_w 290, 3), (44, .invokevirtual 58, 3), (47, .ireturn, 1), (48, .iload_n 3, 1), (49, .bipush 40, 2), (51, .if_icmp .le 10, 3), (54, .aload_n 0, 1), (55, .ldc 40, 2), (57, .invokevirtual 58, 3), (60, .ireturn, 1), (61, .aload_n 0, 1), (62, .getfield 28, 3), (65, .iload_n 1, 1), (66, .iload_n 2, 1), (67, .iastore, 1), (68, .aload_n 0, 1), (69, .getfield 31, 3), (72, .iload_n 1, 1), (73, .iload_n 2, 1), (74, .ifCond .ne 7, 3), (77, .iconst 0, 1), (78, .goto 4, 3), (81, .iload_n 3, 1), (82, .iastore, 1), (83, .iconst 0, 1), (84, .istore 4, 2), (86, .iload 4, 2), (88, .bipush 40, 2), (90, .if_icmp .ge 22, 3), (93, .aload_n 0, 1), (94, .getfield 34, 3), (97, .bipush 40, 2), (99, .iload_n 1, 1), (100, .imul, 1), (101, .iload 4, 2), (103, .iadd, 1), (104, .iconst 0, 1), (105, .iastore, 1), (106, .iinc 4 1, 3), (109, .goto (-23), 3), (112, .aload_n 0, 1), (113, .getfield 31, 3), (116, .iload_n 1, 1), (117, .iaload, 1), (118, .ireturn, 1)])
def ab_m223 : ab_I := (⟨"StairRowModel", "narrowed", "(II)I"⟩, prog_8_method_88_code, 2, some .int, 6, true, 2, 1, (1391, 1390, 125, 0), [(0, .iload_n 0, 1), (1, .bipush 8, 2), (3, .if_icmp .ne 8, 3), (6, .iload_n 1, 1), (7, .i2b, 1), (8, .goto 15, 3), (11, .iload_n 0, 1), (12, .bipush 16, 2), (14, .if_icmp .ne 8, 3), (17, .iload_n 1, 1), (18, .i2s, 1), (19, .goto 4, 3), (22, .iload_n 1, 1), (23, .ireturn, 1)])
def ab_m224 : ab_I := (⟨"StairRowModel", "wrong", "(I)I"⟩, prog_8_method_89_code, 2, some .int, 6, false, 2, 3, (1388, 1387, 125, 113), [(0, .iload_n 1, 1), (1, .invokestatic 287, 3), (4, .ifCond .ne 8, 3), (7, .ldc 40, 2), (9, .goto 19, 3), (12, .aload_n 0, 1), (13, .getfield 28, 3), (16, .iload_n 1, 1), (17, .iaload, 1), (18, .ifCond .ne 9, 3), (21, .ldc_w 283, 3), (24, .goto 4, 3), (27, .iconst 0, 1), (28, .ireturn, 1)])
def ab_m225 : ab_I := (⟨"StairRowModel", "write", "(III)I"⟩, prog_8_method_90_code, 5, some .int, 6, false, 4, 4, (1384, 1382, 125, 1383), [(0, .aload_n 0, 1), (1, .iload_n 1, 1), (2, .invokevirtual 291, 3), (5, .istore 4, 2), (7, .iload 4, 2), (9, .ifCond .eq 10, 3), (12, .aload_n 0, 1), (13, .iload 4, 2), (15, .invokevirtual 58, 3), (18, .ireturn, 1), (19, .iload_n 2, 1), (20, .i2l, 1), (21, .lconst 0, 1), (22, .aload_n 0, 1), (23, .getfield 31, 3), (26, .iload_n 1, 1), (27, .iaload, 1), (28, .iconst 1, 1), (29, .isub, 1), (30, .i2l, 1), (31, .invokestatic 41, 3), (34, .ifCond .ne 10, 3), (37, .aload_n 0, 1), (38, .ldc 40, 2), (40, .invokevirtual 58, 3), (43, .ireturn, 1), (44, .aload_n 0, 1), (45, .getfield 34, 3), (48, .bipush 40, 2), (50, .iload_n 1, 1), (51, .imul, 1), (52, .iload_n 2, 1), (53, .iadd, 1), (54, .aload_n 0, 1), (55, .getfield 28, 3), (58, .iload_n 1, 1), (59, .iaload, 1), (60, .iload_n 3, 1), (61, .invokestatic 294, 3), (64, .iastore, 1), (65, .iconst 1, 1), (66, .ireturn, 1)])
def ab_m226 : ab_I := (⟨"StairRowModel", "copy", "(IIIII)I"⟩, prog_8_method_91_code, 7, some .int, 6, false, 6, 3, (1395, 1393, 125, 1394), [(0, .iload_n 1, 1), (1, .invokestatic 287, 3), (4, .ifCond .eq 10, 3), (7, .iload_n 3, 1), (8, .invokestatic 287, 3), (11, .ifCond .ne 10, 3), (14, .aload_n 0, 1), (15, .ldc 40, 2), (17, .invokevirtual 58, 3), (20, .ireturn, 1), (21, .aload_n 0, 1), (22, .getfield 28, 3), (25, .iload_n 1, 1), (26, .iaload, 1), (27, .ifCond .eq 12, 3), (30, .aload_n 0, 1), (31, .getfield 28, 3), (34, .iload_n 3, 1), (35, .iaload, 1), (36, .ifCond .ne 11, 3), (39, .aload_n 0, 1), (40, .ldc_w 283, 3), (43, .invokevirtual 58, 3), (46, .ireturn, 1), (47, .aload_n 0, 1), (48, .getfield 28, 3), (51, .iload_n 1, 1), (52, .iaload, 1), (53, .aload_n 0, 1), (54, .getfield 28, 3), (57, .iload_n 3, 1), (58, .iaload, 1), (59, .if_icmp .eq 11, 3), (62, .aload_n 0, 1), (63, .ldc_w 284, 3), (66, .invokevirtual 58, 3), (69, .ireturn, 1), (70, .iload_n 2, 1), (71, .ifCond .lt 40, 3), (74, .iload 4, 2), (76, .ifCond .lt 35, 3), (79, .iload 5, 2), (81, .ifCond .lt 30, 3), (84, .iload 5, 2), (86, .aload_n 0, 1), (87, .getfield 31, 3), (90, .iload_n 1, 1), (91, .iaload, 1), (92, .iload_n 2, 1), (93, .isub, 1), (94, .if_icmp .gt 17, 3), (97, .iload 5, 2), (99, .aload_n 0, 1), (100, .getfield 31, 3), (103, .iload_n 3, 1), (104, .iaload, 1), (105, .iload 4, 2), (107, .isub, 1), (108, .if_icmp .le 10, 3), (111, .aload_n 0, 1), (112, .ldc 40, 2), (114, .invokevirtual 58, 3), (117, .ireturn, 1), (118, .iconst 0, 1), (119, .istore 6, 2), (121, .iload 6, 2), (123, .iload 5, 2), (125, .if_icmp .ge 30, 3), (128, .aload_n 0, 1), (129, .getfield 37, 3), (132, .iload 6, 2), (134, .aload_n 0, 1), (135, .getfield 34, 3), (138, .bipush 40, 2), (140, .iload_n 1, 1), (141, .imul, 1), (142, .iload_n 2, 1), (143, .iadd, 1), (144, .iload 6, 2), (146, .iadd, 1), (147, .iaload, 1), (148, .iastore, 1), (149, .iinc 6 1, 3), (152, .goto (-31), 3), (155, .iconst 0, 1), (156, .istore 6, 2), (158, .iload 6, 2), (160, .iload 5, 2), (162, .if_icmp .ge 31, 3), (165, .aload_n 0, 1), (166, .getfield 34, 3), (169, .bipush 40, 2), (171, .iload_n 3, 1), (172, .imul, 1), (173, .iload 4, 2), (175, .iadd, 1), (176, .iload 6, 2), (178, .iadd, 1), (179, .aload_n 0, 1), (180, .getfield 37, 3), (183, .iload 6, 2), (185, .iaload, 1), (186, .iastore, 1), (187, .iinc 6 1, 3), (190, .goto (-32), 3), (193, .iload 5, 2), (195, .ireturn, 1)])
def ab_m227 : ab_I := (⟨"StairRowModel", "load", "(I)I"⟩, prog_8_method_92_code, 4, some .int, 6, false, 2, 4, (1399, 1397, 125, 1398), [(0, .aload_n 0, 1), (1, .iload_n 1, 1), (2, .invokevirtual 291, 3), (5, .istore_n 2, 1), (6, .iload_n 2, 1), (7, .ifCond .eq 9, 3), (10, .aload_n 0, 1), (11, .iload_n 2, 1), (12, .invokevirtual 58, 3), (15, .ireturn, 1), (16, .iconst 0, 1), (17, .istore_n 3, 1), (18, .iload_n 3, 1), (19, .aload_n 0, 1), (20, .getfield 31, 3), (23, .iload_n 1, 1), (24, .iaload, 1), (25, .if_icmp .ge 44, 3), (28, .iload_n 3, 1), (29, .aload_n 0, 1), (30, .getfield 7, 3), (33, .iconst 0, 1), (34, .iaload, 1), (35, .if_icmp .ge 34, 3), (38, .aload_n 0, 1), (39, .getfield 7, 3), (42, .iload_n 3, 1), (43, .iconst 2, 1), (44, .invokestatic 52, 3), (47, .aload_n 0, 1), (48, .getfield 34, 3), (51, .bipush 40, 2), (53, .iload_n 1, 1), (54, .imul, 1), (55, .iload_n 3, 1), (56, .iadd, 1), (57, .iaload, 1), (58, .sipush 255, 3), (61, .iand, 1), (62, .iastore, 1), (63, .iinc 3 1, 3), (66, .goto (-48), 3), (69, .iload_n 3, 1), (70, .ireturn, 1)])
def ab_m228 : ab_I := (⟨"StairRowModel", "judge", "(III)I"⟩, prog_8_method_93_code, 9, some .int, 6, false, 4, 6, (1403, 1401, 125, 1402), [(0, .aload_n 0, 1), (1, .iload_n 1, 1), (2, .invokevirtual 291, 3), (5, .istore 4, 2), (7, .iload 4, 2), (9, .ifCond .eq 10, 3), (12, .aload_n 0, 1), (13, .iload 4, 2), (15, .invokevirtual 58, 3), (18, .ireturn, 1), (19, .aload_n 0, 1), (20, .iload_n 2, 1), (21, .iload_n 3, 1), (22, .invokevirtual 92, 3), (25, .ifCond .ne 10, 3), (28, .aload_n 0, 1), (29, .ldc 40, 2), (31, .invokevirtual 58, 3), (34, .ireturn, 1), (35, .aload_n 0, 1), (36, .iload_n 2, 1), (37, .iload_n 3, 1), (38, .invokevirtual 108, 3), (41, .istore 5, 2), (43, .aload_n 0, 1), (44, .invokevirtual 111, 3), (47, .iload 5, 2), (49, .iand, 1), (50, .istore 6, 2), (52, .iconst 0, 1), (53, .istore 7, 2), (55, .iconst (-1), 1), (56, .istore 8, 2), (58, .iload 7, 2), (60, .aload_n 0, 1), (61, .getfield 31, 3), (64, .iload_n 1, 1), (65, .iaload, 1), (66, .if_icmp .ge 73, 3), (69, .aload_n 0, 1), (70, .aload_n 0, 1), (71, .getfield 34, 3), (74, .bipush 40, 2), (76, .iload_n 1, 1), (77, .imul, 1), (78, .iload 7, 2), (80, .iadd, 1), (81, .iaload, 1), (82, .invokevirtual 102, 3), (85, .ifCond .eq 54, 3), (88, .iload 6, 2), (90, .aload_n 0, 1), (91, .getfield 34, 3), (94, .bipush 40, 2), (96, .iload_n 1, 1), (97, .imul, 1), (98, .iload 7, 2), (100, .iadd, 1), (101, .iaload, 1), (102, .invokestatic 47, 3), (105, .ifCond .eq 34, 3), (108, .aload_n 0, 1), (109, .getfield 34, 3), (112, .bipush 40, 2), (114, .iload_n 1, 1), (115, .imul, 1), (116, .iload 7, 2), (118, .iadd, 1), (119, .iaload, 1), (120, .istore 8, 2), (122, .aload_n 0, 1), (123, .iload 8, 2), (125, .invokevirtual 105, 3), (128, .iload 5, 2), (130, .iand, 1), (131, .istore 6, 2), (133, .iinc 7 1, 3), (136, .goto (-78), 3), (139, .iload 7, 2), (141, .aload_n 0, 1), (142, .getfield 31, 3), (145, .iload_n 1, 1), (146, .iaload, 1), (147, .if_icmp .ne 17, 3), (150, .iload 8, 2), (152, .aload_n 0, 1), (153, .iload_n 2, 1), (154, .invokevirtual 118, 3), (157, .if_icmp .ne 7, 3), (160, .iconst 0, 1), (161, .goto 7, 3), (164, .iconst 1, 1), (165, .iload 7, 2), (167, .iadd, 1), (168, .ireturn, 1)])
def ab_m229 : ab_I := (⟨"StairRowModel", "image", "()I"⟩, prog_8_method_94_code, 2, some .int, 6, false, 1, 1, (1407, 1405, 125, 1406), [(0, .iconst 0, 1), (1, .istore_n 1, 1), (2, .iload_n 1, 1), (3, .bipush 90, 2), (5, .if_icmp .ge 21, 3), (8, .aload_n 0, 1), (9, .getfield 13, 3), (12, .iload_n 1, 1), (13, .aload_n 0, 1), (14, .getfield 7, 3), (17, .iload_n 1, 1), (18, .iaload, 1), (19, .iastore, 1), (20, .iinc 1 1, 3), (23, .goto (-21), 3), (26, .aload_n 0, 1), (27, .iconst 1, 1), (28, .putfield 297, 3), (31, .iconst 1, 1), (32, .ireturn, 1)])
def ab_m230 : ab_I := (⟨"StairRowModel", "undo", "()I"⟩, prog_8_method_95_code, 2, some .int, 6, false, 1, 2, (1411, 1409, 125, 1410), [(0, .aload_n 0, 1), (1, .getfield 297, 3), (4, .ifCond .ne 10, 3), (7, .aload_n 0, 1), (8, .ldc 128, 2), (10, .invokevirtual 58, 3), (13, .ireturn, 1), (14, .iconst 0, 1), (15, .istore_n 1, 1), (16, .iload_n 1, 1), (17, .bipush 90, 2), (19, .if_icmp .ge 21, 3), (22, .aload_n 0, 1), (23, .getfield 7, 3), (26, .iload_n 1, 1), (27, .aload_n 0, 1), (28, .getfield 13, 3), (31, .iload_n 1, 1), (32, .iaload, 1), (33, .iastore, 1), (34, .iinc 1 1, 3), (37, .goto (-21), 3), (40, .aload_n 0, 1), (41, .getfield 7, 3), (44, .iconst 0, 1), (45, .iaload, 1), (46, .ireturn, 1)])
def ab_m231 : ab_I := (⟨"StairRowModel", "tear", "()I"⟩, prog_8_method_96_code, 2, some .int, 6, false, 1, 1, (1415, 1413, 125, 1414), [(0, .aload_n 0, 1), (1, .getfield 297, 3), (4, .ifCond .eq 7, 3), (7, .iconst 1, 1), (8, .goto 4, 3), (11, .iconst 0, 1), (12, .istore_n 1, 1), (13, .aload_n 0, 1), (14, .iconst 0, 1), (15, .putfield 297, 3), (18, .iload_n 1, 1), (19, .ireturn, 1)])
def ab_m232 : ab_I := (⟨"StairRowModel", "doors", "()I"⟩, prog_8_method_97_code, 3, some .int, 6, false, 1, 1, (1423, 1422, 125, 114), [(0, .iconst 0, 1), (1, .istore_n 1, 1), (2, .iconst 0, 1), (3, .istore_n 2, 1), (4, .iload_n 2, 1), (5, .bipush 14, 2), (7, .if_icmp .ge 21, 3), (10, .iload_n 1, 1), (11, .aload_n 0, 1), (12, .getfield 7, 3), (15, .bipush 66, 2), (17, .iload_n 2, 1), (18, .iadd, 1), (19, .iaload, 1), (20, .iadd, 1), (21, .istore_n 1, 1), (22, .iinc 2 1, 3), (25, .goto (-21), 3), (28, .iload_n 1, 1), (29, .ireturn, 1)])
def ab_m233 : ab_I := (⟨"StairRowModel", "stairs", "()I"⟩, prog_8_method_98_code, 3, some .int, 6, false, 1, 3, (1427, 1426, 125, 115), [(0, .iconst 0, 1), (1, .istore_n 1, 1), (2, .iconst 0, 1), (3, .istore_n 2, 1), (4, .iload_n 2, 1), (5, .aload_n 0, 1), (6, .getfield 7, 3), (9, .iconst 0, 1), (10, .iaload, 1), (11, .if_icmp .ge 26, 3), (14, .iload_n 1, 1), (15, .aload_n 0, 1), (16, .iload_n 2, 1), (17, .iconst 1, 1), (18, .invokevirtual 72, 3), (21, .ifCond .ge 7, 3), (24, .iconst 0, 1), (25, .goto 4, 3), (28, .iconst 1, 1), (29, .iadd, 1), (30, .istore_n 1, 1), (31, .iinc 2 1, 3), (34, .goto (-30), 3), (37, .iload_n 1, 1), (38, .ireturn, 1)])
def ab_m234 : ab_I := (⟨"StairRowModel", "sleepers", "()I"⟩, prog_8_method_99_code, 3, some .int, 6, false, 1, 3, (1431, 1430, 125, 116), [(0, .iconst 0, 1), (1, .istore_n 1, 1), (2, .iconst 0, 1), (3, .istore_n 2, 1), (4, .iload_n 2, 1), (5, .aload_n 0, 1), (6, .getfield 7, 3), (9, .iconst 0, 1), (10, .iaload, 1), (11, .if_icmp .ge 19, 3), (14, .iload_n 1, 1), (15, .aload_n 0, 1), (16, .iload_n 2, 1), (17, .bipush 6, 2), (19, .invokevirtual 72, 3), (22, .iadd, 1), (23, .istore_n 1, 1), (24, .iinc 2 1, 3), (27, .goto (-23), 3), (30, .iload_n 1, 1), (31, .ireturn, 1)])
def ab_m235 : ab_I := (⟨"StairRowModel", "held", "()I"⟩, prog_8_method_100_code, 3, some .int, 6, false, 1, 1, (1435, 1434, 125, 117), [(0, .iconst 0, 1), (1, .istore_n 1, 1), (2, .iconst 0, 1), (3, .istore_n 2, 1), (4, .iload_n 2, 1), (5, .bipush 10, 2), (7, .if_icmp .ge 29, 3), (10, .iload_n 1, 1), (11, .aload_n 0, 1), (12, .getfield 7, 3), (15, .bipush 80, 2), (17, .iload_n 2, 1), (18, .iadd, 1), (19, .iaload, 1), (20, .ifCond .ge 7, 3), (23, .iconst 0, 1), (24, .goto 4, 3), (27, .iconst 1, 1), (28, .iadd, 1), (29, .istore_n 1, 1), (30, .iinc 2 1, 3), (33, .goto (-29), 3), (36, .iload_n 1, 1), (37, .ireturn, 1)])
def ab_m236 : ab_I := (⟨"StairRowModel", "count", "(I)I"⟩, prog_8_method_101_code, 2, some .int, 6, false, 2, 4, (1419, 1417, 125, 1418), [(0, .iload_n 1, 1), (1, .tableswitch 82 0 6 #[43, 50, 55, 60, 65, 70, 77], 43), (44, .aload_n 0, 1), (45, .getfield 7, 3), (48, .iconst 0, 1), (49, .iaload, 1), (50, .ireturn, 1), (51, .aload_n 0, 1), (52, .invokevirtual 300, 3), (55, .ireturn, 1), (56, .aload_n 0, 1), (57, .invokevirtual 303, 3), (60, .ireturn, 1), (61, .aload_n 0, 1), (62, .invokevirtual 306, 3), (65, .ireturn, 1), (66, .aload_n 0, 1), (67, .getfield 182, 3), (70, .ireturn, 1), (71, .aload_n 0, 1), (72, .getfield 7, 3), (75, .iconst 1, 1), (76, .iaload, 1), (77, .ireturn, 1), (78, .aload_n 0, 1), (79, .invokevirtual 309, 3), (82, .ireturn, 1), (83, .aload_n 0, 1), (84, .ldc 40, 2), (86, .invokevirtual 58, 3), (89, .ireturn, 1)])
def ab_m237 : ab_I := (⟨"StairRowModel", "status", "(I)I"⟩, prog_8_method_102_code, 4, some .int, 6, false, 2, 2, (1439, 1437, 125, 1438), [(0, .iload_n 1, 1), (1, .i2l, 1), (2, .ldc2_w 83, 3), (5, .ldc2_w 56, 3), (8, .invokestatic 41, 3), (11, .ifCond .ne 10, 3), (14, .aload_n 0, 1), (15, .ldc 40, 2), (17, .invokevirtual 58, 3), (20, .ireturn, 1), (21, .iconst 0, 1), (22, .istore_n 2, 1), (23, .iconst 0, 1), (24, .istore_n 3, 1), (25, .iload_n 3, 1), (26, .bipush 7, 2), (28, .if_icmp .ge 31, 3), (31, .iload_n 2, 1), (32, .iload_n 1, 1), (33, .ifCond .lt 8, 3), (36, .iload_n 3, 1), (37, .iload_n 1, 1), (38, .if_icmp .ne 12, 3), (41, .aload_n 0, 1), (42, .getfield 19, 3), (45, .iload_n 3, 1), (46, .iaload, 1), (47, .goto 4, 3), (50, .iconst 0, 1), (51, .iadd, 1), (52, .istore_n 2, 1), (53, .iinc 3 1, 3), (56, .goto (-31), 3), (59, .iload_n 2, 1), (60, .ireturn, 1)])
def ab_m238 : ab_I := (⟨"java/lang/Integer", "bitCount", "(I)I"⟩, prog_9_method_49_code, 1, some .int, 11, true, 1, 1, (578, 577, 126, 0), [(0, .iload_n 0, 1), (1, .iload_n 0, 1), (2, .iconst 1, 1), (3, .iushr, 1), (4, .ldc_w 265, 3), (7, .iand, 1), (8, .isub, 1), (9, .istore_n 0, 1), (10, .iload_n 0, 1), (11, .ldc_w 266, 3), (14, .iand, 1), (15, .iload_n 0, 1), (16, .iconst 2, 1), (17, .iushr, 1), (18, .ldc_w 266, 3), (21, .iand, 1), (22, .iadd, 1), (23, .istore_n 0, 1), (24, .iload_n 0, 1), (25, .iload_n 0, 1), (26, .iconst 4, 1), (27, .iushr, 1), (28, .iadd, 1), (29, .ldc_w 267, 3), (32, .iand, 1), (33, .istore_n 0, 1), (34, .iload_n 0, 1), (35, .iload_n 0, 1), (36, .bipush 8, 2), (38, .iushr, 1), (39, .iadd, 1), (40, .istore_n 0, 1), (41, .iload_n 0, 1), (42, .iload_n 0, 1), (43, .bipush 16, 2), (45, .iushr, 1), (46, .iadd, 1), (47, .istore_n 0, 1), (48, .iload_n 0, 1), (49, .bipush 63, 2), (51, .iand, 1), (52, .ireturn, 1)])
def ab_m239 : ab_I := (⟨"java/lang/String", "length", "()I"⟩, prog_11_method_54_code, 1, some .int, 8, false, 1, 2, (748, 746, 128, 747), [(0, .aload_n 0, 1), (1, .getfield 9, 3), (4, .arraylength, 1), (5, .aload_n 0, 1), (6, .invokevirtual 335, 3), (9, .ishr, 1), (10, .ireturn, 1)])
def ab_m240 : ab_I := (⟨"java/lang/String", "charAt", "(I)C"⟩, prog_11_method_56_code, 2, some .char, 8, false, 2, 4, (758, 756, 128, 757), [(0, .aload_n 0, 1), (1, .invokevirtual 492, 3), (4, .ifCond .eq 12, 3), (7, .aload_n 0, 1), (8, .getfield 9, 3), (11, .iload_n 1, 1), (12, .invokestatic 495, 3), (15, .ireturn, 1), (16, .aload_n 0, 1), (17, .getfield 9, 3), (20, .iload_n 1, 1), (21, .invokestatic 498, 3), (24, .ireturn, 1)])
def ab_m241 : ab_I := (⟨"java/lang/String", "coder", "()B"⟩, prog_11_method_152_code, 1, some .byte, 8, false, 1, 1, (752, 750, 128, 751), [(0, .getstatic 38, 3), (3, .ifCond .eq 10, 3), (6, .aload_n 0, 1), (7, .getfield 15, 3), (10, .goto 4, 3), (13, .iconst 1, 1), (14, .ireturn, 1)])
def ab_m242 : ab_I := (⟨"java/lang/String", "isLatin1", "()Z"⟩, prog_11_method_154_code, 1, some .boolean, 8, false, 1, 1, (762, 760, 128, 761), [(0, .getstatic 38, 3), (3, .ifCond .eq 14, 3), (6, .aload_n 0, 1), (7, .getfield 15, 3), (10, .ifCond .ne 7, 3), (13, .iconst 1, 1), (14, .goto 4, 3), (17, .iconst 0, 1), (18, .ireturn, 1)])
def ab_m243 : ab_I := (⟨"java/lang/String", "checkIndex", "(II)V"⟩, prog_11_method_155_code, 2, none, 8, true, 2, 2, (768, 767, 128, 0), [(0, .iload_n 0, 1), (1, .iload_n 1, 1), (2, .getstatic 1053, 3), (5, .invokestatic 1059, 3), (8, .pop, 1), (9, .return_, 1)])
def ab_m244 : ab_I := (⟨"java/lang/StringLatin1", "charAt", "([BI)C"⟩, prog_12_method_2_code, 2, some .char, 9, true, 2, 3, (765, 764, 129, 0), [(0, .iload_n 1, 1), (1, .aload_n 0, 1), (2, .arraylength, 1), (3, .invokestatic 9, 3), (6, .aload_n 0, 1), (7, .iload_n 1, 1), (8, .baload, 1), (9, .sipush 255, 3), (12, .iand, 1), (13, .i2c, 1), (14, .ireturn, 1)])
def ab_m245 : ab_I := (⟨"jdk/internal/util/Preconditions", "checkIndex", "(IILjava/util/function/BiFunction;)I"⟩, prog_15_method_11_code, 3, some .int, 10, true, 3, 1, (773, 772, 130, 0), [(0, .iload_n 0, 1), (1, .ifCond .lt 8, 3), (4, .iload_n 0, 1), (5, .iload_n 1, 1), (6, .if_icmp .lt 10, 3), (9, .aload_n 2, 1), (10, .iload_n 0, 1), (11, .iload_n 1, 1), (12, .invokestatic 95, 3), (15, .athrow, 1), (16, .iload_n 0, 1), (17, .ireturn, 1)])
def ab_m246 : ab_I := (⟨"StairRowLaw", "law", "([I)Z"⟩, code, 4, some .boolean, 7, true, 1, 11, (0, 0, 118, 0), [(0, .new 7, 3), (3, .dup, 1), (4, .invokespecial 9, 3), (7, .astore_n 1, 1), (8, .new 10, 3), (11, .dup, 1), (12, .invokespecial 12, 3), (15, .astore_n 2, 1), (16, .iconst 0, 1), (17, .istore_n 3, 1), (18, .iload_n 3, 1), (19, .aload_n 0, 1), (20, .arraylength, 1), (21, .bipush 6, 2), (23, .isub, 1), (24, .if_icmp .gt 1614, 3), (27, .aload_n 0, 1), (28, .iload_n 3, 1), (29, .iaload, 1), (30, .bipush 63, 2), (32, .iand, 1), (33, .tableswitch 1599 0 45 #[199, 222, 255, 298, 331, 400, 449, 492, 525, 548, 591, 634, 677, 710, 733, 756, 779, 802, 835, 868, 901, 924, 967, 990, 1043, 1066, 1079, 1092, 1115, 1128, 1151, 1174, 1207, 1220, 1233, 1266, 1299, 1342, 1385, 1448, 1471, 1514, 1527, 1540, 1553, 1576], 199), (232, .aload_n 1, 1), (233, .aload_n 0, 1), (234, .iload_n 3, 1), (235, .iconst 1, 1), (236, .iadd, 1), (237, .iaload, 1), (238, .invokevirtual 13, 3), (241, .aload_n 2, 1), (242, .aload_n 0, 1), (243, .iload_n 3, 1), (244, .iconst 1, 1), (245, .iadd, 1), (246, .iaload, 1), (247, .invokevirtual 17, 3), (250, .if_icmp .eq 1382, 3), (253, .iconst 0, 1), (254, .ireturn, 1), (255, .aload_n 1, 1), (256, .aload_n 0, 1), (257, .iload_n 3, 1), (258, .iconst 1, 1), (259, .iadd, 1), (260, .iaload, 1), (261, .aload_n 0, 1), (262, .iload_n 3, 1), (263, .iconst 2, 1), (264, .iadd, 1), (265, .iaload, 1), (266, .invokevirtual 18, 3), (269, .aload_n 2, 1), (270, .aload_n 0, 1), (271, .iload_n 3, 1), (272, .iconst 1, 1), (273, .iadd, 1), (274, .iaload, 1), (275, .aload_n 0, 1), (276, .iload_n 3, 1), (277, .iconst 2, 1), (278, .iadd, 1), (279, .iaload, 1), (280, .invokevirtual 22, 3), (283, .if_icmp .eq 1349, 3), (286, .iconst 0, 1), (287, .ireturn, 1), (288, .aload_n 1, 1), (289, .aload_n 0, 1), (290, .iload_n 3, 1), (291, .iconst 1, 1), (292, .iadd, 1), (293, .iaload, 1), (294, .aload_n 0, 1), (295, .iload_n 3, 1), (296, .iconst 2, 1), (297, .iadd, 1), (298, .iaload, 1), (299, .aload_n 0, 1), (300, .iload_n 3, 1), (301, .iconst 3, 1), (302, .iadd, 1), (303, .iaload, 1), (304, .invokevirtual 23, 3), (307, .aload_n 2, 1), (308, .aload_n 0, 1), (309, .iload_n 3, 1), (310, .iconst 1, 1), (311, .iadd, 1), (312, .iaload, 1), (313, .aload_n 0, 1), (314, .iload_n 3, 1), (315, .iconst 2, 1), (316, .iadd, 1), (317, .iaload, 1), (318, .aload_n 0, 1), (319, .iload_n 3, 1), (320, .iconst 3, 1), (321, .iadd, 1), (322, .iaload, 1), (323, .invokevirtual 27, 3), (326, .if_icmp .eq 1306, 3), (329, .iconst 0, 1), (330, .ireturn, 1), (331, .aload_n 1, 1), (332, .aload_n 0, 1), (333, .iload_n 3, 1), (334, .iconst 1, 1), (335, .iadd, 1), (336, .iaload, 1), (337, .aload_n 0, 1), (338, .iload_n 3, 1), (339, .iconst 2, 1), (340, .iadd, 1), (341, .iaload, 1), (342, .invokevirtual 28, 3), (345, .aload_n 2, 1), (346, .aload_n 0, 1), (347, .iload_n 3, 1), (348, .iconst 1, 1), (349, .iadd, 1), (350, .iaload, 1), (351, .aload_n 0, 1), (352, .iload_n 3, 1), (353, .iconst 2, 1), (354, .iadd, 1), (355, .iaload, 1), (356, .invokevirtual 31, 3), (359, .if_icmp .eq 1273, 3), (362, .iconst 0, 1), (363, .ireturn, 1), (364, .aload_n 1, 1), (365, .aload_n 0, 1), (366, .iload_n 3, 1), (367, .iconst 1, 1), (368, .iadd, 1), (369, .iaload, 1), (370, .aload_n 0, 1), (371, .iload_n 3, 1), (372, .iconst 2, 1), (373, .iadd, 1), (374, .iaload, 1), (375, .aload_n 0, 1), (376, .iload_n 3, 1), (377, .iconst 3, 1), (378, .iadd, 1), (379, .iaload, 1), (380, .aload_n 0, 1), (381, .iload_n 3, 1), (382, .iconst 4, 1), (383, .iadd, 1), (384, .iaload, 1), (385, .ifCond .eq 7, 3), (388, .iconst 1, 1), (389, .goto 4, 3), (392, .iconst 0, 1), (393, .invokevirtual 32, 3), (396, .aload_n 2, 1), (397, .aload_n 0, 1), (398, .iload_n 3, 1), (399, .iconst 1, 1), (400, .iadd, 1), (401, .iaload, 1), (402, .aload_n 0, 1), (403, .iload_n 3, 1), (404, .iconst 2, 1), (405, .iadd, 1), (406, .iaload, 1), (407, .aload_n 0, 1), (408, .iload_n 3, 1), (409, .iconst 3, 1), (410, .iadd, 1), (411, .iaload, 1), (412, .aload_n 0, 1), (413, .iload_n 3, 1), (414, .iconst 4, 1), (415, .iadd, 1), (416, .iaload, 1), (417, .ifCond .eq 7, 3), (420, .iconst 1, 1), (421, .goto 4, 3), (424, .iconst 0, 1), (425, .invokevirtual 36, 3), (428, .if_icmp .eq 1204, 3), (431, .iconst 0, 1), (432, .ireturn, 1), (433, .aload_n 1, 1), (434, .aload_n 0, 1), (435, .iload_n 3, 1), (436, .iconst 1, 1), (437, .iadd, 1), (438, .iaload, 1), (439, .aload_n 0, 1), (440, .iload_n 3, 1), (441, .iconst 2, 1), (442, .iadd, 1), (443, .iaload, 1), (444, .ifCond .eq 7, 3), (447, .iconst 1, 1), (448, .goto 4, 3), (451, .iconst 0, 1), (452, .invokevirtual 37, 3), (455, .aload_n 2, 1), (456, .aload_n 0, 1), (457, .iload_n 3, 1), (458, .iconst 1, 1), (459, .iadd, 1), (460, .iaload, 1), (461, .aload_n 0, 1), (462, .iload_n 3, 1), (463, .iconst 2, 1), (464, .iadd, 1), (465, .iaload, 1), (466, .ifCond .eq 7, 3), (469, .iconst 1, 1), (470, .goto 4, 3), (473, .iconst 0, 1), (474, .invokevirtual 41, 3), (477, .if_icmp .eq 1155, 3), (480, .iconst 0, 1), (481, .ireturn, 1), (482, .aload_n 1, 1), (483, .aload_n 0, 1), (484, .iload_n 3, 1), (485, .iconst 1, 1), (486, .iadd, 1), (487, .iaload, 1), (488, .aload_n 0, 1), (489, .iload_n 3, 1), (490, .iconst 2, 1), (491, .iadd, 1), (492, .iaload, 1), (493, .aload_n 0, 1), (494, .iload_n 3, 1), (495, .iconst 3, 1), (496, .iadd, 1), (497, .iaload, 1), (498, .invokevirtual 42, 3), (501, .aload_n 2, 1), (502, .aload_n 0, 1), (503, .iload_n 3, 1), (504, .iconst 1, 1), (505, .iadd, 1), (506, .iaload, 1), (507, .aload_n 0, 1), (508, .iload_n 3, 1), (509, .iconst 2, 1), (510, .iadd, 1), (511, .iaload, 1), (512, .aload_n 0, 1), (513, .iload_n 3, 1), (514, .iconst 3, 1), (515, .iadd, 1), (516, .iaload, 1), (517, .invokevirtual 45, 3), (520, .if_icmp .eq 1112, 3), (523, .iconst 0, 1), (524, .ireturn, 1), (525, .aload_n 1, 1), (526, .aload_n 0, 1), (527, .iload_n 3, 1), (528, .iconst 1, 1), (529, .iadd, 1), (530, .iaload, 1), (531, .aload_n 0, 1), (532, .iload_n 3, 1), (533, .iconst 2, 1), (534, .iadd, 1), (535, .iaload, 1), (536, .invokevirtual 46, 3), (539, .aload_n 2, 1), (540, .aload_n 0, 1), (541, .iload_n 3, 1), (542, .iconst 1, 1), (543, .iadd, 1), (544, .iaload, 1), (545, .aload_n 0, 1), (546, .iload_n 3, 1), (547, .iconst 2, 1), (548, .iadd, 1), (549, .iaload, 1), (550, .invokevirtual 49, 3), (553, .if_icmp .eq 1079, 3), (556, .iconst 0, 1), (557, .ireturn, 1), (558, .aload_n 1, 1), (559, .aload_n 0, 1), (560, .iload_n 3, 1), (561, .iconst 1, 1), (562, .iadd, 1), (563, .iaload, 1), (564, .invokevirtual 50, 3), (567, .aload_n 2, 1), (568, .aload_n 0, 1), (569, .iload_n 3, 1), (570, .iconst 1, 1), (571, .iadd, 1), (572, .iaload, 1), (573, .invokevirtual 53, 3), (576, .if_icmp .eq 1056, 3), (579, .iconst 0, 1), (580, .ireturn, 1), (581, .aload_n 1, 1), (582, .aload_n 0, 1), (583, .iload_n 3, 1), (584, .iconst 1, 1), (585, .iadd, 1), (586, .iaload, 1), (587, .aload_n 0, 1), (588, .iload_n 3, 1), (589, .iconst 2, 1), (590, .iadd, 1), (591, .iaload, 1), (592, .aload_n 0, 1), (593, .iload_n 3, 1), (594, .iconst 3, 1), (595, .iadd, 1), (596, .iaload, 1), (597, .invokevirtual 54, 3), (600, .aload_n 2, 1), (601, .aload_n 0, 1), (602, .iload_n 3, 1), (603, .iconst 1, 1), (604, .iadd, 1), (605, .iaload, 1), (606, .aload_n 0, 1), (607, .iload_n 3, 1), (608, .iconst 2, 1), (609, .iadd, 1), (610, .iaload, 1), (611, .aload_n 0, 1), (612, .iload_n 3, 1), (613, .iconst 3, 1), (614, .iadd, 1), (615, .iaload, 1), (616, .invokevirtual 57, 3), (619, .if_icmp .eq 1013, 3), (622, .iconst 0, 1), (623, .ireturn, 1), (624, .aload_n 1, 1), (625, .aload_n 0, 1), (626, .iload_n 3, 1), (627, .iconst 1, 1), (628, .iadd, 1), (629, .iaload, 1), (630, .aload_n 0, 1), (631, .iload_n 3, 1), (632, .iconst 2, 1), (633, .iadd, 1), (634, .iaload, 1), (635, .aload_n 0, 1), (636, .iload_n 3, 1), (637, .iconst 3, 1), (638, .iadd, 1), (639, .iaload, 1), (640, .invokevirtual 58, 3), (643, .aload_n 2, 1), (644, .aload_n 0, 1), (645, .iload_n 3, 1), (646, .iconst 1, 1), (647, .iadd, 1), (648, .iaload, 1), (649, .aload_n 0, 1), (650, .iload_n 3, 1), (651, .iconst 2, 1), (652, .iadd, 1), (653, .iaload, 1), (654, .aload_n 0, 1), (655, .iload_n 3, 1), (656, .iconst 3, 1), (657, .iadd, 1), (658, .iaload, 1), (659, .invokevirtual 61, 3), (662, .if_icmp .eq 970, 3), (665, .iconst 0, 1), (666, .ireturn, 1), (667, .aload_n 1, 1), (668, .aload_n 0, 1), (669, .iload_n 3, 1), (670, .iconst 1, 1), (671, .iadd, 1), (672, .iaload, 1), (673, .aload_n 0, 1), (674, .iload_n 3, 1), (675, .iconst 2, 1), (676, .iadd, 1), (677, .iaload, 1), (678, .aload_n 0, 1), (679, .iload_n 3, 1), (680, .iconst 3, 1), (681, .iadd, 1), (682, .iaload, 1), (683, .invokevirtual 62, 3), (686, .aload_n 2, 1), (687, .aload_n 0, 1), (688, .iload_n 3, 1), (689, .iconst 1, 1), (690, .iadd, 1), (691, .iaload, 1), (692, .aload_n 0, 1), (693, .iload_n 3, 1), (694, .iconst 2, 1), (695, .iadd, 1), (696, .iaload, 1), (697, .aload_n 0, 1), (698, .iload_n 3, 1), (699, .iconst 3, 1), (700, .iadd, 1), (701, .iaload, 1), (702, .invokevirtual 65, 3), (705, .if_icmp .eq 927, 3), (708, .iconst 0, 1), (709, .ireturn, 1), (710, .aload_n 1, 1), (711, .aload_n 0, 1), (712, .iload_n 3, 1), (713, .iconst 1, 1), (714, .iadd, 1), (715, .iaload, 1), (716, .aload_n 0, 1), (717, .iload_n 3, 1), (718, .iconst 2, 1), (719, .iadd, 1), (720, .iaload, 1), (721, .invokevirtual 66, 3), (724, .aload_n 2, 1), (725, .aload_n 0, 1), (726, .iload_n 3, 1), (727, .iconst 1, 1), (728, .iadd, 1), (729, .iaload, 1), (730, .aload_n 0, 1), (731, .iload_n 3, 1), (732, .iconst 2, 1), (733, .iadd, 1), (734, .iaload, 1), (735, .invokevirtual 69, 3), (738, .if_icmp .eq 894, 3), (741, .iconst 0, 1), (742, .ireturn, 1), (743, .aload_n 1, 1), (744, .aload_n 0, 1), (745, .iload_n 3, 1), (746, .iconst 1, 1), (747, .iadd, 1), (748, .iaload, 1), (749, .invokevirtual 70, 3), (752, .aload_n 2, 1), (753, .aload_n 0, 1), (754, .iload_n 3, 1), (755, .iconst 1, 1), (756, .iadd, 1), (757, .iaload, 1), (758, .invokevirtual 73, 3), (761, .if_icmp .eq 871, 3), (764, .iconst 0, 1), (765, .ireturn, 1), (766, .aload_n 1, 1), (767, .aload_n 0, 1), (768, .iload_n 3, 1), (769, .iconst 1, 1), (770, .iadd, 1), (771, .iaload, 1), (772, .invokevirtual 74, 3), (775, .aload_n 2, 1), (776, .aload_n 0, 1), (777, .iload_n 3, 1), (778, .iconst 1, 1), (779, .iadd, 1), (780, .iaload, 1), (781, .invokevirtual 77, 3), (784, .if_icmp .eq 848, 3), (787, .iconst 0, 1), (788, .ireturn, 1), (789, .aload_n 1, 1), (790, .aload_n 0, 1), (791, .iload_n 3, 1), (792, .iconst 1, 1), (793, .iadd, 1), (794, .iaload, 1), (795, .invokevirtual 78, 3), (798, .aload_n 2, 1), (799, .aload_n 0, 1), (800, .iload_n 3, 1), (801, .iconst 1, 1), (802, .iadd, 1), (803, .iaload, 1), (804, .invokevirtual 81, 3), (807, .if_icmp .eq 825, 3), (810, .iconst 0, 1), (811, .ireturn, 1), (812, .aload_n 1, 1), (813, .aload_n 0, 1), (814, .iload_n 3, 1), (815, .iconst 1, 1), (816, .iadd, 1), (817, .iaload, 1), (818, .invokevirtual 82, 3), (821, .aload_n 2, 1), (822, .aload_n 0, 1), (823, .iload_n 3, 1), (824, .iconst 1, 1), (825, .iadd, 1), (826, .iaload, 1), (827, .invokevirtual 85, 3), (830, .if_icmp .eq 802, 3), (833, .iconst 0, 1), (834, .ireturn, 1), (835, .aload_n 1, 1), (836, .aload_n 0, 1), (837, .iload_n 3, 1), (838, .iconst 1, 1), (839, .iadd, 1), (840, .iaload, 1), (841, .aload_n 0, 1), (842, .iload_n 3, 1), (843, .iconst 2, 1), (844, .iadd, 1), (845, .iaload, 1), (846, .invokevirtual 86, 3), (849, .aload_n 2, 1), (850, .aload_n 0, 1), (851, .iload_n 3, 1), (852, .iconst 1, 1), (853, .iadd, 1), (854, .iaload, 1), (855, .aload_n 0, 1), (856, .iload_n 3, 1), (857, .iconst 2, 1), (858, .iadd, 1), (859, .iaload, 1), (860, .invokevirtual 89, 3), (863, .if_icmp .eq 769, 3), (866, .iconst 0, 1), (867, .ireturn, 1), (868, .aload_n 1, 1), (869, .aload_n 0, 1), (870, .iload_n 3, 1), (871, .iconst 1, 1), (872, .iadd, 1), (873, .iaload, 1), (874, .aload_n 0, 1), (875, .iload_n 3, 1), (876, .iconst 2, 1), (877, .iadd, 1), (878, .iaload, 1), (879, .invokevirtual 90, 3), (882, .aload_n 2, 1), (883, .aload_n 0, 1), (884, .iload_n 3, 1), (885, .iconst 1, 1), (886, .iadd, 1), (887, .iaload, 1), (888, .aload_n 0, 1), (889, .iload_n 3, 1), (890, .iconst 2, 1), (891, .iadd, 1), (892, .iaload, 1), (893, .invokevirtual 93, 3), (896, .if_icmp .eq 736, 3), (899, .iconst 0, 1), (900, .ireturn, 1), (901, .aload_n 1, 1), (902, .aload_n 0, 1), (903, .iload_n 3, 1), (904, .iconst 1, 1), (905, .iadd, 1), (906, .iaload, 1), (907, .aload_n 0, 1), (908, .iload_n 3, 1), (909, .iconst 2, 1), (910, .iadd, 1), (911, .iaload, 1), (912, .invokevirtual 94, 3), (915, .aload_n 2, 1), (916, .aload_n 0, 1), (917, .iload_n 3, 1), (918, .iconst 1, 1), (919, .iadd, 1), (920, .iaload, 1), (921, .aload_n 0, 1), (922, .iload_n 3, 1), (923, .iconst 2, 1), (924, .iadd, 1), (925, .iaload, 1), (926, .invokevirtual 97, 3), (929, .if_icmp .eq 703, 3), (932, .iconst 0, 1), (933, .ireturn, 1), (934, .aload_n 1, 1), (935, .aload_n 0, 1), (936, .iload_n 3, 1), (937, .iconst 1, 1), (938, .iadd, 1), (939, .iaload, 1), (940, .invokevirtual 98, 3), (943, .aload_n 2, 1), (944, .aload_n 0, 1), (945, .iload_n 3, 1), (946, .iconst 1, 1), (947, .iadd, 1), (948, .iaload, 1), (949, .invokevirtual 101, 3), (952, .if_icmp .eq 680, 3), (955, .iconst 0, 1), (956, .ireturn, 1), (957, .aload_n 1, 1), (958, .aload_n 0, 1), (959, .iload_n 3, 1), (960, .iconst 1, 1), (961, .iadd, 1), (962, .iaload, 1), (963, .aload_n 0, 1), (964, .iload_n 3, 1), (965, .iconst 2, 1), (966, .iadd, 1), (967, .iaload, 1), (968, .aload_n 0, 1), (969, .iload_n 3, 1), (970, .iconst 3, 1), (971, .iadd, 1), (972, .iaload, 1), (973, .invokevirtual 102, 3), (976, .aload_n 2, 1), (977, .aload_n 0, 1), (978, .iload_n 3, 1), (979, .iconst 1, 1), (980, .iadd, 1), (981, .iaload, 1), (982, .aload_n 0, 1), (983, .iload_n 3, 1), (984, .iconst 2, 1), (985, .iadd, 1), (986, .iaload, 1), (987, .aload_n 0, 1), (988, .iload_n 3, 1), (989, .iconst 3, 1), (990, .iadd, 1), (991, .iaload, 1), (992, .invokevirtual 105, 3), (995, .if_icmp .eq 637, 3), (998, .iconst 0, 1), (999, .ireturn, 1), (1000, .aload_n 1, 1), (1001, .aload_n 0, 1), (1002, .iload_n 3, 1), (1003, .iconst 1, 1), (1004, .iadd, 1), (1005, .iaload, 1), (1006, .invokevirtual 106, 3), (1009, .aload_n 2, 1), (1010, .aload_n 0, 1), (1011, .iload_n 3, 1), (1012, .iconst 1, 1), (1013, .iadd, 1), (1014, .iaload, 1), (1015, .invokevirtual 109, 3), (1018, .if_icmp .eq 614, 3), (1021, .iconst 0, 1), (1022, .ireturn, 1), (1023, .aload_n 1, 1), (1024, .aload_n 0, 1), (1025, .iload_n 3, 1), (1026, .iconst 1, 1), (1027, .iadd, 1), (1028, .iaload, 1), (1029, .aload_n 0, 1), (1030, .iload_n 3, 1), (1031, .iconst 2, 1), (1032, .iadd, 1), (1033, .iaload, 1), (1034, .aload_n 0, 1), (1035, .iload_n 3, 1), (1036, .iconst 3, 1), (1037, .iadd, 1), (1038, .iaload, 1), (1039, .aload_n 0, 1), (1040, .iload_n 3, 1), (1041, .iconst 4, 1), (1042, .iadd, 1), (1043, .iaload, 1), (1044, .invokevirtual 110, 3), (1047, .aload_n 2, 1), (1048, .aload_n 0, 1), (1049, .iload_n 3, 1), (1050, .iconst 1, 1), (1051, .iadd, 1), (1052, .iaload, 1), (1053, .aload_n 0, 1), (1054, .iload_n 3, 1), (1055, .iconst 2, 1), (1056, .iadd, 1), (1057, .iaload, 1), (1058, .aload_n 0, 1), (1059, .iload_n 3, 1), (1060, .iconst 3, 1), (1061, .iadd, 1), (1062, .iaload, 1), (1063, .aload_n 0, 1), (1064, .iload_n 3, 1), (1065, .iconst 4, 1), (1066, .iadd, 1), (1067, .iaload, 1), (1068, .invokevirtual 114, 3), (1071, .if_icmp .eq 561, 3), (1074, .iconst 0, 1), (1075, .ireturn, 1), (1076, .aload_n 1, 1), (1077, .aload_n 0, 1), (1078, .iload_n 3, 1), (1079, .iconst 1, 1), (1080, .iadd, 1), (1081, .iaload, 1), (1082, .invokevirtual 115, 3), (1085, .aload_n 2, 1), (1086, .aload_n 0, 1), (1087, .iload_n 3, 1), (1088, .iconst 1, 1), (1089, .iadd, 1), (1090, .iaload, 1), (1091, .invokevirtual 118, 3), (1094, .if_icmp .eq 538, 3), (1097, .iconst 0, 1), (1098, .ireturn, 1), (1099, .aload_n 1, 1), (1100, .invokevirtual 119, 3), (1103, .aload_n 2, 1), (1104, .invokevirtual 123, 3), (1107, .if_icmp .eq 525, 3), (1110, .iconst 0, 1), (1111, .ireturn, 1), (1112, .aload_n 1, 1), (1113, .invokevirtual 124, 3), (1116, .aload_n 2, 1), (1117, .invokevirtual 127, 3), (1120, .if_icmp .eq 512, 3), (1123, .iconst 0, 1), (1124, .ireturn, 1), (1125, .aload_n 1, 1), (1126, .aload_n 0, 1), (1127, .iload_n 3, 1), (1128, .iconst 1, 1), (1129, .iadd, 1), (1130, .iaload, 1), (1131, .invokevirtual 128, 3), (1134, .aload_n 2, 1), (1135, .aload_n 0, 1), (1136, .iload_n 3, 1), (1137, .iconst 1, 1), (1138, .iadd, 1), (1139, .iaload, 1), (1140, .invokevirtual 131, 3), (1143, .if_icmp .eq 489, 3), (1146, .iconst 0, 1), (1147, .ireturn, 1), (1148, .aload_n 1, 1), (1149, .invokevirtual 132, 3), (1152, .aload_n 2, 1), (1153, .invokevirtual 135, 3), (1156, .if_icmp .eq 476, 3), (1159, .iconst 0, 1), (1160, .ireturn, 1), (1161, .aload_n 1, 1), (1162, .aload_n 0, 1), (1163, .iload_n 3, 1), (1164, .iconst 1, 1), (1165, .iadd, 1), (1166, .iaload, 1), (1167, .invokevirtual 136, 3), (1170, .aload_n 2, 1), (1171, .aload_n 0, 1), (1172, .iload_n 3, 1), (1173, .iconst 1, 1), (1174, .iadd, 1), (1175, .iaload, 1), (1176, .invokevirtual 139, 3), (1179, .if_icmp .eq 453, 3), (1182, .iconst 0, 1), (1183, .ireturn, 1), (1184, .aload_n 1, 1), (1185, .aload_n 0, 1), (1186, .iload_n 3, 1), (1187, .iconst 1, 1), (1188, .iadd, 1), (1189, .iaload, 1), (1190, .invokevirtual 140, 3), (1193, .aload_n 2, 1), (1194, .aload_n 0, 1), (1195, .iload_n 3, 1), (1196, .iconst 1, 1), (1197, .iadd, 1), (1198, .iaload, 1), (1199, .invokevirtual 143, 3), (1202, .if_icmp .eq 430, 3), (1205, .iconst 0, 1), (1206, .ireturn, 1), (1207, .aload_n 1, 1), (1208, .aload_n 0, 1), (1209, .iload_n 3, 1), (1210, .iconst 1, 1), (1211, .iadd, 1), (1212, .iaload, 1), (1213, .aload_n 0, 1), (1214, .iload_n 3, 1), (1215, .iconst 2, 1), (1216, .iadd, 1), (1217, .iaload, 1), (1218, .invokevirtual 144, 3), (1221, .aload_n 2, 1), (1222, .aload_n 0, 1), (1223, .iload_n 3, 1), (1224, .iconst 1, 1), (1225, .iadd, 1), (1226, .iaload, 1), (1227, .aload_n 0, 1), (1228, .iload_n 3, 1), (1229, .iconst 2, 1), (1230, .iadd, 1), (1231, .iaload, 1), (1232, .invokevirtual 147, 3), (1235, .if_icmp .eq 397, 3), (1238, .iconst 0, 1), (1239, .ireturn, 1), (1240, .aload_n 1, 1), (1241, .invokevirtual 148, 3), (1244, .aload_n 2, 1), (1245, .invokevirtual 151, 3), (1248, .if_icmp .eq 384, 3), (1251, .iconst 0, 1), (1252, .ireturn, 1), (1253, .aload_n 1, 1), (1254, .invokevirtual 152, 3), (1257, .aload_n 2, 1), (1258, .invokevirtual 155, 3), (1261, .if_icmp .eq 371, 3), (1264, .iconst 0, 1), (1265, .ireturn, 1), (1266, .aload_n 1, 1), (1267, .aload_n 0, 1), (1268, .iload_n 3, 1), (1269, .iconst 1, 1), (1270, .iadd, 1), (1271, .iaload, 1), (1272, .aload_n 0, 1), (1273, .iload_n 3, 1), (1274, .iconst 2, 1), (1275, .iadd, 1), (1276, .iaload, 1), (1277, .invokevirtual 156, 3), (1280, .aload_n 2, 1), (1281, .aload_n 0, 1), (1282, .iload_n 3, 1), (1283, .iconst 1, 1), (1284, .iadd, 1), (1285, .iaload, 1), (1286, .aload_n 0, 1), (1287, .iload_n 3, 1), (1288, .iconst 2, 1), (1289, .iadd, 1), (1290, .iaload, 1), (1291, .invokevirtual 159, 3), (1294, .if_icmp .eq 338, 3), (1297, .iconst 0, 1), (1298, .ireturn, 1), (1299, .aload_n 1, 1), (1300, .aload_n 0, 1), (1301, .iload_n 3, 1), (1302, .iconst 1, 1), (1303, .iadd, 1), (1304, .iaload, 1), (1305, .aload_n 0, 1), (1306, .iload_n 3, 1), (1307, .iconst 2, 1), (1308, .iadd, 1), (1309, .iaload, 1), (1310, .invokevirtual 160, 3), (1313, .aload_n 2, 1), (1314, .aload_n 0, 1), (1315, .iload_n 3, 1), (1316, .iconst 1, 1), (1317, .iadd, 1), (1318, .iaload, 1), (1319, .aload_n 0, 1), (1320, .iload_n 3, 1), (1321, .iconst 2, 1), (1322, .iadd, 1), (1323, .iaload, 1), (1324, .invokevirtual 163, 3), (1327, .if_icmp .eq 305, 3), (1330, .iconst 0, 1), (1331, .ireturn, 1), (1332, .aload_n 1, 1), (1333, .aload_n 0, 1), (1334, .iload_n 3, 1), (1335, .iconst 1, 1), (1336, .iadd, 1), (1337, .iaload, 1), (1338, .aload_n 0, 1), (1339, .iload_n 3, 1), (1340, .iconst 2, 1), (1341, .iadd, 1), (1342, .iaload, 1), (1343, .aload_n 0, 1), (1344, .iload_n 3, 1), (1345, .iconst 3, 1), (1346, .iadd, 1), (1347, .iaload, 1), (1348, .invokevirtual 164, 3), (1351, .aload_n 2, 1), (1352, .aload_n 0, 1), (1353, .iload_n 3, 1), (1354, .iconst 1, 1), (1355, .iadd, 1), (1356, .iaload, 1), (1357, .aload_n 0, 1), (1358, .iload_n 3, 1), (1359, .iconst 2, 1), (1360, .iadd, 1), (1361, .iaload, 1), (1362, .aload_n 0, 1), (1363, .iload_n 3, 1), (1364, .iconst 3, 1), (1365, .iadd, 1), (1366, .iaload, 1), (1367, .invokevirtual 167, 3), (1370, .if_icmp .eq 262, 3), (1373, .iconst 0, 1), (1374, .ireturn, 1), (1375, .aload_n 1, 1), (1376, .aload_n 0, 1), (1377, .iload_n 3, 1), (1378, .iconst 1, 1), (1379, .iadd, 1), (1380, .iaload, 1), (1381, .aload_n 0, 1), (1382, .iload_n 3, 1), (1383, .iconst 2, 1), (1384, .iadd, 1), (1385, .iaload, 1), (1386, .aload_n 0, 1), (1387, .iload_n 3, 1), (1388, .iconst 3, 1), (1389, .iadd, 1), (1390, .iaload, 1), (1391, .invokevirtual 168, 3), (1394, .aload_n 2, 1), (1395, .aload_n 0, 1), (1396, .iload_n 3, 1), (1397, .iconst 1, 1), (1398, .iadd, 1), (1399, .iaload, 1), (1400, .aload_n 0, 1), (1401, .iload_n 3, 1), (1402, .iconst 2, 1), (1403, .iadd, 1), (1404, .iaload, 1), (1405, .aload_n 0, 1), (1406, .iload_n 3, 1), (1407, .iconst 3, 1), (1408, .iadd, 1), (1409, .iaload, 1), (1410, .invokevirtual 171, 3), (1413, .if_icmp .eq 219, 3), (1416, .iconst 0, 1), (1417, .ireturn, 1), (1418, .aload_n 1, 1), (1419, .aload_n 0, 1), (1420, .iload_n 3, 1), (1421, .iconst 1, 1), (1422, .iadd, 1), (1423, .iaload, 1), (1424, .aload_n 0, 1), (1425, .iload_n 3, 1), (1426, .iconst 2, 1), (1427, .iadd, 1), (1428, .iaload, 1), (1429, .aload_n 0, 1), (1430, .iload_n 3, 1), (1431, .iconst 3, 1), (1432, .iadd, 1), (1433, .iaload, 1), (1434, .aload_n 0, 1), (1435, .iload_n 3, 1), (1436, .iconst 4, 1), (1437, .iadd, 1), (1438, .iaload, 1), (1439, .aload_n 0, 1), (1440, .iload_n 3, 1), (1441, .iconst 5, 1), (1442, .iadd, 1), (1443, .iaload, 1), (1444, .invokevirtual 172, 3), (1447, .aload_n 2, 1), (1448, .aload_n 0, 1), (1449, .iload_n 3, 1), (1450, .iconst 1, 1), (1451, .iadd, 1), (1452, .iaload, 1), (1453, .aload_n 0, 1), (1454, .iload_n 3, 1), (1455, .iconst 2, 1), (1456, .iadd, 1), (1457, .iaload, 1), (1458, .aload_n 0, 1), (1459, .iload_n 3, 1), (1460, .iconst 3, 1), (1461, .iadd, 1), (1462, .iaload, 1), (1463, .aload_n 0, 1), (1464, .iload_n 3, 1), (1465, .iconst 4, 1), (1466, .iadd, 1), (1467, .iaload, 1), (1468, .aload_n 0, 1), (1469, .iload_n 3, 1), (1470, .iconst 5, 1), (1471, .iadd, 1), (1472, .iaload, 1), (1473, .invokevirtual 176, 3), (1476, .if_icmp .eq 156, 3), (1479, .iconst 0, 1), (1480, .ireturn, 1), (1481, .aload_n 1, 1), (1482, .aload_n 0, 1), (1483, .iload_n 3, 1), (1484, .iconst 1, 1), (1485, .iadd, 1), (1486, .iaload, 1), (1487, .invokevirtual 177, 3), (1490, .aload_n 2, 1), (1491, .aload_n 0, 1), (1492, .iload_n 3, 1), (1493, .iconst 1, 1), (1494, .iadd, 1), (1495, .iaload, 1), (1496, .invokevirtual 180, 3), (1499, .if_icmp .eq 133, 3), (1502, .iconst 0, 1), (1503, .ireturn, 1), (1504, .aload_n 1, 1), (1505, .aload_n 0, 1), (1506, .iload_n 3, 1), (1507, .iconst 1, 1), (1508, .iadd, 1), (1509, .iaload, 1), (1510, .aload_n 0, 1), (1511, .iload_n 3, 1), (1512, .iconst 2, 1), (1513, .iadd, 1), (1514, .iaload, 1), (1515, .aload_n 0, 1), (1516, .iload_n 3, 1), (1517, .iconst 3, 1), (1518, .iadd, 1), (1519, .iaload, 1), (1520, .invokevirtual 181, 3), (1523, .aload_n 2, 1), (1524, .aload_n 0, 1), (1525, .iload_n 3, 1), (1526, .iconst 1, 1), (1527, .iadd, 1), (1528, .iaload, 1), (1529, .aload_n 0, 1), (1530, .iload_n 3, 1), (1531, .iconst 2, 1), (1532, .iadd, 1), (1533, .iaload, 1), (1534, .aload_n 0, 1), (1535, .iload_n 3, 1), (1536, .iconst 3, 1), (1537, .iadd, 1), (1538, .iaload, 1), (1539, .invokevirtual 184, 3), (1542, .if_icmp .eq 90, 3), (1545, .iconst 0, 1), (1546, .ireturn, 1), (1547, .aload_n 1, 1), (1548, .invokevirtual 185, 3), (1551, .aload_n 2, 1), (1552, .invokevirtual 188, 3), (1555, .if_icmp .eq 77, 3), (1558, .iconst 0, 1), (1559, .ireturn, 1), (1560, .aload_n 1, 1), (1561, .invokevirtual 189, 3), (1564, .aload_n 2, 1), (1565, .invokevirtual 192, 3), (1568, .if_icmp .eq 64, 3), (1571, .iconst 0, 1), (1572, .ireturn, 1), (1573, .aload_n 1, 1), (1574, .invokevirtual 193, 3), (1577, .aload_n 2, 1), (1578, .invokevirtual 196, 3), (1581, .if_icmp .eq 51, 3), (1584, .iconst 0, 1), (1585, .ireturn, 1), (1586, .aload_n 1, 1), (1587, .aload_n 0, 1), (1588, .iload_n 3, 1), (1589, .iconst 1, 1), (1590, .iadd, 1), (1591, .iaload, 1), (1592, .invokevirtual 197, 3), (1595, .aload_n 2, 1), (1596, .aload_n 0, 1), (1597, .iload_n 3, 1), (1598, .iconst 1, 1), (1599, .iadd, 1), (1600, .iaload, 1), (1601, .invokevirtual 200, 3), (1604, .if_icmp .eq 28, 3), (1607, .iconst 0, 1), (1608, .ireturn, 1), (1609, .aload_n 1, 1), (1610, .aload_n 0, 1), (1611, .iload_n 3, 1), (1612, .iconst 1, 1), (1613, .iadd, 1), (1614, .iaload, 1), (1615, .invokevirtual 201, 3), (1618, .aload_n 2, 1), (1619, .aload_n 0, 1), (1620, .iload_n 3, 1), (1621, .iconst 1, 1), (1622, .iadd, 1), (1623, .iaload, 1), (1624, .invokevirtual 204, 3), (1627, .if_icmp .eq 5, 3), (1630, .iconst 0, 1), (1631, .ireturn, 1), (1632, .iinc 3 6, 3), (1635, .goto (-1617), 3), (1638, .iconst 1, 1), (1639, .ireturn, 1)])
def ab_ms : List ab_I := [ab_m0, ab_m1, ab_m2, ab_m3, ab_m4, ab_m5, ab_m6, ab_m7, ab_m8, ab_m9, ab_m10, ab_m11, ab_m12, ab_m13, ab_m14, ab_m15, ab_m16, ab_m17, ab_m18, ab_m19, ab_m20, ab_m21, ab_m22, ab_m23, ab_m24, ab_m25, ab_m26, ab_m27, ab_m28, ab_m29, ab_m30, ab_m31, ab_m32, ab_m33, ab_m34, ab_m35, ab_m36, ab_m37, ab_m38, ab_m39, ab_m40, ab_m41, ab_m42, ab_m43, ab_m44, ab_m45, ab_m46, ab_m47, ab_m48, ab_m49, ab_m50, ab_m51, ab_m52, ab_m53, ab_m54, ab_m55, ab_m56, ab_m57, ab_m58, ab_m59, ab_m60, ab_m61, ab_m62, ab_m63, ab_m64, ab_m65, ab_m66, ab_m67, ab_m68, ab_m69, ab_m70, ab_m71, ab_m72, ab_m73, ab_m74, ab_m75, ab_m76, ab_m77, ab_m78, ab_m79, ab_m80, ab_m81, ab_m82, ab_m83, ab_m84, ab_m85, ab_m86, ab_m87, ab_m88, ab_m89, ab_m90, ab_m91, ab_m92, ab_m93, ab_m94, ab_m95, ab_m96, ab_m97, ab_m98, ab_m99, ab_m100, ab_m101, ab_m102, ab_m103, ab_m104, ab_m105, ab_m106, ab_m107, ab_m108, ab_m109, ab_m110, ab_m111, ab_m112, ab_m113, ab_m114, ab_m115, ab_m116, ab_m117, ab_m118, ab_m119, ab_m120, ab_m121, ab_m122, ab_m123, ab_m124, ab_m125, ab_m126, ab_m127, ab_m128, ab_m129, ab_m130, ab_m131, ab_m132, ab_m133, ab_m134, ab_m135, ab_m136, ab_m137, ab_m138, ab_m139, ab_m140, ab_m141, ab_m142, ab_m143, ab_m144, ab_m145, ab_m146, ab_m147, ab_m148, ab_m149, ab_m150, ab_m151, ab_m152, ab_m153, ab_m154, ab_m155, ab_m156, ab_m157, ab_m158, ab_m159, ab_m160, ab_m161, ab_m162, ab_m163, ab_m164, ab_m165, ab_m166, ab_m167, ab_m168, ab_m169, ab_m170, ab_m171, ab_m172, ab_m173, ab_m174, ab_m175, ab_m176, ab_m177, ab_m178, ab_m179, ab_m180, ab_m181, ab_m182, ab_m183, ab_m184, ab_m185, ab_m186, ab_m187, ab_m188, ab_m189, ab_m190, ab_m191, ab_m192, ab_m193, ab_m194, ab_m195, ab_m196, ab_m197, ab_m198, ab_m199, ab_m200, ab_m201, ab_m202, ab_m203, ab_m204, ab_m205, ab_m206, ab_m207, ab_m208, ab_m209, ab_m210, ab_m211, ab_m212, ab_m213, ab_m214, ab_m215, ab_m216, ab_m217, ab_m218, ab_m219, ab_m220, ab_m221, ab_m222, ab_m223, ab_m224, ab_m225, ab_m226, ab_m227, ab_m228, ab_m229, ab_m230, ab_m231, ab_m232, ab_m233, ab_m234, ab_m235, ab_m236, ab_m237, ab_m238, ab_m239, ab_m240, ab_m241, ab_m242, ab_m243, ab_m244, ab_m245, ab_m246]
abbrev kX0_init : Nat := 0
abbrev kX0_isKind : Nat := 1
abbrev kX0_renew : Nat := 2
abbrev kX0_takeFrom : Nat := 3
abbrev kX0_tell : Nat := 4
abbrev kX0_become : Nat := 5
abbrev kX0_isOne : Nat := 6
abbrev kX0_isInHours : Nat := 7
abbrev kX0_admits : Nat := 8
abbrev kX0_wakes : Nat := 9
abbrev kX0_fallOut : Nat := 10
abbrev kX1_init : Nat := 11
abbrev kX1_draw : Nat := 12
abbrev kX1_listen : Nat := 13
abbrev kX1_jointsOf : Nat := 14
abbrev kX1_besidesAny : Nat := 15
abbrev kX1_reachable : Nat := 16
abbrev kX1_shortest : Nat := 17
abbrev kX1_roomOnWay : Nat := 18
abbrev kX1_least : Nat := 19
abbrev kX1_quietest : Nat := 20
abbrev kX1_goOnFrom : Nat := 21
abbrev kX2_init : Nat := 22
abbrev kX2_takeFrom : Nat := 23
abbrev kX2_at : Nat := 24
abbrev kX2_has : Nat := 25
abbrev kX2_hasRoom : Nat := 26
abbrev kX2_isFull : Nat := 27
abbrev kX2_build : Nat := 28
abbrev kX2_canBecome : Nat := 29
abbrev kX2_isOpen : Nat := 30
abbrev kX2_setDoor : Nat := 31
abbrev kX2_stairOf : Nat := 32
abbrev kX2_bedOf : Nat := 33
abbrev kX2_homeOf : Nat := 34
abbrev kX2_besides : Nat := 35
abbrev kX2_admitting : Nat := 36
abbrev kX2_wakesIn : Nat := 37
abbrev kX2_named : Nat := 38
abbrev kX2_pairs : Nat := 39
abbrev kX2_sleepingIn : Nat := 40
abbrev kX2_bedRound : Nat := 41
abbrev kX2_shiftBeds : Nat := 42
abbrev kX2_drawBelow : Nat := 43
abbrev kX2_countStairs : Nat := 44
abbrev kX2_countSleepers : Nat := 45
abbrev kX2_countHeld : Nat := 46
abbrev kX3_init : Nat := 47
abbrev kX3_isMissing : Nat := 48
abbrev kX3_renew : Nat := 49
abbrev kX3_set : Nat := 50
abbrev kX3_hasRange : Nat := 51
abbrev kX4_init : Nat := 52
abbrev kX4_free : Nat := 53
abbrev kX4_add : Nat := 54
abbrev kX4_readInto : Nat := 55
abbrev kX4_readItem : Nat := 56
abbrev kX4_readHouse : Nat := 57
abbrev kX4_readStair : Nat := 58
abbrev kX4_readHours : Nat := 59
abbrev kX4_readSleepers : Nat := 60
abbrev kX4_readNames : Nat := 61
abbrev kX4_readDoor : Nat := 62
abbrev kX4_readBed : Nat := 63
abbrev kX4_isWordHere : Nat := 64
abbrev kX4_takeNumber : Nat := 65
abbrev kX4_findTokens : Nat := 66
abbrev kX4_addTokenAt : Nat := 67
abbrev kX4_addToken : Nat := 68
abbrev kX4_endOf : Nat := 69
abbrev kX4_numberBetween : Nat := 70
abbrev kX4_wordBetween : Nat := 71
abbrev kX4_isWritten : Nat := 72
abbrev kX4_letters : Nat := 73
abbrev kX5_init : Nat := 74
abbrev kX5_house : Nat := 75
abbrev kX5_of : Nat := 76
abbrev kX5_change : Nat := 77
abbrev kX5_stair : Nat := 78
abbrev kX5_name : Nat := 79
abbrev kX5_door : Nat := 80
abbrev kX5_lets : Nat := 81
abbrev kX5_letting : Nat := 82
abbrev kX5_joined : Nat := 83
abbrev kX5_way : Nat := 84
abbrev kX5_noise : Nat := 85
abbrev kX5_step : Nat := 86
abbrev kX5_reach : Nat := 87
abbrev kX5_off : Nat := 88
abbrev kX5_hours : Nat := 89
abbrev kX5_latest : Nat := 90
abbrev kX5_best : Nat := 91
abbrev kX5_worth : Nat := 92
abbrev kX5_helps : Nat := 93
abbrev kX5_needs : Nat := 94
abbrev kX5_law : Nat := 95
abbrev kX5_quarrel : Nat := 96
abbrev kX5_ring : Nat := 97
abbrev kX5_share : Nat := 98
abbrev kX5_beds : Nat := 99
abbrev kX5_swaps : Nat := 100
abbrev kX5_fire : Nat := 101
abbrev kX5_open : Nat := 102
abbrev kX5_shift : Nat := 103
abbrev kX5_gossip : Nat := 104
abbrev kX5_seed : Nat := 105
abbrev kX5_feed : Nat := 106
abbrev kX5_wipe : Nat := 107
abbrev kX5_text : Nat := 108
abbrev kX5_hold : Nat := 109
abbrev kX5_as : Nat := 110
abbrev kX5_sheet : Nat := 111
abbrev kX5_write : Nat := 112
abbrev kX5_copy : Nat := 113
abbrev kX5_load : Nat := 114
abbrev kX5_judge : Nat := 115
abbrev kX5_image : Nat := 116
abbrev kX5_undo : Nat := 117
abbrev kX5_tear : Nat := 118
abbrev kX5_count : Nat := 119
abbrev kX5_status : Nat := 120
abbrev kX5_found : Nat := 121
abbrev kX5_isVisit : Nat := 122
abbrev kX5_sheetAt : Nat := 123
abbrev kX5_lengthHome : Nat := 124
abbrev kX5_cutOff : Nat := 125
abbrev kX5_cutOffMore : Nat := 126
abbrev kX5_fewestLeaves : Nat := 127
abbrev kX5_countNeeded : Nat := 128
abbrev kX5_isStair : Nat := 129
abbrev kX5_isBelow : Nat := 130
abbrev kX5_isIn : Nat := 131
abbrev kX5_marked : Nat := 132
abbrev kX5_cell : Nat := 133
abbrev kX5_put : Nat := 134
abbrev kX5_roomsOf : Nat := 135
abbrev kX6_init : Nat := 136
abbrev kX6_in : Nat := 137
abbrev kX6_finds : Nat := 138
abbrev kX6_isHouse : Nat := 139
abbrev kX6_isRoom : Nat := 140
abbrev kX6_isClock : Nat := 141
abbrev kX6_has : Nat := 142
abbrev kX6_ones : Nat := 143
abbrev kX6_lowest : Nat := 144
abbrev kX6_draw : Nat := 145
abbrev kX6_puts : Nat := 146
abbrev kX6_putsBack : Nat := 147
abbrev kX6_at : Nat := 148
abbrev kX6_its : Nat := 149
abbrev kX6_newHouse : Nat := 150
abbrev kX6_house : Nat := 151
abbrev kX6_of : Nat := 152
abbrev kX6_isPart : Nat := 153
abbrev kX6_change : Nat := 154
abbrev kX6_stair : Nat := 155
abbrev kX6_name : Nat := 156
abbrev kX6_door : Nat := 157
abbrev kX6_isHour : Nat := 158
abbrev kX6_isLetting : Nat := 159
abbrev kX6_isAsk : Nat := 160
abbrev kX6_lets : Nat := 161
abbrev kX6_lettingSet : Nat := 162
abbrev kX6_letting : Nat := 163
abbrev kX6_wakes : Nat := 164
abbrev kX6_joinedTo : Nat := 165
abbrev kX6_joined : Nat := 166
abbrev kX6_grounds : Nat := 167
abbrev kX6_openRooms : Nat := 168
abbrev kX6_joinedAll : Nat := 169
abbrev kX6_reached : Nat := 170
abbrev kX6_lengthOf : Nat := 171
abbrev kX6_homeOf : Nat := 172
abbrev kX6_wayHome : Nat := 173
abbrev kX6_isOff : Nat := 174
abbrev kX6_way : Nat := 175
abbrev kX6_findNoises : Nat := 176
abbrev kX6_noise : Nat := 177
abbrev kX6_step : Nat := 178
abbrev kX6_reach : Nat := 179
abbrev kX6_offSet : Nat := 180
abbrev kX6_off : Nat := 181
abbrev kX6_offHours : Nat := 182
abbrev kX6_hours : Nat := 183
abbrev kX6_latest : Nat := 184
abbrev kX6_best : Nat := 185
abbrev kX6_worth : Nat := 186
abbrev kX6_isOffWith : Nat := 187
abbrev kX6_helps : Nat := 188
abbrev kX6_needed : Nat := 189
abbrev kX6_needs : Nat := 190
abbrev kX6_law : Nat := 191
abbrev kX6_quarrels : Nat := 192
abbrev kX6_quarrel : Nat := 193
abbrev kX6_ring : Nat := 194
abbrev kX6_common : Nat := 195
abbrev kX6_share : Nat := 196
abbrev kX6_beds : Nat := 197
abbrev kX6_swaps : Nat := 198
abbrev kX6_fire : Nat := 199
abbrev kX6_open : Nat := 200
abbrev kX6_shift : Nat := 201
abbrev kX6_gossip : Nat := 202
abbrev kX6_seed : Nat := 203
abbrev kX6_feed : Nat := 204
abbrev kX6_wipe : Nat := 205
abbrev kX6_byteAt : Nat := 206
abbrev kX6_isLetter : Nat := 207
abbrev kX6_isDigit : Nat := 208
abbrev kX6_token : Nat := 209
abbrev kX6_wants : Nat := 210
abbrev kX6_word : Nat := 211
abbrev kX6_number : Nat := 212
abbrev kX6_kindHere : Nat := 213
abbrev kX6_houseItem : Nat := 214
abbrev kX6_namesItem : Nat := 215
abbrev kX6_bedItem : Nat := 216
abbrev kX6_item : Nat := 217
abbrev kX6_text : Nat := 218
abbrev kX6_hold : Nat := 219
abbrev kX6_as : Nat := 220
abbrev kX6_isOne : Nat := 221
abbrev kX6_sheet : Nat := 222
abbrev kX6_narrowed : Nat := 223
abbrev kX6_wrong : Nat := 224
abbrev kX6_write : Nat := 225
abbrev kX6_copy : Nat := 226
abbrev kX6_load : Nat := 227
abbrev kX6_judge : Nat := 228
abbrev kX6_image : Nat := 229
abbrev kX6_undo : Nat := 230
abbrev kX6_tear : Nat := 231
abbrev kX6_doors : Nat := 232
abbrev kX6_stairs : Nat := 233
abbrev kX6_sleepers : Nat := 234
abbrev kX6_held : Nat := 235
abbrev kX6_count : Nat := 236
abbrev kX6_status : Nat := 237
abbrev kJ6_bitCount_0f7a4 : Nat := 238
abbrev kJ0_length_8abf5 : Nat := 239
abbrev kJ0_charAt_5068e : Nat := 240
abbrev kJ0_coder_7d493 : Nat := 241
abbrev kJ0_isLatin1_aae02 : Nat := 242
abbrev kJ0_checkIndex_df160 : Nat := 243
abbrev kJ1_charAt_3b067 : Nat := 244
abbrev kJ3_checkIndex_8e157 : Nat := 245
abbrev kL_law : Nat := 246
def ab_flL : List (List (Nat × Nat × Nat × Bool × Nat)) := [[(19, 0, 0, false, 154), (23, 0, 1, false, 156), (26, 0, 2, false, 157), (29, 0, 3, false, 161), (32, 0, 4, false, 165), (35, 0, 5, false, 167), (38, 0, 6, false, 169), (41, 0, 7, false, 172), (44, 0, 8, false, 175)], [(9, 1, 0, false, 225), (15, 1, 1, false, 226), (18, 1, 2, false, 227), (21, 1, 3, false, 228)], [(11, 2, 0, false, 198), (17, 2, 1, false, 199), (21, 2, 2, false, 202), (24, 2, 3, false, 204), (27, 2, 4, false, 206), (70, 0, 2, true, 160), (73, 0, 8, true, 176), (89, 0, 3, true, 164), (108, 0, 7, true, 174)], [(7, 3, 0, false, 274), (13, 3, 1, false, 276), (16, 3, 2, false, 278)], [(11, 4, 0, false, 244), (15, 4, 1, false, 245), (19, 4, 2, false, 247), (22, 4, 3, false, 248), (25, 4, 4, false, 249), (28, 4, 5, false, 250), (31, 4, 6, false, 251), (116, 2, 1, true, 200), (117, 0, 3, true, 163), (120, 0, 6, true, 171), (101, 0, 2, true, 159), (107, 0, 4, true, 166), (110, 0, 5, true, 168), (113, 0, 7, true, 173), (127, 0, 8, true, 177)], [(12, 5, 0, false, 287), (16, 5, 1, false, 288), (19, 5, 2, false, 289), (22, 5, 3, false, 290), (29, 5, 4, false, 291), (36, 5, 5, false, 292), (42, 5, 6, false, 293), (46, 5, 7, false, 294), (88, 0, 2, true, 158), (95, 0, 3, true, 162), (98, 0, 6, true, 170), (177, 2, 1, true, 201), (220, 2, 3, true, 205), (229, 4, 1, true, 246), (234, 2, 4, true, 207), (249, 0, 0, true, 155), (261, 3, 1, true, 277), (268, 3, 0, true, 275), (274, 3, 2, true, 279), (292, 2, 2, true, 203)], [(7, 6, 0, false, 956), (13, 6, 1, false, 957), (16, 6, 2, false, 958), (19, 6, 3, false, 959), (22, 6, 5, false, 961), (25, 6, 6, false, 962), (28, 6, 12, false, 968), (31, 6, 13, false, 969), (34, 6, 14, false, 970), (37, 6, 15, false, 971), (182, 6, 7, false, 963), (194, 6, 9, false, 965), (197, 6, 8, false, 964), (209, 6, 11, false, 967), (220, 6, 10, false, 966), (297, 6, 4, false, 960)], [], [(9, 8, 0, false, 1440), (15, 8, 1, false, 1441)], [], [], [], []]
def ab_meL : List (List (Nat × Nat × Bool × Nat)) := [[(13, 130, true, 321), (47, 1, false, 862), (51, 133, true, 863), (58, 131, true, 428), (61, 132, true, 606), (55, 7, false, 424)], [(34, 134, true, 466), (42, 133, true, 479), (46, 131, true, 478), (50, 135, true, 471), (59, 19, false, 523), (65, 130, true, 505), (24, 26, true, 464), (30, 35, true, 465), (38, 37, true, 489), (53, 15, false, 474), (56, 17, false, 522), (62, 21, false, 501)], [(31, 0, true, 150), (40, 133, true, 570), (44, 134, true, 571), (48, 130, true, 370), (56, 1, true, 369), (63, 131, true, 405), (66, 132, true, 410), (102, 238, false, 674), (32, 24, false, 344), (36, 3, true, 566), (52, 2, true, 348), (60, 25, false, 371), (76, 33, false, 514), (80, 30, false, 450), (83, 26, false, 451), (86, 32, false, 452), (92, 8, true, 437), (96, 9, true, 493), (99, 38, false, 673)], [(20, 134, true, 890)], [(34, 134, true, 691), (45, 133, true, 708), (49, 1, true, 805), (97, 129, true, 821), (130, 130, true, 830), (151, 73, false, 721), (38, 66, false, 704), (41, 56, false, 801), (55, 57, false, 806), (59, 61, false, 835), (63, 62, false, 839), (66, 63, false, 844), (69, 27, true, 810), (75, 28, true, 811), (79, 24, true, 812), (83, 58, false, 813), (87, 59, false, 822), (91, 60, false, 831), (94, 64, false, 817), (104, 65, false, 826), (123, 31, true, 843), (133, 67, false, 709), (136, 68, false, 793), (140, 69, false, 713), (144, 71, false, 717), (148, 70, false, 797), (155, 72, false, 741), (159, 239, false, 745), (165, 240, false, 755)], [(11, 22, true, 143), (28, 11, true, 221), (35, 52, true, 240), (50, 47, true, 270), (51, 1, true, 316), (85, 129, false, 383), (92, 130, false, 390), (101, 132, false, 391), (105, 131, false, 394), (180, 238, false, 576), (237, 134, false, 332), (241, 133, false, 329), (286, 135, false, 913), (58, 121, false, 325), (62, 27, true, 335), (67, 28, true, 340), (70, 24, true, 356), (74, 4, true, 357), (77, 29, true, 365), (81, 5, true, 375), (108, 30, true, 401), (111, 31, true, 406), (115, 122, false, 415), (118, 8, true, 420), (122, 36, true, 433), (126, 26, true, 442), (129, 35, true, 446), (132, 12, true, 460), (136, 17, true, 467), (141, 13, true, 485), (145, 20, true, 497), (148, 34, true, 510), (151, 18, true, 518), (155, 16, true, 530), (158, 125, false, 538), (162, 25, true, 419), (165, 124, false, 546), (168, 23, true, 562), (171, 126, false, 572), (174, 127, false, 590), (185, 10, true, 602), (189, 38, true, 611), (192, 128, false, 619), (195, 40, true, 627), (198, 33, true, 635), (202, 41, true, 637), (210, 42, true, 656), (213, 43, true, 664), (216, 39, true, 669), (223, 53, true, 683), (226, 54, true, 687), (230, 55, true, 700), (246, 6, true, 858), (253, 123, false, 869), (258, 49, true, 874), (262, 48, true, 882), (265, 50, true, 886), (271, 51, true, 895), (289, 14, true, 914), (295, 44, true, 934), (298, 45, true, 938), (301, 46, true, 942)], [(41, 137, false, 1010), (47, 142, false, 1061), (52, 148, false, 1023), (75, 141, false, 1047), (138, 144, false, 1148), (153, 143, false, 1195), (171, 195, false, 1242), (203, 207, false, 1301), (206, 208, false, 1306), (287, 221, false, 1376), (294, 223, false, 1389), (58, 138, false, 1014), (63, 150, false, 1019), (66, 139, false, 1030), (72, 149, false, 1035), (80, 153, false, 1043), (87, 158, false, 1081), (92, 160, false, 1073), (95, 159, false, 1077), (99, 162, false, 1090), (102, 140, false, 1098), (105, 165, false, 1102), (108, 168, false, 1114), (111, 167, false, 1110), (115, 169, false, 1122), (118, 172, false, 1144), (121, 171, false, 1118), (125, 173, false, 1171), (129, 164, false, 1135), (132, 176, false, 1131), (141, 170, false, 1155), (144, 174, false, 1167), (147, 180, false, 1163), (150, 182, false, 1179), (156, 146, false, 1202), (159, 187, false, 1206), (162, 189, false, 1214), (165, 192, false, 1226), (168, 147, false, 1230), (177, 145, false, 1271), (200, 206, false, 1297), (213, 209, false, 1293), (223, 210, false, 1336), (227, 211, false, 1319), (251, 212, false, 1343), (261, 213, false, 1315), (264, 214, false, 1332), (270, 215, false, 1350), (277, 216, false, 1356), (280, 217, false, 1311), (291, 224, false, 1385), (300, 232, false, 1420), (303, 233, false, 1424), (306, 234, false, 1428), (309, 235, false, 1432)], [(9, 74, false, 135), (12, 136, false, 952), (13, 75, false, 312), (17, 151, false, 1005), (18, 76, false, 352), (22, 152, false, 1026), (23, 77, false, 361), (27, 154, false, 1039), (28, 78, false, 379), (31, 155, false, 1052), (32, 79, false, 386), (36, 156, false, 1057), (37, 80, false, 397), (41, 157, false, 1064), (42, 81, false, 411), (45, 161, false, 1069), (46, 82, false, 429), (49, 163, false, 1086), (50, 83, false, 438), (53, 166, false, 1094), (54, 84, false, 456), (57, 175, false, 1106), (58, 85, false, 481), (61, 177, false, 1127), (62, 86, false, 506), (65, 178, false, 1139), (66, 87, false, 526), (69, 179, false, 1151), (70, 88, false, 534), (73, 181, false, 1159), (74, 89, false, 542), (77, 183, false, 1175), (78, 90, false, 550), (81, 184, false, 1183), (82, 91, false, 554), (85, 185, false, 1187), (86, 92, false, 558), (89, 186, false, 1191), (90, 93, false, 582), (93, 188, false, 1198), (94, 94, false, 586), (97, 190, false, 1210), (98, 95, false, 594), (101, 191, false, 1218), (102, 96, false, 598), (105, 193, false, 1222), (106, 97, false, 607), (109, 194, false, 1234), (110, 98, false, 615), (114, 196, false, 1238), (115, 99, false, 623), (118, 197, false, 1245), (119, 100, false, 631), (123, 198, false, 1249), (124, 101, false, 641), (127, 199, false, 1254), (128, 102, false, 648), (131, 200, false, 1258), (132, 103, false, 652), (135, 201, false, 1262), (136, 104, false, 660), (139, 202, false, 1266), (140, 105, false, 675), (143, 203, false, 1276), (144, 106, false, 679), (147, 204, false, 1280), (148, 107, false, 692), (151, 205, false, 1285), (152, 108, false, 696), (155, 218, false, 1289), (156, 109, false, 849), (159, 219, false, 1362), (160, 110, false, 853), (163, 220, false, 1366), (164, 111, false, 865), (167, 222, false, 1372), (168, 112, false, 878), (171, 225, false, 1381), (172, 113, false, 891), (176, 226, false, 1392), (177, 114, false, 902), (180, 227, false, 1396), (181, 115, false, 909), (184, 228, false, 1400), (185, 116, false, 918), (188, 229, false, 1404), (189, 117, false, 922), (192, 230, false, 1408), (193, 118, false, 926), (196, 231, false, 1412), (197, 119, false, 930), (200, 236, false, 1416), (201, 120, false, 946), (204, 237, false, 1436)], [(495, 244, false, 763), (1059, 245, false, 771), (335, 241, false, 749), (492, 242, false, 759)], [(9, 243, false, 766)], [], [], []]
def ab_nwL : List (List (Nat × Nat × Nat)) := [[], [], [(9, 0, 147)], [], [], [(9, 2, 141), (26, 1, 219), (33, 4, 238), (40, 3, 267)], [], [(7, 5, 133), (10, 6, 950)], [], [], [], [], []]
def ab_naL : List (List (Nat × Nat × Nat)) := [[], [], [(9, 7, 147)], [], [], [(40, 8, 267)], [], [], [], [], [], [], []]
def ab_kiL : List (List (Nat × Int32 × Nat)) := [[], [], [(107, 1103515245, 668)], [], [], [(57, (-1000001), 324), (66, (-1000002), 339), (140, (-1000004), 480), (201, (-1000005), 636), (245, (-1000006), 857), (252, (-1000003), 864), (257, (-1000007), 873)], [(40, (-1000001), 1013), (51, 1103515245, 1275), (62, (-1000002), 1018), (128, (-1000004), 1126), (174, (-1000005), 1253), (283, (-1000006), 1370), (284, (-1000003), 1371), (290, (-1000007), 1380)], [], [], [], [], [(265, 1431655765, 579), (266, 858993459, 580), (267, 252645135, 581)], []]
def ab_klL : List (List (Nat × Int64 × Nat)) := [[], [], [], [], [], [], [(45, 23, 1050), (56, 6, 1009), (70, 7, 1034), (78, 9, 1051), (83, (-1), 1056), (85, 13, 1068), (90, 19, 1085), (136, 15, 1143), (175, 12, 1270), (180, 4, 1284), (186, 97, 1304), (188, 122, 1305), (190, 48, 1309), (192, 57, 1310), (216, 36028797018963967, 1323), (218, 32, 1324), (231, 8902245, 1325), (233, 659104884, 1326), (235, 508078, 1327), (237, 9678, 1328), (239, 8029764, 1329), (241, 631915, 1330), (243, 18959911084, 1331), (245, 398548, 1340), (247, 19176724, 1341), (249, 215533, 1342), (253, 655, 1347), (255, 665893475923, 1348), (257, 2212, 1360), (259, 302, 1361), (268, 12748485, 1349), (273, 212147, 1354), (275, 146930, 1355), (285, 3, 1379)], [], [], [], [], [], []]
def ab_ksL : List (List (Nat × Nat × Nat)) := [[], [], [], [], [(169, 0, 724), (171, 1, 725), (173, 2, 726), (175, 3, 727), (177, 4, 728), (179, 5, 729), (181, 6, 730), (183, 7, 731), (185, 8, 732), (187, 9, 733), (188, 10, 734), (189, 11, 735), (190, 12, 736), (191, 13, 737), (192, 14, 738), (194, 15, 739), (195, 16, 740)], [], [], [], [], [], [], [], []]
def ab_stL : List (List (Nat × Nat × Nat)) := [[(7, 0, 319)], [], [], [], [], [], [], [], [(38, 1, 753), (1053, 2, 769)], [], [], [], []]
def ab_obL : List (List (Nat × Nat)) := [[(1, 153)], [(3, 224)], [(3, 146)], [(1, 273)], [(3, 243)], [(3, 138)], [(1, 955)], [], [], [], [], [], []]
def ab_acL : List (List (Nat × Nat)) := [[], [], [], [], [], [(277, 899)], [], [], [], [], [], [], []]
def ab_mxL : List (List (Nat × Nat × Nat)) := [[], [], [], [], [], [(205, 0, 645), (283, 1, 906)], [], [], [], [], [], [], []]
def ab_pMx : List (Nat × Nat) := [(646, 647), (907, 908)]
def ab_own : List String := ["StairRow$House", "StairRow$Plan", "StairRow$Row", "StairRow$Sheet", "StairRow$Tape", "StairRow", "StairRowModel", "StairRowLaw", "java/lang/String", "java/lang/StringLatin1", "jdk/internal/util/Preconditions", "java/lang/Integer", "java/lang/Math"]
def ab_str : List (List Int32) := [[104, 111, 117, 115, 101], [115, 116, 114, 105, 99, 116], [111, 112, 101, 110], [105, 110, 110], [103, 117, 97, 114, 100], [115, 105, 99, 107], [113, 117, 97, 114, 114, 101, 108], [108, 101, 102, 116], [114, 105, 103, 104, 116], [102, 114, 111, 109], [116, 111], [115, 108, 101, 101, 112, 101, 114, 115], [108, 101, 97, 118, 101], [102, 111, 101, 115], [100, 111, 111, 114], [98, 101, 100], [105, 110]]
def ab_strT : List String := ["house", "strict", "open", "inn", "guard", "sick", "quarrel", "left", "right", "from", "to", "sleepers", "leave", "foes", "door", "bed", "in"]
def ab_pIns : List Nat := [149, 220, 142, 269, 239, 134, 951]
def ab_pIni : List Nat := [121, 122, 120, 124, 123, 119, 125, 118, 128, 129, 130, 126, 127]
def ab_pOb : Nat × Nat := (139, 140)
def ab_pAc : Nat × Nat × Nat := (901, 900, 132)
end
section
/-! THE ABSTRACT MACHINE: a small interpreter over a list of cells; refs are places in the list, retAddr k stands for a cell outside (0 script, 1 ABOVE, 10+i a text, 50+i its bytes, 99 a thing that nobody asks) -/
abbrev iy (i : ab_I) : MethodName := i.1
abbrev ib (i : ab_I) : ByteArray := i.2.1
abbrev iL (i : ab_I) : Nat := i.2.2.1
abbrev ir (i : ab_I) : Option FieldType := i.2.2.2.1
abbrev ic (i : ab_I) : Nat := i.2.2.2.2.1
abbrev is_ (i : ab_I) : Bool := i.2.2.2.2.2.1
abbrev in_ (i : ab_I) : Nat := i.2.2.2.2.2.2.1
abbrev ih_ (i : ab_I) : Nat := i.2.2.2.2.2.2.2.1
abbrev ip_ (i : ab_I) : Nat × Nat × Nat × Nat := i.2.2.2.2.2.2.2.2.1
abbrev it_ (i : ab_I) : List (Nat × Instr × Nat) := i.2.2.2.2.2.2.2.2.2
def ab_d0 : ab_I := (⟨"", "", ""⟩, ⟨#[]⟩, 0, none, 0, false, 0, 0, (0, 0, 0, 0), [])
def ab_mi (k : Nat) : ab_I := ab_ms.getD k ab_d0
def ab_lk {α : Type} : List (Nat × α) → Nat → Option α
  | [], _ => none
  | (p, x) :: l, q => cond (Nat.beq p q) (some x) (ab_lk l q)
abbrev ab_E : Type := (Nat × List Value) ⊕ List Int32
abbrev ab_W : Type := List ab_E
abbrev ab_C : Type := Nat × List (Option Value) × List Value × ab_W
abbrev ab_R : Type := ab_C ⊕ ((Option Value × ab_W) ⊕ (Nat × List Value × ab_C))
def ab_nx (pc : Nat) (ls : List (Option Value)) (st : List Value) (w : ab_W) : Option ab_R := some (.inl (pc, ls, st, w))
def ab_above : List Int32 := [-1, 0, 0, 2, 1, 0, 1]
/-- an int array outside -/
def ab_xi (X : List Int32) (j : Nat) : Option (List Int32) := match j with
  | 0 => some X
  | 1 => some ab_above
  | _ => none
def ab_in (i : Int32) (n : Nat) : Bool := !decide (i < 0) && decide (i.toNatClampNeg < n)
def ab_isA : Value → Bool
  | .ref _ => true
  | .null => true
  | .retAddr _ => true
  | _ => false
def ab_set1 (ls : List (Option Value)) (k : Nat) (v : Value) : Option (List (Option Value)) :=
  match k with
  | 0 => if 0 < ls.length then some (ls.set 0 (some v)) else none
  | j + 1 => match ls[j]? with
    | some (some (.long _)) => none
    | some (some (.double _)) => none
    | _ => if j + 1 < ls.length then some (ls.set (j + 1) (some v)) else none
def ab_set2 (ls : List (Option Value)) (k : Nat) (v : Value) : Option (List (Option Value)) :=
  match k with
  | 0 => if 1 < ls.length then some ((ls.set 0 (some v)).set 1 none) else none
  | j + 1 => match ls[j]? with
    | some (some (.long _)) => none
    | some (some (.double _)) => none
    | _ => if j + 2 < ls.length then some ((ls.set (j + 1) (some v)).set (j + 2) none) else none
def ab_cmp (c : Jvm.ClassFile.Cond) (x y : Int32) : Bool := match c with
  | .eq => decide (x = y)
  | .ne => !decide (x = y)
  | .lt => decide (x < y)
  | .ge => decide (y ≤ x)
  | .gt => decide (y < x)
  | .le => decide (x ≤ y)
def ab_tg (pc : Nat) (off : Int) : Option Nat := match (pc : Int) + off with
  | .ofNat n => some n
  | .negSucc _ => none
def ab_go (pc : Nat) (off : Int) (ls : List (Option Value)) (st : List Value) (w : ab_W) : Option ab_R := match ab_tg pc off with
  | some t => ab_nx t ls st w
  | none => none
def ab_if (b : Bool) (pc : Nat) (off : Int) (ls : List (Option Value)) (st : List Value) (w : ab_W) : Option ab_R := match ab_tg pc off with
  | some t => match b with
    | true => ab_nx t ls st w
    | false => ab_nx (pc + 3) ls st w
  | none => none
def ab_fit : FieldType → Value → Bool
  | .int, .int _ => true
  | .boolean, .int v => v == 0 || v == 1
  | .object _, v => ab_isA v
  | .array _, v => ab_isA v
  | _, _ => false
def ab_rfit : Option FieldType → Int32 → Bool
  | some .int, _ => true
  | some .boolean, v => v == 0 || v == 1
  | some .byte, v => v == v.toInt8.toInt32
  | some .char, v => v == v.toUInt32.toUInt16.toUInt32.toInt32
  | _, _ => false
def ab_cty (ci fi : Nat) : FieldType := match ci with
  | 0 => tyX0 fi
  | 1 => tyX1 fi
  | 2 => tyX2 fi
  | 3 => tyX3 fi
  | 4 => tyX4 fi
  | 5 => tyX5 fi
  | _ => tyX6 fi
def ab_T (ci : Nat) : u_T := match ci with
  | 0 => TX0
  | 1 => TX1
  | 2 => TX2
  | 3 => TX3
  | 4 => TX4
  | 5 => TX5
  | _ => TX6
def ab_N (ci : Nat) : Nat := [9, 4, 5, 3, 7, 8, 16].getD ci 0
def ab_dv : FieldType → Value
  | .int => .int 0
  | .boolean => .int 0
  | _ => .null
def ab_dfl (ci : Nat) : List Value := (List.range (ab_N ci)).map (fun fi => ab_dv (ab_cty ci fi))
def ab_fl (c : Nat) := ab_flL.getD c []
def ab_me (c : Nat) := ab_meL.getD c []
def ab_nw (c : Nat) := ab_nwL.getD c []
def ab_na (c : Nat) := ab_naL.getD c []
def ab_ki (c : Nat) := ab_kiL.getD c []
def ab_kl (c : Nat) := ab_klL.getD c []
def ab_ks (c : Nat) := ab_ksL.getD c []
def ab_st (c : Nat) := ab_stL.getD c []
def ab_ob (c : Nat) := ab_obL.getD c []
def ab_ac (c : Nat) := ab_acL.getD c []
def ab_mx (c : Nat) := ab_mxL.getD c []
def ab_ldi (ls : List (Option Value)) (k pc : Nat) (st : List Value) (w : ab_W) : Option ab_R := match ls[k]? with
  | some (some (.int x)) => ab_nx pc ls (.int x :: st) w
  | _ => none
def ab_ldl (ls : List (Option Value)) (k pc : Nat) (st : List Value) (w : ab_W) : Option ab_R := match ls[k]? with
  | some (some (.long x)) => ab_nx pc ls (.long x :: st) w
  | _ => none
def ab_lda (ls : List (Option Value)) (k pc : Nat) (st : List Value) (w : ab_W) : Option ab_R := match ls[k]? with
  | some (some (.ref x)) => ab_nx pc ls (.ref x :: st) w
  | some (some .null) => ab_nx pc ls (.null :: st) w
  | some (some (.retAddr x)) => ab_nx pc ls (.retAddr x :: st) w
  | _ => none
def ab_sti (ls : List (Option Value)) (k pc : Nat) (st : List Value) (w : ab_W) : Option ab_R := match st with
  | .int x :: st => match ab_set1 ls k (.int x) with
    | some ls => ab_nx pc ls st w
    | none => none
  | _ => none
def ab_stl (ls : List (Option Value)) (k pc : Nat) (st : List Value) (w : ab_W) : Option ab_R := match st with
  | .long x :: st => match ab_set2 ls k (.long x) with
    | some ls => ab_nx pc ls st w
    | none => none
  | _ => none
def ab_sta (ls : List (Option Value)) (k pc : Nat) (st : List Value) (w : ab_W) : Option ab_R := match st with
  | .ref x :: st => match ab_set1 ls k (.ref x) with
    | some ls => ab_nx pc ls st w
    | none => none
  | .null :: st => match ab_set1 ls k .null with
    | some ls => ab_nx pc ls st w
    | none => none
  | .retAddr x :: st => match ab_set1 ls k (.retAddr x) with
    | some ls => ab_nx pc ls st w
    | none => none
  | _ => none
def ab_getf (c pc ix : Nat) (ls : List (Option Value)) (st : List Value) (w : ab_W) : Option ab_R := match st with
  | .ref r :: st => match ab_lk (ab_fl c) ix with
    | some (ci, fi, _, _) => match w[r]? with
      | some (.inl (k, vs)) => match Nat.beq k ci && Nat.blt ci 7, vs[fi]? with
        | true, some v => ab_nx (pc + 3) ls (v :: st) w
        | _, _ => none
      | _ => none
    | none => none
  | .retAddr j :: st => match ab_lk (ab_fl c) ix with
    | some (8, 0, _, _) => match Nat.ble 10 j && Nat.blt j 27 with
      | true => ab_nx (pc + 3) ls (.retAddr (j + 40) :: st) w
      | false => none
    | some (8, 1, _, _) => match Nat.ble 10 j && Nat.blt j 27 with
      | true => ab_nx (pc + 3) ls (.int 0 :: st) w
      | false => none
    | _ => none
  | _ => none
def ab_putf (mi : ab_I) (pc ix : Nat) (ls : List (Option Value)) (st : List Value) (w : ab_W) : Option ab_R := match st with
  | v :: .ref r :: st => match ab_lk (ab_fl (ic mi)) ix with
    | some (ci, fi, nest, _) => match w[r]? with
      | some (.inl (k, vs)) => match Nat.beq k ci && Nat.blt ci 7 && Nat.blt fi vs.length && ab_fit (ab_cty ci fi) v && (!(ab_T ci fi).2.2.2 || ((iy mi).name == "<init>" && !nest && Nat.beq (ic mi) ci)) with
        | true => ab_nx (pc + 3) ls st (w.set r (.inl (k, vs.set fi v)))
        | false => none
      | _ => none
    | none => none
  | _ => none
def ab_alen (X : List Int32) (pc : Nat) (ls : List (Option Value)) (st : List Value) (w : ab_W) : Option ab_R := match st with
  | .ref r :: st => match w[r]? with
    | some (.inr xs) => ab_nx (pc + 1) ls (.int (Int32.ofNat xs.length) :: st) w
    | some (.inl (k, vs)) => match Nat.beq k 7 || Nat.beq k 8 with
      | true => ab_nx (pc + 1) ls (.int (Int32.ofNat vs.length) :: st) w
      | false => none
    | none => none
  | .retAddr j :: st => match ab_xi X j with
    | some xs => ab_nx (pc + 1) ls (.int (Int32.ofNat xs.length) :: st) w
    | none => match Nat.ble 50 j, ab_str[j - 50]? with
      | true, some xs => ab_nx (pc + 1) ls (.int (Int32.ofNat xs.length) :: st) w
      | _, _ => none
  | _ => none
def ab_iald (X : List Int32) (pc : Nat) (ls : List (Option Value)) (st : List Value) (w : ab_W) : Option ab_R := match st with
  | .int i :: .ref r :: st => match w[r]? with
    | some (.inr xs) => match ab_in i xs.length with
      | true => ab_nx (pc + 1) ls (.int (xs.getD i.toNatClampNeg 0) :: st) w
      | false => none
    | _ => none
  | .int i :: .retAddr j :: st => match ab_xi X j with
    | some xs => match ab_in i xs.length with
      | true => ab_nx (pc + 1) ls (.int (xs.getD i.toNatClampNeg 0) :: st) w
      | false => none
    | none => none
  | _ => none
def ab_iast (pc : Nat) (ls : List (Option Value)) (st : List Value) (w : ab_W) : Option ab_R := match st with
  | .int x :: .int i :: .ref r :: st => match w[r]? with
    | some (.inr xs) => match ab_in i xs.length with
      | true => ab_nx (pc + 1) ls st (w.set r (.inr (xs.set i.toNatClampNeg x)))
      | false => none
    | _ => none
  | _ => none
def ab_bald (pc : Nat) (ls : List (Option Value)) (st : List Value) (w : ab_W) : Option ab_R := match st with
  | .int i :: .retAddr j :: st => match Nat.ble 50 j, ab_str[j - 50]? with
    | true, some xs => match ab_in i xs.length with
      | true => ab_nx (pc + 1) ls (.int (xs.getD i.toNatClampNeg 0) :: st) w
      | false => none
    | _, _ => none
  | _ => none
def ab_aald (pc : Nat) (ls : List (Option Value)) (st : List Value) (w : ab_W) : Option ab_R := match st with
  | .int i :: .ref r :: st => match w[r]? with
    | some (.inl (k, vs)) => match (Nat.beq k 7 || Nat.beq k 8) && ab_in i vs.length with
      | true => match vs[i.toNatClampNeg]? with
        | some (.ref q) => ab_nx (pc + 1) ls (.ref q :: st) w
        | _ => none
      | false => none
    | _ => none
  | _ => none
/-- the class of what an array of references holds -/
def ab_el (k : Nat) : Nat := match k with
  | 7 => 0
  | _ => 3
def ab_aast (pc : Nat) (ls : List (Option Value)) (st : List Value) (w : ab_W) : Option ab_R := match st with
  | .ref v :: .int i :: .ref r :: st => match w[r]?, w[v]? with
    | some (.inl (k, vs)), some (.inl (ci, _)) => match (Nat.beq k 7 || Nat.beq k 8) && ab_in i vs.length && Nat.beq ci (ab_el k) with
      | true => ab_nx (pc + 1) ls st (w.set r (.inl (k, vs.set i.toNatClampNeg (.ref v))))
      | false => none
    | _, _ => none
  | _ => none
def ab_inv (mi : ab_I) (op : Nat) (pc ix : Nat) (ls : List (Option Value)) (st : List Value) (w : ab_W) : Option ab_R :=
  match ab_lk (ab_me (ic mi)) ix with
  | some (k', _, _) =>
    match Nat.ble (in_ (ab_mi k')) st.length && Nat.blt (ih_ (ab_mi k')) (ih_ mi) && Nat.ble (iL (ab_mi k')) 13 && decide (((st.drop (in_ (ab_mi k'))).map Value.category).sum ≤ 8) && decide ((lg_sl (st.take (in_ (ab_mi k'))).reverse).length ≤ iL (ab_mi k')) with
    | true => match op with
      | 0 => match is_ (ab_mi k') with
        | true => some (.inr (.inr (k', (st.take (in_ (ab_mi k'))).reverse, (pc + 3, ls, st.drop (in_ (ab_mi k')), w))))
        | false => none
      | 1 => match (st.take (in_ (ab_mi k'))).reverse with
        | .ref r :: as => match w[r]? with
          | some (.inl (ci, _)) => match Nat.beq ci (ic (ab_mi k')) && Nat.blt ci 7 && !is_ (ab_mi k') && !((iy (ab_mi k')).name == "<init>") with
            | true => some (.inr (.inr (k', .ref r :: as, (pc + 3, ls, st.drop (in_ (ab_mi k')), w))))
            | false => none
          | _ => none
        | .retAddr j :: as => match Nat.ble 10 j && Nat.blt j 27 && Nat.beq 8 (ic (ab_mi k')) && !is_ (ab_mi k') && !((iy (ab_mi k')).name == "<init>") with
          | true => some (.inr (.inr (k', .retAddr j :: as, (pc + 3, ls, st.drop (in_ (ab_mi k')), w))))
          | false => none
        | _ => none
      | _ => match (st.take (in_ (ab_mi k'))).reverse with
        | .ref r :: as => match !is_ (ab_mi k') && (iy (ab_mi k')).name == "<init>" with
          | true => some (.inr (.inr (k', .ref r :: as, (pc + 3, ls, st.drop (in_ (ab_mi k')), w))))
          | false => none
        | _ => none
    | false => none
  | none => none
def ab_cpy (pc : Nat) (ls : List (Option Value)) (st : List Value) (w : ab_W) : Option ab_R := match st with
  | .int n :: .int dp :: .ref a :: .int sp :: .ref a0 :: st => match w[a0]?, w[a]? with
    | some (.inr xs), some (.inr ys) =>
      match !decide (sp < 0) && !decide (dp < 0) && !decide (n < 0) && Nat.ble (sp.toNatClampNeg + n.toNatClampNeg) xs.length && Nat.ble (dp.toNatClampNeg + n.toNatClampNeg) ys.length && decide ((st.map Value.category).sum ≤ 8) with
      | true => ab_nx (pc + 3) ls st (w.set a (.inr ((List.range ys.length).map (va_cpy (fun j => xs.getD j 0) (fun j => ys.getD j 0) sp.toNatClampNeg dp.toNatClampNeg n.toNatClampNeg))))
      | false => none
    | _, _ => none
  | _ => none
def ab_ex (X : List Int32) (mi : ab_I) (i : Instr) (pc : Nat) (ls : List (Option Value)) (st : List Value) (w : ab_W) : Option ab_R :=
  match i with
  | .iconst v => ab_nx (pc + 1) ls (.int (Int32.ofInt v) :: st) w
  | .bipush v => ab_nx (pc + 2) ls (.int (Int8.ofInt v).toInt32 :: st) w
  | .sipush v => ab_nx (pc + 3) ls (.int (Int16.ofInt v).toInt32 :: st) w
  | .lconst v => ab_nx (pc + 1) ls (.long (Int64.ofNat v) :: st) w
  | .aconst_null => ab_nx (pc + 1) ls (.null :: st) w
  | .ldc ix => match ab_lk (ab_ki (ic mi)) ix with
    | some (v, _) => ab_nx (pc + 2) ls (.int v :: st) w
    | none => match ab_lk (ab_ks (ic mi)) ix with
      | some (j, _) => ab_nx (pc + 2) ls (.retAddr (10 + j) :: st) w
      | none => none
  | .ldc_w ix => match ab_lk (ab_ki (ic mi)) ix with
    | some (v, _) => ab_nx (pc + 3) ls (.int v :: st) w
    | none => none
  | .ldc2_w ix => match ab_lk (ab_kl (ic mi)) ix with
    | some (v, _) => ab_nx (pc + 3) ls (.long v :: st) w
    | none => none
  | .iload_n k => ab_ldi ls k (pc + 1) st w
  | .iload k => ab_ldi ls k (pc + 2) st w
  | .lload_n k => ab_ldl ls k (pc + 1) st w
  | .lload k => ab_ldl ls k (pc + 2) st w
  | .aload_n k => ab_lda ls k (pc + 1) st w
  | .aload k => ab_lda ls k (pc + 2) st w
  | .istore_n k => ab_sti ls k (pc + 1) st w
  | .istore k => ab_sti ls k (pc + 2) st w
  | .lstore_n k => ab_stl ls k (pc + 1) st w
  | .astore_n k => ab_sta ls k (pc + 1) st w
  | .astore k => ab_sta ls k (pc + 2) st w
  | .iinc k d => match ls[k]? with
    | some (some (.int x)) => ab_nx (pc + 3) (ls.set k (some (.int (x + Int32.ofInt d)))) st w
    | _ => none
  | .iadd => match st with
    | .int y :: .int x :: st => ab_nx (pc + 1) ls (.int (x + y) :: st) w
    | _ => none
  | .isub => match st with
    | .int y :: .int x :: st => ab_nx (pc + 1) ls (.int (x - y) :: st) w
    | _ => none
  | .imul => match st with
    | .int y :: .int x :: st => ab_nx (pc + 1) ls (.int (x * y) :: st) w
    | _ => none
  | .iand => match st with
    | .int y :: .int x :: st => ab_nx (pc + 1) ls (.int (x &&& y) :: st) w
    | _ => none
  | .ior => match st with
    | .int y :: .int x :: st => ab_nx (pc + 1) ls (.int (x ||| y) :: st) w
    | _ => none
  | .ixor => match st with
    | .int y :: .int x :: st => ab_nx (pc + 1) ls (.int (x ^^^ y) :: st) w
    | _ => none
  | .ishl => match st with
    | .int y :: .int x :: st => ab_nx (pc + 1) ls (.int (x <<< (y &&& 31)) :: st) w
    | _ => none
  | .ishr => match st with
    | .int y :: .int x :: st => ab_nx (pc + 1) ls (.int (x >>> (y &&& 31)) :: st) w
    | _ => none
  | .iushr => match st with
    | .int y :: .int x :: st => ab_nx (pc + 1) ls (.int ((x.toUInt32 >>> (y.toUInt32 &&& Int32.toUInt32 31)).toInt32) :: st) w
    | _ => none
  | .idiv => match st with
    | .int y :: .int x :: st => match decide (y = 0) with
      | true => none
      | false => ab_nx (pc + 1) ls (.int (x / y) :: st) w
    | _ => none
  | .irem => match st with
    | .int y :: .int x :: st => match decide (y = 0) with
      | true => none
      | false => ab_nx (pc + 1) ls (.int (x - x / y * y) :: st) w
    | _ => none
  | .i2b => match st with
    | .int x :: st => ab_nx (pc + 1) ls (.int (x.toInt8.toInt32) :: st) w
    | _ => none
  | .i2s => match st with
    | .int x :: st => ab_nx (pc + 1) ls (.int (x.toInt16.toInt32) :: st) w
    | _ => none
  | .i2c => match st with
    | .int x :: st => ab_nx (pc + 1) ls (.int ((x.toUInt32 % 65536).toInt32) :: st) w
    | _ => none
  | .i2l => match st with
    | .int x :: st => ab_nx (pc + 1) ls (.long x.toInt64 :: st) w
    | _ => none
  | .ladd => match st with
    | .long y :: .long x :: st => ab_nx (pc + 1) ls (.long (x + y) :: st) w
    | _ => none
  | .lmul => match st with
    | .long y :: .long x :: st => ab_nx (pc + 1) ls (.long (x * y) :: st) w
    | _ => none
  | .lcmp => match st with
    | .long y :: .long x :: st => ab_nx (pc + 1) ls (.int (lg_cmp x y) :: st) w
    | _ => none
  | .dup => match st with
    | .int v :: st => ab_nx (pc + 1) ls (.int v :: .int v :: st) w
    | .ref v :: st => ab_nx (pc + 1) ls (.ref v :: .ref v :: st) w
    | _ => none
  | .dup2 => match st with
    | .int v :: .ref r :: st => ab_nx (pc + 1) ls (.int v :: .ref r :: .int v :: .ref r :: st) w
    | _ => none
  | .pop => match st with
    | .int _ :: st => ab_nx (pc + 1) ls st w
    | _ => none
  | .ifCond c off => match st with
    | .int x :: st => ab_if (ab_cmp c x 0) pc off ls st w
    | _ => none
  | .if_icmp c off => match st with
    | .int y :: .int x :: st => ab_if (ab_cmp c x y) pc off ls st w
    | _ => none
  | .ifnull off => match st with
    | .null :: st => ab_go pc off ls st w
    | .ref _ :: st => ab_nx (pc + 3) ls st w
    | _ => none
  | .ifnonnull off => match st with
    | .null :: st => ab_nx (pc + 3) ls st w
    | .ref _ :: st => ab_go pc off ls st w
    | _ => none
  | .goto off => ab_go pc off ls st w
  | .tableswitch d lo hi offs => match st with
    | .int x :: st => match decide (x.toInt < lo) || decide (hi < x.toInt) with
      | true => ab_go pc d ls st w
      | false => match offs.toList[(x.toInt - lo).toNat]? with
        | some o => ab_go pc o ls st w
        | none => none
    | _ => none
  | .getfield ix => ab_getf (ic mi) pc ix ls st w
  | .putfield ix => ab_putf mi pc ix ls st w
  | .getstatic ix => match ab_lk (ab_st (ic mi)) ix with
    | some (0, _) => ab_nx (pc + 3) ls (.retAddr 1 :: st) w
    | some (1, _) => ab_nx (pc + 3) ls (.int 1 :: st) w
    | some (2, _) => ab_nx (pc + 3) ls (.retAddr 99 :: st) w
    | _ => none
  | .arraylength => ab_alen X pc ls st w
  | .iaload => ab_iald X pc ls st w
  | .iastore => ab_iast pc ls st w
  | .baload => ab_bald pc ls st w
  | .aaload => ab_aald pc ls st w
  | .aastore => ab_aast pc ls st w
  | .new ix => match ab_lk (ab_nw (ic mi)) ix with
    | some (ci, _) => match Nat.blt ci 7 with
      | true => ab_nx (pc + 3) ls (.ref w.length :: st) (w ++ [.inl (ci, ab_dfl ci)])
      | false => none
    | none => none
  | .newarray .int => match st with
    | .int n :: st => match !decide (n < 0) && Nat.ble n.toNatClampNeg 100000 with
      | true => ab_nx (pc + 2) ls (.ref w.length :: st) (w ++ [.inr (List.replicate n.toNatClampNeg 0)])
      | false => none
    | _ => none
  | .anewarray ix => match ab_lk (ab_na (ic mi)) ix with
    | some (k, _) => match st with
      | .int n :: st => match !decide (n < 0) && Nat.ble n.toNatClampNeg 100000 && (Nat.beq k 7 || Nat.beq k 8) with
        | true => ab_nx (pc + 3) ls (.ref w.length :: st) (w ++ [.inl (k, List.replicate n.toNatClampNeg .null)])
        | false => none
      | _ => none
    | none => none
  | .invokestatic ix => match ab_lk (ab_ac (ic mi)) ix with
    | some _ => ab_cpy pc ls st w
    | none => match ab_lk (ab_mx (ic mi)) ix with
      | some (0, _) => match st with
        | .int y :: .int x :: st => match decide ((st.map Value.category).sum ≤ 8) with
          | true => ab_nx (pc + 3) ls (.int (if x < y then y else x) :: st) w
          | false => none
        | _ => none
      | some (1, _) => match st with
        | .int y :: .int x :: st => match decide ((st.map Value.category).sum ≤ 8) with
          | true => ab_nx (pc + 3) ls (.int (if y < x then y else x) :: st) w
          | false => none
        | _ => none
      | some _ => none
      | none => ab_inv mi 0 pc ix ls st w
  | .invokevirtual ix => ab_inv mi 1 pc ix ls st w
  | .invokespecial ix => match ab_lk (ab_ob (ic mi)) ix with
    | some _ => match st with
      | .ref _ :: st => match decide ((st.map Value.category).sum ≤ 8) with
        | true => ab_nx (pc + 3) ls st w
        | false => none
      | _ => none
    | none => ab_inv mi 2 pc ix ls st w
  | .ireturn => match st with
    | [.int v] => match ab_rfit (ir mi) v with
      | true => some (.inr (.inl (some (.int v), w)))
      | false => none
    | _ => none
  | .lreturn => match st with
    | [.long v] => match decide (ir mi = some .long) with
      | true => some (.inr (.inl (some (.long v), w)))
      | false => none
    | _ => none
  | .areturn => match st with
    | [.ref v] => match ir mi with
      | some (.object _) => some (.inr (.inl (some (.ref v), w)))
      | _ => none
    | [.retAddr v] => match ir mi with
      | some (.object _) => some (.inr (.inl (some (.retAddr v), w)))
      | _ => none
    | [.null] => match ir mi with
      | some (.object _) => some (.inr (.inl (some .null, w)))
      | _ => none
    | _ => none
  | .return_ => match st with
    | [] => match ir mi with
      | none => some (.inr (.inl (none, w)))
      | some _ => none
    | _ => none
  | _ => none
def ab_stp (X : List Int32) (mi : ab_I) (pc : Nat) (ls : List (Option Value)) (st : List Value) (w : ab_W) : Option ab_R := match ab_lk (it_ mi) pc with
  | some (i, _) => ab_ex X mi i pc ls st w
  | none => none
def ab_f1 (v : Value) : List (Option Value) := match v with
  | .long _ => [some v, none]
  | .double _ => [some v, none]
  | _ => [some v]
def ab_ent (L : Nat) (as : List Value) : List (Option Value) :=
  let l := as.flatMap ab_f1
  l ++ List.replicate (L - l.length) none
def ab_run (X : List Int32) : Nat → Nat → Nat → List (Option Value) → List Value → ab_W → Option (Option Value × ab_W)
  | 0, _, _, _, _, _ => none
  | n + 1, k, pc, ls, st, w => match ab_stp X (ab_mi k) pc ls st w with
    | none => none
    | some (.inl (pc', ls', st', w')) => ab_run X n k pc' ls' st' w'
    | some (.inr (.inl r)) => some r
    | some (.inr (.inr (k', as, (pc', ls', st', w')))) => match ab_run X n k' 0 (ab_ent (iL (ab_mi k')) as) [] w' with
      | none => none
      | some (v, w1) => ab_run X n k pc' ls' (v.toList ++ st') w1
theorem ab_mono1 (X : List Int32) : ∀ n k pc ls st w r, ab_run X n k pc ls st w = some r → ab_run X (n + 1) k pc ls st w = some r := by
  intro n
  induction n with
  | zero => intro k pc ls st w r h; cases h
  | succ n ih =>
    intro k pc ls st w r h
    unfold ab_run at h ⊢
    generalize ab_stp X (ab_mi k) pc ls st w = q at h ⊢
    match q, h with
    | some (.inl (pc', ls', st', w')), h => exact ih _ _ _ _ _ _ h
    | some (.inr (.inl r')), h => exact h
    | some (.inr (.inr (k', as, (pc', ls', st', w')))), h =>
      dsimp only at h ⊢
      cases e : ab_run X n k' 0 (ab_ent (iL (ab_mi k')) as) [] w' with
      | none => rw [e] at h; cases h
      | some p =>
        rw [e] at h
        rw [ih _ _ _ _ _ _ e]
        exact ih _ _ _ _ _ _ h
theorem ab_mono (X : List Int32) {n m k pc : Nat} {ls : List (Option Value)} {st : List Value} {w : ab_W} {r : Option Value × ab_W} (h : n ≤ m) (e : ab_run X n k pc ls st w = some r) : ab_run X m k pc ls st w = some r := by
  obtain ⟨d, rfl⟩ := Nat.exists_eq_add_of_le h
  clear h
  induction d with
  | zero => exact e
  | succ d ih => exact ab_mono1 X _ _ _ _ _ _ _ ih
/-- from a place in a method it comes to its end -/
def ab_G (X : List Int32) (k pc : Nat) (ls : List (Option Value)) (st : List Value) (w : ab_W) (v : Option Value) (w' : ab_W) : Prop := ∃ n, ab_run X n k pc ls st w = some (v, w')
/-- a call of a method -/
def ab_M (X : List Int32) (k : Nat) (as : List Value) (w : ab_W) (v : Option Value) (w' : ab_W) : Prop := ab_G X k 0 (ab_ent (iL (ab_mi k)) as) [] w v w'
section AB
variable {X : List Int32} {k k' pc pc' : Nat} {ls ls' : List (Option Value)} {st st' as : List Value} {w w' w1 w2 : ab_W} {v v1 : Option Value}
theorem ab_s (h : ab_stp X (ab_mi k) pc ls st w = some (.inl (pc', ls', st', w'))) (t : ab_G X k pc' ls' st' w' v w2) : ab_G X k pc ls st w v w2 := by
  obtain ⟨n, e⟩ := t
  exact ⟨n + 1, by unfold ab_run; rw [h]; exact e⟩
theorem ab_r (h : ab_stp X (ab_mi k) pc ls st w = some (.inr (.inl (v, w2)))) : ab_G X k pc ls st w v w2 :=
  ⟨1, by unfold ab_run; rw [h]⟩
theorem ab_c (h : ab_stp X (ab_mi k) pc ls st w = some (.inr (.inr (k', as, (pc', ls', st', w'))))) (a : ab_M X k' as w' v1 w1) (t : ab_G X k pc' ls' (v1.toList ++ st') w1 v w2) : ab_G X k pc ls st w v w2 := by
  obtain ⟨n, e⟩ := t
  obtain ⟨m, f⟩ := a
  refine ⟨max n m + 1, ?_⟩
  unfold ab_run
  rw [h]
  dsimp only
  rw [ab_mono X (Nat.le_max_right n m) f]
  exact ab_mono X (Nat.le_max_left n m) e
end AB
end
section
/-! THE TABLES AGAINST THE CLAIM: decode rows, words by their places -/
def ab_sz : Instr → Nat
  | .bipush _ => 2 | .iload _ => 2 | .lload _ => 2 | .aload _ => 2 | .istore _ => 2 | .astore _ => 2 | .ldc _ => 2 | .newarray _ => 2
  | .sipush _ => 3 | .ldc_w _ => 3 | .ldc2_w _ => 3 | .iinc _ _ => 3 | .ifCond _ _ => 3 | .if_icmp _ _ => 3 | .ifnull _ => 3 | .ifnonnull _ => 3 | .goto _ => 3
  | .getfield _ => 3 | .putfield _ => 3 | .getstatic _ => 3 | .new _ => 3 | .anewarray _ => 3 | .invokestatic _ => 3 | .invokevirtual _ => 3 | .invokespecial _ => 3
  | .tableswitch _ _ _ _ => 0
  | _ => 1
def ab_nm (c : Nat) : String := ab_own.getD c ""
def ab_ck1 (i : ab_I) : Bool := (it_ i).all (fun e => decide (decode (ib i) e.1 = .ok (e.2.1, e.2.2)) && (ab_sz e.2.1 == 0 || e.2.2 == ab_sz e.2.1))
def ab_ck2 (i : ab_I) : Bool :=
  decide (lw_tbl[(ip_ i).1]? = some (.code (iy i) (ib i) (iL i) (ir i))) &&
  decide (lw_tbl[(ip_ i).2.1]? = some (cond (is_ i) (.static (iy i)) (.instanceMethod (iy i)))) &&
  decide (lw_tbl[(ip_ i).2.2.1]? = some (.initialized (iy i).cls)) &&
  ((is_ i || (iy i).name == "<init>") || decide (lw_tbl[(ip_ i).2.2.2]? = some (.selects (iy i).cls (iy i) (iy i)))) &&
  decide ((iy i).cls = ab_nm (ic i)) && decide ((iy i).cls ≠ "java/lang/invoke/MethodHandle" ∧ (iy i).cls ≠ "java/lang/invoke/VarHandle") &&
  decide ((parseMethodDescriptor (iy i).desc).map (fun d => d.parameters.length + cond (is_ i) 0 1) = some (in_ i)) &&
  Jvm.plainName (iy i).cls && (!((iy i).name == "<init>") || decide (ir i = none)) && Nat.ble 1 (ih_ i) && Nat.ble (ih_ i) 11 && Nat.blt (ic i) 13
end
section
/-! SOUNDNESS: what the abstract machine does, the machine does -/
def ab_gw : List Jvm.Cond := lw_tbl.filter goodWord
def ab_nst : Jvm.Cond → Bool
  | .fieldLinkNest _ _ _ _ _ _ => true
  | .methodLinkNest _ _ _ _ => true
  | _ => false
def ab_lens : List Nat := ab_str.map List.length
def ab_v (N : Nat) (E : Nat → Value) : Value → Value
  | .ref r => .ref (N + r)
  | .retAddr j => E j
  | v => v
def ab_q (N : Nat) (vs : List Value) : Nat → Option Nat := fun j => match vs[j]? with
  | some (.ref r) => some (N + r)
  | _ => none
def ab_e (N : Nat) (E : Nat → Value) (cI cH cS : ClassId) : ab_E → va_E
  | .inr xs => .inl (cI, xs.length, .inl (fun j => xs.getD j 0))
  | .inl (k, vs) => if k = 7 then .inl (cH, vs.length, .inr (.inr (.inr (.inr (ab_q N vs))))) else if k = 8 then .inl (cS, vs.length, .inr (.inr (.inr (.inr (ab_q N vs))))) else .inr (k, vs.map (ab_v N E))
def ab_ws (N : Nat) (E : Nat → Value) (cI cH cS : ClassId) (w : ab_W) : va_W := w.mapIdx (fun i c => (N + i, ab_e N E cI cH cS c))
def ab_sl : ab_E → Nat
  | .inr xs => xs.length
  | .inl (_, vs) => vs.length
def ab_z (w : ab_W) : Nat := (w.map ab_sl).sum
theorem ab_lk_mem {α : Type} : ∀ (l : List (Nat × α)) (q : Nat) (x : α), ab_lk l q = some x → (q, x) ∈ l
  | [], _, _, h => by cases h
  | (p, y) :: l, q, x, h => by
    unfold ab_lk at h
    cases e : Nat.beq p q with
    | true =>
      rw [e] at h
      cases h
      rw [Nat.eq_of_beq_eq_true e]
      exact List.mem_cons_self
    | false =>
      rw [e] at h
      exact List.mem_cons_of_mem _ (ab_lk_mem l q x h)
theorem ab_nxe {pc pc' : Nat} {ls ls' : List (Option Value)} {st st' : List Value} {w w' : ab_W} (h : ab_nx pc ls st w = some (.inl (pc', ls', st', w'))) : pc = pc' ∧ ls = ls' ∧ st = st' ∧ w = w' := by
  unfold ab_nx at h
  cases h
  exact ⟨rfl, rfl, rfl, rfl⟩
theorem ab_tge {pc t : Nat} {off : Int} (h : ab_tg pc off = some t) : (pc : Int) + off = (t : Int) := by
  unfold ab_tg at h
  split at h
  next n e => cases h; exact e
  next => cases h
theorem ab_goe {pc pc' : Nat} {off : Int} {ls ls' : List (Option Value)} {st st' : List Value} {w w' : ab_W} (h : ab_go pc off ls st w = some (.inl (pc', ls', st', w'))) : (pc : Int) + off = (pc' : Int) ∧ ls = ls' ∧ st = st' ∧ w = w' := by
  unfold ab_go at h
  split at h
  next t e =>
    obtain ⟨rfl, h1, h2, h3⟩ := ab_nxe h
    exact ⟨ab_tge e, h1, h2, h3⟩
  next => cases h
theorem ab_ife {b : Bool} {pc pc' : Nat} {off : Int} {ls ls' : List (Option Value)} {st st' : List Value} {w w' : ab_W} (h : ab_if b pc off ls st w = some (.inl (pc', ls', st', w'))) : ls = ls' ∧ st = st' ∧ w = w' ∧ ∃ t : Nat, (pc : Int) + off = (t : Int) ∧ pc' = cond b t (pc + 3) := by
  unfold ab_if at h
  split at h
  next t e =>
    split at h
    · obtain ⟨rfl, h1, h2, h3⟩ := ab_nxe h
      exact ⟨h1, h2, h3, t, ab_tge e, rfl⟩
    · obtain ⟨rfl, h1, h2, h3⟩ := ab_nxe h
      exact ⟨h1, h2, h3, t, ab_tge e, rfl⟩
  next => cases h
theorem ab_in_iff {i : Int32} {n : Nat} (h : ab_in i n = true) : vp_in i n := by
  unfold ab_in at h
  simp only [Bool.and_eq_true, Bool.not_eq_true', decide_eq_false_iff_not, decide_eq_true_eq] at h
  rintro (q | q)
  · exact h.1 q
  · omega
section SW
variable {N : Nat} {E : Nat → Value} {cI cH cS : ClassId}
theorem ab_ws_get {w : ab_W} {i : Nat} {x : ab_E} (h : w[i]? = some x) : (ab_ws N E cI cH cS w)[i]? = some (N + i, ab_e N E cI cH cS x) := by
  simp [ab_ws, h]
theorem ab_ws_set {w : ab_W} {i : Nat} {x : ab_E} : (ab_ws N E cI cH cS w).set i (N + i, ab_e N E cI cH cS x) = ab_ws N E cI cH cS (w.set i x) := by
  unfold ab_ws
  apply List.ext_getElem?
  intro j
  by_cases hj : i = j
  · subst hj
    by_cases hl : i < w.length
    · simp [List.getElem?_set, hl]
    · simp [List.getElem?_set, hl]
  · simp [List.getElem?_set, hj]
theorem ab_ws_app {w : ab_W} {x : ab_E} : ab_ws N E cI cH cS w ++ [(N + w.length, ab_e N E cI cH cS x)] = ab_ws N E cI cH cS (w ++ [x]) := by
  unfold ab_ws
  rw [List.mapIdx_append]
  simp
theorem ab_ws_D (w : ab_W) : va_D (fun q => N ≤ q) (ab_ws N E cI cH cS w) := by
  have key : ∀ (k : Nat) (q : Nat × va_E), (ab_ws N E cI cH cS w)[k]? = some q → q.1 = N + k := by
    intro k q h
    unfold ab_ws at h
    rw [List.getElem?_mapIdx] at h
    cases hw : w[k]? with
    | none => rw [hw] at h; cases h
    | some x => rw [hw] at h; cases h; rfl
  refine ⟨fun i j p q hp hq e => ?_, fun k q h => ?_⟩
  · rw [key i p hp, key j q hq] at e
    omega
  · rw [key k q h]
    exact Nat.le_add_right _ _
theorem ab_z_set {w : ab_W} {i : Nat} {x y : ab_E} (h : w[i]? = some x) (e : ab_sl y = ab_sl x) : ab_z (w.set i y) = ab_z w := by
  unfold ab_z
  congr 1
  apply List.ext_getElem?
  intro j
  by_cases hj : i = j
  · subst hj
    have hl : i < w.length := (List.getElem?_eq_some_iff.mp h).1
    simp [List.getElem?_set, hl, e]
    rw [List.getElem?_eq_getElem hl] at h
    cases h
    rfl
  · simp [List.getElem?_set, hj]
theorem ab_e_i {xs : List Int32} : ab_e N E cI cH cS (.inr xs) = .inl (cI, xs.length, .inl (fun j => xs.getD j 0)) := rfl
theorem ab_e_o {k : Nat} {vs : List Value} (h : k < 7) : ab_e N E cI cH cS (.inl (k, vs)) = .inr (k, vs.map (ab_v N E)) := by
  unfold ab_e
  dsimp only
  rw [if_neg (by omega), if_neg (by omega)]
theorem ab_up_i {xs : List Int32} {i : Nat} {x : Int32} (h : i < xs.length) : upd (fun j => xs.getD j 0) i x = fun j => (xs.set i x).getD j 0 := by
  funext j
  unfold upd
  by_cases hj : j = i
  · subst hj
    simp [h, List.getElem?_set]
  · simp [hj, List.getElem?_set, Ne.symm hj]
theorem ab_up_q {vs : List Value} {i r : Nat} (h : i < vs.length) : va_up (ab_q N vs) i (some (N + r)) = ab_q N (vs.set i (.ref r)) := by
  funext j
  unfold va_up ab_q
  by_cases hj : j = i
  · subst hj
    simp [h, List.getElem?_set]
  · simp [hj, List.getElem?_set, Ne.symm hj]
end SW
/-- the locals as the abstract machine has them -/
def ab_ll (N : Nat) (E : Nat → Value) (ls : List (Option Value)) : List (Nat × Value) := (List.range ls.length).filterMap (fun j => match ls[j]? with
  | some (some v) => some (j, ab_v N E v)
  | _ => none)
def ab_L (N : Nat) (E : Nat → Value) (nL : Nat) (lsR : Array Slot) (ls : List (Option Value)) : Prop := ls.length ≤ nL ∧ lv_has lsR nL (ab_ll N E ls)
theorem ab_ll_mem {N : Nat} {E : Nat → Value} {ls : List (Option Value)} {j : Nat} {v : Value} (h : ls[j]? = some (some v)) : (j, ab_v N E v) ∈ ab_ll N E ls := by
  unfold ab_ll
  refine List.mem_filterMap.mpr ⟨j, List.mem_range.mpr (List.getElem?_eq_some_iff.mp h).1, ?_⟩
  rw [h]
theorem ab_ll_of {N : Nat} {E : Nat → Value} {ls : List (Option Value)} {q : Nat × Value} (h : q ∈ ab_ll N E ls) : ∃ v, ls[q.1]? = some (some v) ∧ q.2 = ab_v N E v := by
  unfold ab_ll at h
  obtain ⟨j, -, e⟩ := List.mem_filterMap.mp h
  split at e
  next v hv => cases e; exact ⟨v, hv, rfl⟩
  next => cases e
theorem ab_L_at {N : Nat} {E : Nat → Value} {nL : Nat} {lsR : Array Slot} {ls : List (Option Value)} (hL : ab_L N E nL lsR ls) {j : Nat} {v : Value} (h : ls[j]? = some (some v)) : lsR[j]? = some (.val (ab_v N E v)) := hL.2.2.2 _ (ab_ll_mem h)
theorem ab_v_cat {N : Nat} {E : Nat → Value} (hE : ∀ j, E j = .null ∨ ∃ a, E j = .ref a) (u : Value) : (ab_v N E u).category = u.category := by
  cases u with
  | retAddr j => rcases hE j with h | ⟨a, h⟩ <;> (show (E j).category = _; rw [h]; rfl)
  | _ => rfl
theorem ab_L_set1 {N : Nat} {E : Nat → Value} (hE : ∀ j, E j = .null ∨ ∃ a, E j = .ref a) {nL : Nat} {lsR' : Array Slot} {ls ls' : List (Option Value)} {i : Nat} {v : Value} (h : ab_set1 ls i v = some ls') (hL : ls.length ≤ nL)
    (h' : lv_has lsR' nL ((i, ab_v N E v) :: (ab_ll N E ls).filter (fun q => !(q.1 == i) && !(q.1 + 1 == i && q.2.category == 2)))) : ab_L N E nL lsR' ls' := by
  have key : ls' = ls.set i (some v) ∧ i < ls.length ∧ ∀ (j : Nat) (u : Value), i = j + 1 → ls[j]? = some (some u) → ¬ u.category = 2 := by
    unfold ab_set1 at h
    split at h
    · split at h
      next hl => cases h; exact ⟨rfl, hl, fun j x e => by omega⟩
      next => cases h
    · split at h
      next => cases h
      next => cases h
      next j hn1 hn2 =>
        split at h
        next hl =>
          cases h
          refine ⟨rfl, hl, fun j' u e e2 => ?_⟩
          cases e
          cases u with
          | long x => exact absurd e2 (hn1 x)
          | double x => exact absurd e2 (hn2 x)
          | _ => simp [Value.category]
        next => cases h
  obtain ⟨rfl, hl, hn⟩ := key
  refine ⟨by rw [List.length_set]; exact hL, h'.1, h'.2.1, fun q hq => ?_⟩
  obtain ⟨u, h1, h2⟩ := ab_ll_of hq
  refine h'.2.2 q ?_
  by_cases hj : i = q.1
  · rw [List.getElem?_set, if_pos hj, if_pos (hj ▸ hl)] at h1
    cases h1
    obtain ⟨q1, q2⟩ := q
    dsimp only at hj h2
    subst hj; subst h2
    exact List.mem_cons_self
  · rw [List.getElem?_set, if_neg hj] at h1
    refine List.mem_cons_of_mem _ (List.mem_filter.mpr ⟨?_, ?_⟩)
    · have := ab_ll_mem (N := N) (E := E) h1
      rw [← h2] at this
      exact this
    · have hne : (q.1 == i) = false := by simp; omega
      rw [hne]
      simp only [Bool.not_false, Bool.true_and, Bool.not_eq_true', Bool.and_eq_false_iff]
      by_cases h3 : q.1 + 1 = i
      · right
        rw [h2, ab_v_cat hE]
        have h4 := hn q.1 u h3.symm h1
        simp; exact h4
      · left
        simp; exact h3
theorem ab_set1_lt {ls ls' : List (Option Value)} {i : Nat} {v : Value} (h : ab_set1 ls i v = some ls') : i < ls.length := by
  unfold ab_set1 at h
  split at h
  · split at h
    next hl => exact hl
    next => cases h
  · split at h
    next => cases h
    next => cases h
    next =>
      split at h
      next hl => exact hl
      next => cases h
theorem ab_L_set2 {N : Nat} {E : Nat → Value} (hE : ∀ j, E j = .null ∨ ∃ a, E j = .ref a) {nL : Nat} {lsR' : Array Slot} {ls ls' : List (Option Value)} {i : Nat} {v : Value} (h : ab_set2 ls i v = some ls') (hL : ls.length ≤ nL)
    (h' : lv_has lsR' nL ((i, ab_v N E v) :: (ab_ll N E ls).filter (fun q => !(q.1 == i) && (!(q.1 == i + 1) && !(q.1 + 1 == i && q.2.category == 2))))) : ab_L N E nL lsR' ls' := by
  have key : ls' = (ls.set i (some v)).set (i + 1) none ∧ i + 1 < ls.length ∧ ∀ (j : Nat) (u : Value), i = j + 1 → ls[j]? = some (some u) → ¬ u.category = 2 := by
    unfold ab_set2 at h
    split at h
    · split at h
      next hl => cases h; exact ⟨rfl, hl, fun j x e => by omega⟩
      next => cases h
    · split at h
      next => cases h
      next => cases h
      next j hn1 hn2 =>
        split at h
        next hl =>
          cases h
          refine ⟨rfl, hl, fun j' u e e2 => ?_⟩
          cases e
          cases u with
          | long x => exact absurd e2 (hn1 x)
          | double x => exact absurd e2 (hn2 x)
          | _ => simp [Value.category]
        next => cases h
  obtain ⟨rfl, hl, hn⟩ := key
  refine ⟨by rw [List.length_set, List.length_set]; exact hL, h'.1, h'.2.1, fun q hq => ?_⟩
  obtain ⟨u, h1, h2⟩ := ab_ll_of hq
  refine h'.2.2 q ?_
  by_cases hk : i + 1 = q.1
  · rw [List.getElem?_set, if_pos hk] at h1
    split at h1 <;> cases h1
  rw [List.getElem?_set, if_neg hk] at h1
  by_cases hj : i = q.1
  · rw [List.getElem?_set, if_pos hj, if_pos (by omega)] at h1
    cases h1
    obtain ⟨q1, q2⟩ := q
    dsimp only at hj h2
    subst hj; subst h2
    exact List.mem_cons_self
  · rw [List.getElem?_set, if_neg hj] at h1
    refine List.mem_cons_of_mem _ (List.mem_filter.mpr ⟨?_, ?_⟩)
    · have := ab_ll_mem (N := N) (E := E) h1
      rw [← h2] at this
      exact this
    · have hne : (q.1 == i) = false := by simp; omega
      have hne2 : (q.1 == i + 1) = false := by simp; omega
      rw [hne, hne2]
      simp only [Bool.not_false, Bool.true_and, Bool.not_eq_true', Bool.and_eq_false_iff]
      by_cases h3 : q.1 + 1 = i
      · right
        rw [h2, ab_v_cat hE]
        have h4 := hn q.1 u h3.symm h1
        simp; exact h4
      · left
        simp; exact h3
theorem ab_set2_lt {ls ls' : List (Option Value)} {i : Nat} {v : Value} (h : ab_set2 ls i v = some ls') : i + 1 < ls.length := by
  unfold ab_set2 at h
  split at h
  · split at h
    next hl => exact hl
    next => cases h
  · split at h
    next => cases h
    next => cases h
    next =>
      split at h
      next hl => exact hl
      next => cases h
def ab_fm (as : List Value) : List (Option Value) := as.flatMap ab_f1
theorem ab_ent_mem {N : Nat} {E : Nat → Value} (hE : ∀ j, E j = .null ∨ ∃ a, E j = .ref a) : ∀ (as : List Value) (o i : Nat) (v : Value), (ab_fm as)[i]? = some (some v) → (o + i, ab_v N E v) ∈ lv_args o (as.map (ab_v N E))
  | [], o, i, v, h => by simp [ab_fm] at h
  | a :: as, o, i, v, h => by
    have ih := ab_ent_mem (N := N) hE as
    have e0 : ab_fm (a :: as) = ab_f1 a ++ ab_fm as := by
      unfold ab_fm
      rw [List.flatMap_cons]
    rw [e0] at h
    show _ ∈ lv_args o (ab_v N E a :: as.map (ab_v N E))
    unfold lv_args
    rw [ab_v_cat hE]
    by_cases hc : a.category = 2
    · have e1 : ab_f1 a = [some a, none] := by
        cases a <;> first | rfl | (simp [Value.category] at hc)
      rw [e1] at h
      match i, h with
      | 0, h => cases h; exact List.mem_cons_self
      | 1, h => cases h
      | i + 2, h =>
        have h' : (ab_fm as)[i]? = some (some v) := h
        have := ih (o + 2) i v h'
        refine List.mem_cons_of_mem _ ?_
        rw [if_pos hc, show o + (i + 2) = o + 2 + i by omega]
        exact this
    · have e1 : ab_f1 a = [some a] := by
        cases a <;> first | rfl | (simp [Value.category] at hc)
      rw [e1] at h
      match i, h with
      | 0, h => cases h; exact List.mem_cons_self
      | i + 1, h =>
        have h' : (ab_fm as)[i]? = some (some v) := h
        have := ih (o + 1) i v h'
        refine List.mem_cons_of_mem _ ?_
        rw [if_neg hc, show o + (i + 1) = o + 1 + i by omega]
        exact this
theorem ab_fm_len {N : Nat} {E : Nat → Value} (hE : ∀ j, E j = .null ∨ ∃ a, E j = .ref a) (as : List Value) : (ab_fm as).length = (lg_sl (as.map (ab_v N E))).length := by
  induction as with
  | nil => rfl
  | cons a as ih =>
    have e0 : ab_fm (a :: as) = ab_f1 a ++ ab_fm as := by
      unfold ab_fm
      rw [List.flatMap_cons]
    have e2 : lg_sl ((a :: as).map (ab_v N E)) = (if (ab_v N E a).category = 2 then [.val (ab_v N E a), .second] else [.val (ab_v N E a)]) ++ lg_sl (as.map (ab_v N E)) := by
      unfold lg_sl
      rw [List.map_cons, List.flatMap_cons]
    rw [e0, e2, List.length_append, List.length_append, ih, ab_v_cat hE]
    by_cases hc : a.category = 2
    · rw [if_pos hc]
      cases a <;> first | rfl | (simp [Value.category] at hc)
    · rw [if_neg hc]
      cases a <;> first | rfl | (simp [Value.category] at hc)
theorem ab_entry {N : Nat} {E : Nat → Value} (hE : ∀ j, E j = .null ∨ ∃ a, E j = .ref a) {L : Nat} {as : List Value} (h : (lg_sl (as.map (ab_v N E))).length ≤ L) : ab_L N E L ((lg_sl (as.map (ab_v N E)) ++ List.replicate (L - (lg_sl (as.map (ab_v N E))).length) Slot.unset).toArray) (ab_ent L as) := by
  have e0 : ab_ent L as = ab_fm as ++ List.replicate (L - (ab_fm as).length) none := rfl
  have hl := ab_fm_len (N := N) hE as
  have hv := lv_entry (as.map (ab_v N E)) h
  refine ⟨?_, hv.1, hv.2.1, fun q hq => ?_⟩
  · rw [e0, List.length_append, List.length_replicate]
    omega
  · obtain ⟨v, h1, h2⟩ := ab_ll_of hq
    refine hv.2.2 q ?_
    rw [e0] at h1
    by_cases hi : q.1 < (ab_fm as).length
    · rw [List.getElem?_append_left hi] at h1
      have := ab_ent_mem (N := N) hE as 0 q.1 v h1
      rw [Nat.zero_add, ← h2] at this
      exact this
    · rw [List.getElem?_append_right (by omega)] at h1
      have := List.eq_of_mem_replicate (List.mem_of_getElem? h1)
      cases this
/-! what holds outside, and of the tables -/
def ab_A (N : Nat) : Nat → Prop := fun q => N ≤ q
def ab_X2 (X : List Int32) (N : Nat) (E : Nat → Value) (U : State) (H : Heap) : Prop :=
  (∃ b : Nat, E 0 = .ref b ∧ va_X b X.length (fun j => X.getD j 0) U H ∧ b < N) ∧
  (∃ t : Nat, E 1 = .ref t ∧ va_Z "StairRow$House" "ABOVE" "[I" (.ref t) (ab_A N) U H ∧ va_T .int t 7 (fun j => .int (ab_above.getD j 0)) (ab_A N) U H) ∧
  (∃ adK adV : Nat → Nat, vk_S 17 ab_lens ab_str adK adV (ab_A N) U H ∧ (∀ i, i < 17 → E (10 + i) = .ref (adK i) ∧ E (50 + i) = .ref (adV i)) ∧ ∀ e ∈ ab_ks 4, vk_R "StairRow$Tape" e.1 (ab_strT.getD e.2.1 "") (adK e.2.1) U) ∧
  va_Z "java/lang/String" "COMPACT_STRINGS" "Z" (.int 1) (ab_A N) U H ∧
  va_Z "jdk/internal/util/Preconditions" "SIOOBE_FORMATTER" "Ljava/util/function/BiFunction;" (E 99) (ab_A N) U H
def ab_U (X : List Int32) (N : Nat) (E : Nat → Value) (cI cH cS : ClassId) (D : va_G) (w : ab_W) (U : State) : Prop :=
  va_P D vwCl (ab_ws N E cI cH cS w) U.heap ∧ U.heap.size = N + w.length ∧ va_K D vwCl [(cI, .int), (cH, .object RX0), (cS, .object RX3)] U ∧ va_AO RX0 U ∧ va_AO RX3 U ∧ (∀ x ∈ lw_tbl, ab_nst x = true → va_Nw x U) ∧ ab_X2 X N E U U.heap
theorem ab_Nw_warm {x : Jvm.Cond} (h : ab_nst x = true) {s U : State} (hW : s.WarmedH U.vm) (hZ : va_Nw x s) : va_Nw x U := by
  cases x with
  | fieldLinkNest a i b n d h => exact va_Nw.warmF hW hZ
  | methodLinkNest a i x h => exact va_Nw.warmM hW hZ
  | _ => cases h
theorem ab_Nw_same {x : Jvm.Cond} (h : ab_nst x = true) {s U : State} (hv : s.vm = U.vm) (hZ : va_Nw x s) : va_Nw x U := by
  cases x with
  | fieldLinkNest a i b n d h => exact va_Nw.same rfl hv hZ
  | methodLinkNest a i x h => exact va_Nw.same rfl hv hZ
  | _ => cases h
theorem ab_X2_at {X : List Int32} {N : Nat} {E : Nat → Value} {s U : State} {H : Heap} (hW : s.WarmedH U.vm) (hz : N ≤ s.heap.size) (hk : ∀ a : Nat, a < s.heap.size → ¬ ab_A N a → H[a]? = s.heap[a]?) (h : ab_X2 X N E s s.heap) : ab_X2 X N E U H := by
  have hal := hW.alike
  obtain ⟨⟨b, b1, b2, b3⟩, ⟨t, t1, t2, t3⟩, ⟨adK, adV, k1, k2, k3⟩, h4, h5⟩ := h
  exact ⟨⟨b, b1, (b2.kept (hk b (by omega) (by unfold ab_A; omega))).moved hal, b3⟩, ⟨t, t1, (t2.kept hk).moved hal, (t3.kept hk).moved hal⟩, ⟨adK, adV, (k1.kept hk).moved hal, k2, fun e he => (k3 e he).warm hW⟩, (h4.kept hk).moved hal, (h5.kept hk).moved hal⟩
theorem ab_U_blind {X : List Int32} {N : Nat} {E : Nat → Value} {cI cH cS : ClassId} {D : va_G} {w : ab_W} {s U : State} (hh : U.heap = s.heap) (hv : U.vm = s.vm) (h : ab_U X N E cI cH cS D w s) : ab_U X N E cI cH cS D w U := by
  obtain ⟨h1, h2, h3, h4, h5, h6, ⟨⟨b, b1, b2, b3⟩, ⟨t, t1, t2, t3⟩, ⟨adK, adV, k1, k2, k3⟩, h9, h10⟩⟩ := h
  have hal : s.vm.Alike U.vm := by rw [hv]; exact Vm.Alike.refl _
  refine ⟨by rw [hh]; exact h1, by rw [hh]; exact h2, va_K.moved hal h3, h4.moved hal, h5.moved hal, fun x hx hn => ab_Nw_same hn hv.symm (h6 x hx hn), ?_⟩
  rw [hh]
  exact ⟨⟨b, b1, b2.moved hal, b3⟩, ⟨t, t1, t2.moved hal, t3.moved hal⟩, ⟨adK, adV, k1.moved hal, k2, fun e he => (k3 e he).same hv⟩, h9.moved hal, h10.moved hal⟩
/-! the checks of the pool's rows -/
def ab_ckF (c : Nat) (e : Nat × Nat × Nat × Bool × Nat) : Bool := match e with
  | (ix, ci, fi, nest, p) => match Nat.blt ci 7 with
    | true => Nat.blt fi (ab_N ci) && decide (lw_tbl[p]? = some (cond nest (.fieldLinkNest (ab_nm c) ix (ab_nm ci) (ab_T ci fi).2.1 (ab_T ci fi).2.2.1 "StairRow") (.fieldLink (ab_nm c) ix (ab_nm ci) (ab_T ci fi).2.1 (ab_T ci fi).2.2.1)))
    | false => match fi with
      | 0 => decide (lw_tbl[p]? = some (.fieldLink (ab_nm c) ix "java/lang/String" "value" "[B"))
      | _ => decide (lw_tbl[p]? = some (.fieldLink (ab_nm c) ix "java/lang/String" "coder" "B"))
def ab_ckM (c : Nat) (e : Nat × Nat × Bool × Nat) : Bool := match e with
  | (ix, k, nest, p) => Nat.blt k 246 && decide (lw_tbl[p]? = some (cond nest (.methodLinkNest (ab_nm c) ix (iy (ab_mi k)) "StairRow") (.methodLink (ab_nm c) ix (iy (ab_mi k)))))
def ab_ckW (c : Nat) : Bool :=
  (ab_nw c).all (fun e => Nat.blt e.2.1 7 && decide (lw_tbl[e.2.2]? = some (.classLink (ab_nm c) e.1 (ab_nm e.2.1)))) &&
  (ab_na c).all (fun e => decide (lw_tbl[e.2.2]? = some (.classLink (ab_nm c) e.1 (ab_nm (ab_el e.2.1))))) &&
  (ab_ki c).all (fun e => decide (lw_tbl[e.2.2]? = some (.constant (ab_nm c) e.1 e.2.1))) &&
  (ab_kl c).all (fun e => decide (lw_tbl[e.2.2]? = some (.constantLong (ab_nm c) e.1 e.2.1))) &&
  (ab_ks c).all (fun e => Nat.beq c 4 && Nat.blt e.2.1 17) &&
  (ab_st c).all (fun e => decide (lw_tbl[e.2.2]? = some (match e.2.1 with
    | 0 => .fieldLink (ab_nm c) e.1 "StairRow$House" "ABOVE" "[I"
    | 1 => .fieldLink (ab_nm c) e.1 "java/lang/String" "COMPACT_STRINGS" "Z"
    | _ => .fieldLink (ab_nm c) e.1 "jdk/internal/util/Preconditions" "SIOOBE_FORMATTER" "Ljava/util/function/BiFunction;"))) &&
  (ab_ob c).all (fun e => decide (lw_tbl[e.2]? = some (.methodLink (ab_nm c) e.1 Lib.objectInit))) &&
  (ab_ac c).all (fun e => decide (lw_tbl[e.2]? = some (.methodLink (ab_nm c) e.1 arraycopyName))) &&
  (ab_mx c).all (fun e => decide (lw_tbl[e.2.2]? = some (.methodLink (ab_nm c) e.1 (match e.2.1 with | 0 => Lib.Math.max.name | _ => Lib.Math.min.name))))
theorem ab_c3F : (List.range 13).all (fun c => (ab_fl c).all (ab_ckF c)) = true := by decide +kernel
theorem ab_c3M : (List.range 13).all (fun c => (ab_me c).all (ab_ckM c)) = true := by decide +kernel
theorem ab_c3W : (List.range 13).all ab_ckW = true := by decide +kernel
theorem ab_cls : ∀ ci, ci < 7 → vwCl[ci]? = some (ab_nm ci, ab_T ci, ab_N ci) ∧ (∀ x ∈ u_ws (ab_nm ci) (ab_T ci) (ab_N ci), x ∈ ab_gw) ∧ (∀ k, k < ab_N ci → parseFieldDescriptor (ab_T ci k).2.2.1 = some (ab_cty ci k)) ∧ (∀ a, a < ab_N ci → ∀ b, b < ab_N ci → a ≠ b → (ab_T ci a).2.1 ≠ (ab_T ci b).2.1) ∧ (∀ k, k < ab_N ci → (ab_T ci k).1 = ab_nm ci) ∧ (Cond.instantiable (ab_nm ci) (ab_N ci) ∈ ab_gw) ∧ (Cond.initialized (ab_nm ci) ∈ ab_gw) := by
  have G : ∀ {ws : List Jvm.Cond}, (∀ x ∈ ws, x ∈ lw_tbl) → ws.all goodWord = true → ∀ x ∈ ws, x ∈ ab_gw := fun h1 h2 x hx => List.mem_filter.mpr ⟨h1 x hx, List.all_eq_true.mp h2 x hx⟩
  have P : ∀ (i : Nat) {x : Jvm.Cond}, lw_tbl[i]? = some x → goodWord x = true → x ∈ ab_gw := fun i x h1 h2 => List.mem_filter.mpr ⟨List.mem_of_getElem? h1, h2⟩
  intro ci h
  match ci, h with
  | 0, _ => exact ⟨rfl, G ab_inX0 (by decide +kernel), tyX0_ok, nmX0, by decide +kernel, P 149 (by decide +kernel) rfl, P 121 (by decide +kernel) rfl⟩
  | 1, _ => exact ⟨rfl, G ab_inX1 (by decide +kernel), tyX1_ok, nmX1, by decide +kernel, P 220 (by decide +kernel) rfl, P 122 (by decide +kernel) rfl⟩
  | 2, _ => exact ⟨rfl, G ab_inX2 (by decide +kernel), tyX2_ok, nmX2, by decide +kernel, P 142 (by decide +kernel) rfl, P 120 (by decide +kernel) rfl⟩
  | 3, _ => exact ⟨rfl, G ab_inX3 (by decide +kernel), tyX3_ok, nmX3, by decide +kernel, P 269 (by decide +kernel) rfl, P 124 (by decide +kernel) rfl⟩
  | 4, _ => exact ⟨rfl, G ab_inX4 (by decide +kernel), tyX4_ok, nmX4, by decide +kernel, P 239 (by decide +kernel) rfl, P 123 (by decide +kernel) rfl⟩
  | 5, _ => exact ⟨rfl, G ab_inX5 (by decide +kernel), tyX5_ok, nmX5, by decide +kernel, P 134 (by decide +kernel) rfl, P 119 (by decide +kernel) rfl⟩
  | 6, _ => exact ⟨rfl, G ab_inX6 (by decide +kernel), tyX6_ok, nmX6, by decide +kernel, P 951 (by decide +kernel) rfl, P 125 (by decide +kernel) rfl⟩
  | n + 7, h => exact absurd h (by omega)
def ab_B (p : Program) (s : State) (m : MethodId) (args : Array Value) (meth : Method) (c : Code) (mi : ab_I) (X : List Int32) (N : Nat) (E : Nat → Value) (cI cH cS : ClassId) (D : va_G) (w0 : ab_W) : Prop :=
  p.tables.exec = Jvm.exec ∧ c.code = ib mi ∧ c.maxLocals = iL mi ∧ s.vm.findClass (ab_nm (ic mi)) = some m.cls ∧ (∀ x ∈ ab_gw, x.before args s = true) ∧ ab_U X N E cI cH cS D w0 s ∧ meth.name = (iy mi).name ∧ ic mi < 13 ∧ (∀ j, E j = .null ∨ ∃ a, E j = .ref a) ∧ (1 ≤ ih_ mi)
def ab_J (p : Program) (l : Launch) (e : Env) (R : Room) (s : State) (m : MethodId) (args : Array Value) (below : List Frame) (meth : Method) (c : Code) (Q : State → Prop) (mi : ab_I) (N : Nat) (E : Nat → Value) (cI cH cS : ClassId) (D : va_G) (w0 : ab_W) (pc : Nat) (ls : List (Option Value)) (st : List Value) (w : ab_W) : Prop :=
  ∀ (H : Heap) (locs : List Loc) (lsR : Array Slot), va_P D vwCl (ab_ws N E cI cH cS w) H → H.size = N + w.length → va_S (ab_A N) s.heap H locs → ab_L N E (iL mi) lsR ls → W p l e R s m args below meth c H locs (w.length - w0.length) (ab_z w - ab_z w0) Q (F0 m pc lsR (st.map (ab_v N E)))
theorem ab_gwM {i : Nat} {x : Jvm.Cond} (h : lw_tbl[i]? = some x) (hg : goodWord x = true) : x ∈ ab_gw := List.mem_filter.mpr ⟨List.mem_of_getElem? h, hg⟩
theorem ab_fit_ok {N : Nat} {E : Nat → Value} (hE : ∀ j, E j = .null ∨ ∃ a, E j = .ref a) {ty : FieldType} {v : Value} (h : ab_fit ty v = true) : narrow ty (ab_v N E v) = ab_v N E v ∧ fits ty (ab_v N E v) = true := by
  have hA : ab_isA v = true → (ab_v N E v = .null ∨ ∃ a, ab_v N E v = .ref a) := by
    intro h
    cases v with
    | ref r => exact Or.inr ⟨_, rfl⟩
    | null => exact Or.inl rfl
    | retAddr j => exact hE j
    | _ => cases h
  cases ty with
  | int => cases v <;> first | (cases h; done) | exact ⟨rfl, rfl⟩
  | boolean =>
    cases v with
    | int v =>
      have h' : (v == 0 || v == 1) = true := h
      simp only [Bool.or_eq_true, beq_iff_eq] at h'
      rcases h' with rfl | rfl <;> exact ⟨rfl, rfl⟩
    | _ => cases h
  | object n => rcases hA h with e | ⟨a, e⟩ <;> (rw [e]; exact ⟨rfl, rfl⟩)
  | array t => rcases hA h with e | ⟨a, e⟩ <;> (rw [e]; exact ⟨rfl, rfl⟩)
  | _ => cases h
section ONE
variable {p : Program} {l : Launch} {e : Env} {R : Room} {s : State} {m : MethodId} {args : Array Value} {below : List Frame} {meth : Method} {c : Code} {Q : State → Prop} {mi : ab_I} {X : List Int32} {N : Nat} {E : Nat → Value} {cI cH cS : ClassId} {D : va_G} {w0 : ab_W}
variable {pc pc' : Nat} {ls ls' : List (Option Value)} {st st' : List Value} {w w' : ab_W}
theorem ab_newO (B : ab_B p s m args meth c mi X N E cI cH cS D w0) {ix ci pl : Nat} (hl : ab_lk (ab_nw (ic mi)) ix = some (ci, pl)) (hci : ci < 7) (hdg : decode (ib mi) pc = .ok (.new ix, 3)) (hg : w0.length ≤ w.length ∧ ab_z w0 ≤ ab_z w) (hR : (w ++ [Sum.inl (ci, ab_dfl ci)]).length - w0.length ≤ R.cells ∧ ab_z (w ++ [Sum.inl (ci, ab_dfl ci)]) - ab_z w0 ≤ R.slots)
    (k : ab_J p l e R s m args below meth c Q mi N E cI cH cS D w0 (pc + 3) ls (.ref w.length :: st) (w ++ [.inl (ci, ab_dfl ci)])) : ab_J p l e R s m args below meth c Q mi N E cI cH cS D w0 pc ls st w := by
  obtain ⟨hx, hb, hml, hown, hts, hU, hnm, hcl, hE, hh1⟩ := B
  obtain ⟨-, -, hK, -, -, -, -⟩ := hU
  obtain ⟨hv, hin, hty, hnn, hdc, hins, hini⟩ := ab_cls ci hci
  have hck : lw_tbl[pl]? = some (.classLink (ab_nm (ic mi)) ix (ab_nm ci)) := by
    have h1 := List.all_eq_true.mp ab_c3W (ic mi) (List.mem_range.mpr hcl)
    simp only [ab_ckW, Bool.and_eq_true] at h1
    have h2 := List.all_eq_true.mp h1.1.1.1.1.1.1.1.1 _ (ab_lk_mem _ _ _ hl)
    simp only [Bool.and_eq_true, decide_eq_true_eq] at h2
    exact h2.2
  intro H locs lsR hP hz hS hL
  have hKn := hK.1 ci _ hv
  have hlen : (w ++ [Sum.inl (ci, ab_dfl ci)]).length = w.length + 1 := by simp
  have hdl : ab_sl (.inl (ci, ab_dfl ci)) = ab_N ci := by simp [ab_sl, ab_dfl]
  have hzz : ab_z (w ++ [Sum.inl (ci, ab_dfl ci)]) = ab_z w + ab_N ci := by
    unfold ab_z
    rw [List.map_append, List.sum_append, List.map_singleton, hdl]
    simp
  rw [hlen, hzz] at hR
  refine W.newcK hx hb hown (hts _ (ab_gwM hck rfl)) (hts _ hins) (hts _ hini) rfl hdg (by omega) (by omega) hKn.2.1 hz fun H1 kC hkC e1 z1 o1 => ?_
  have hkp : ∀ (k : Nat) (x : Nat × va_E), (ab_ws N E cI cH cS w)[k]? = some x → H1[x.1]? = H[x.1]? := fun k x hx => o1 x.1 (by rw [← hz]; exact (hP k x hx).lt)
  have hde : ab_e N E cI cH cS (.inl (ci, ab_dfl ci)) = .inr (ci, (ab_dfl ci).map (ab_v N E)) := ab_e_o hci
  have hfs : ∀ j, j < ab_N ci → defaultValue (ab_cty ci j) = vp_V ((ab_dfl ci).map (ab_v N E)) j := by
    intro j hj
    unfold vp_V ab_dfl
    rw [List.getD_eq_getElem?_getD, List.getElem?_map, List.getElem?_map, List.getElem?_range hj]
    have : ∀ q, q < 7 → ∀ j, j < ab_N q → defaultValue (ab_cty q j) = ab_dv (ab_cty q j) ∧ ab_v N E (ab_dv (ab_cty q j)) = ab_dv (ab_cty q j) := by
      have h1 : ∀ q, q < 7 → ∀ j, j < ab_N q → defaultValue (ab_cty q j) = ab_dv (ab_cty q j) := by decide +kernel
      intro q hq j hj
      refine ⟨h1 q hq j hj, ?_⟩
      cases ab_cty q j <;> rfl
    obtain ⟨a1, a2⟩ := this ci hci j hj
    simp [a1, a2]
  have hP1 : va_P D vwCl (ab_ws N E cI cH cS (w ++ [.inl (ci, ab_dfl ci)])) H1 := by
    rw [← ab_ws_app]
    refine (hP.kept hkp).app (fun k x hx => ?_)
    have hk : k < 1 := (List.getElem?_eq_some_iff.mp hx).1
    rw [show k = 0 by omega] at hx
    cases hx
    show va_at D vwCl (N + w.length, ab_e N E cI cH cS (.inl (ci, ab_dfl ci))) H1
    rw [hde]
    exact ⟨_, hv, (u_born (ab_cty ci) hts hin hKn hkC e1 hty).to hfs⟩
  have hS1 : va_S (ab_A N) s.heap H1 locs := ⟨Nat.le_trans hS.1 (by omega), fun x h1 h2 => (o1 x (by rw [← hz]; exact Nat.lt_of_lt_of_le h1 hS.1)).trans (hS.2.1 x h1 h2), hS.2.2⟩
  have := k H1 locs lsR hP1 (by rw [z1, hlen]; omega) hS1 hL
  rw [hlen, hzz, show w.length + 1 - w0.length = w.length - w0.length + 1 by omega, show ab_z w + ab_N ci - ab_z w0 = ab_z w - ab_z w0 + ab_N ci by omega] at this
  exact this
theorem ab_newI (B : ab_B p s m args meth c mi X N E cI cH cS D w0) {n : Int32} (hn : ¬ n < 0) (hn2 : n.toNatClampNeg ≤ 100000) (hdg : decode (ib mi) pc = .ok (.newarray .int, 2)) (hg : w0.length ≤ w.length ∧ ab_z w0 ≤ ab_z w) (hR : (w ++ [Sum.inr (List.replicate n.toNatClampNeg 0)]).length - w0.length ≤ R.cells ∧ ab_z (w ++ [Sum.inr (List.replicate n.toNatClampNeg 0)]) - ab_z w0 ≤ R.slots)
    (k : ab_J p l e R s m args below meth c Q mi N E cI cH cS D w0 (pc + 2) ls (.ref w.length :: st) (w ++ [.inr (List.replicate n.toNatClampNeg 0)])) : ab_J p l e R s m args below meth c Q mi N E cI cH cS D w0 pc ls (.int n :: st) w := by
  obtain ⟨hx, hb, hml, hown, hts, hU, hnm, hcl, hE, hh1⟩ := B
  obtain ⟨-, -, hK, -, -, -, -⟩ := hU
  have harr : (Cond.arrayClass .int).before args s = true := hts _ (ab_gwM (i := 197) (by decide +kernel) rfl)
  intro H locs lsR hP hz hS hL
  have hlen : (w ++ [Sum.inr (List.replicate n.toNatClampNeg (0 : Int32))] : ab_W).length = w.length + 1 := by simp
  have hzz : ab_z (w ++ [Sum.inr (List.replicate n.toNatClampNeg (0 : Int32))]) = ab_z w + n.toNatClampNeg := by
    unfold ab_z
    rw [List.map_append, List.sum_append]
    simp [ab_sl]
  rw [hlen, hzz] at hR
  refine va_newaK (atype := .int) hx hb harr rfl hdg rfl hn rfl (by show _ * 4 ≤ _; omega) (by omega) (by omega) hz fun H1 cA e1 z1 o1 hAr hNm => ?_
  have hcA : cA = cI := by
    have h2 := (hK.2 0 _ rfl).2
    have h3 : s.vm.findClass ("[" ++ FieldType.int.toString) = some cI := h2
    have h4 : s.vm.findClass ("[" ++ FieldType.int.toString) = some cA := hNm
    exact Option.some.inj (h4.symm.trans h3)
  subst hcA
  have hkp : ∀ (k : Nat) (x : Nat × va_E), (ab_ws N E cA cH cS w)[k]? = some x → H1[x.1]? = H[x.1]? := fun k x hx => o1 x.1 (by rw [← hz]; exact (hP k x hx).lt)
  have hP1 : va_P D vwCl (ab_ws N E cA cH cS (w ++ [.inr (List.replicate n.toNatClampNeg 0)])) H1 := by
    rw [← ab_ws_app]
    refine (hP.kept hkp).app (fun k x hx => ?_)
    have hk : k < 1 := (List.getElem?_eq_some_iff.mp hx).1
    rw [show k = 0 by omega] at hx
    cases hx
    show H1[N + w.length]? = some (vp_cell cA _)
    rw [e1, vp_cell_i]
    rw [List.length_replicate]
    congr 1
    unfold arrV
    congr 2
    funext j
    have := j.2
    simp [List.getElem?_replicate, this]
    rfl
  have hS1 : va_S (ab_A N) s.heap H1 locs := ⟨Nat.le_trans hS.1 (by omega), fun x h1 h2 => (o1 x (by rw [← hz]; exact Nat.lt_of_lt_of_le h1 hS.1)).trans (hS.2.1 x h1 h2), hS.2.2⟩
  have := k H1 locs lsR hP1 (by rw [z1, hlen]; omega) hS1 hL
  rw [hlen, hzz, show w.length + 1 - w0.length = w.length - w0.length + 1 by omega, show ab_z w + n.toNatClampNeg - ab_z w0 = ab_z w - ab_z w0 + n.toNatClampNeg by omega] at this
  exact this
theorem ab_newQ (B : ab_B p s m args meth c mi X N E cI cH cS D w0) {n : Int32} {ix k0 pl : Nat} (hl : ab_lk (ab_na (ic mi)) ix = some (k0, pl)) (hk0 : k0 = 7 ∨ k0 = 8) (hn : ¬ n < 0) (hn2 : n.toNatClampNeg ≤ 100000) (hdg : decode (ib mi) pc = .ok (.anewarray ix, 3)) (hg : w0.length ≤ w.length ∧ ab_z w0 ≤ ab_z w) (hR : (w ++ [Sum.inl (k0, List.replicate n.toNatClampNeg Value.null)]).length - w0.length ≤ R.cells ∧ ab_z (w ++ [Sum.inl (k0, List.replicate n.toNatClampNeg Value.null)]) - ab_z w0 ≤ R.slots)
    (k : ab_J p l e R s m args below meth c Q mi N E cI cH cS D w0 (pc + 3) ls (.ref w.length :: st) (w ++ [.inl (k0, List.replicate n.toNatClampNeg .null)])) : ab_J p l e R s m args below meth c Q mi N E cI cH cS D w0 pc ls (.int n :: st) w := by
  obtain ⟨hx, hb, hml, hown, hts, hU, hnm, hcl, hE, hh1⟩ := B
  obtain ⟨-, -, hK, hO0, hO3, -, -⟩ := hU
  have hck : lw_tbl[pl]? = some (.classLink (ab_nm (ic mi)) ix (ab_nm (ab_el k0))) := by
    have h1 := List.all_eq_true.mp ab_c3W (ic mi) (List.mem_range.mpr hcl)
    simp only [ab_ckW, Bool.and_eq_true] at h1
    have h2 := List.all_eq_true.mp h1.1.1.1.1.1.1.1.2 _ (ab_lk_mem _ _ _ hl)
    simp only [decide_eq_true_eq] at h2
    exact h2
  have hAO : va_AO (ab_nm (ab_el k0)) s := by
    rcases hk0 with rfl | rfl
    · exact hO0
    · exact hO3
  intro H locs lsR hP hz hS hL
  have hlen : (w ++ [Sum.inl (k0, List.replicate n.toNatClampNeg Value.null)] : ab_W).length = w.length + 1 := by simp
  have hzz : ab_z (w ++ [Sum.inl (k0, List.replicate n.toNatClampNeg Value.null)]) = ab_z w + n.toNatClampNeg := by
    unfold ab_z
    rw [List.map_append, List.sum_append]
    simp [ab_sl]
  rw [hlen, hzz] at hR
  refine W.anew hx hb hown (hts _ (ab_gwM hck rfl)) (va_AO.use hAO) rfl hdg rfl hn (by omega) (by omega) (by omega) fun cA kA comp f1 f2 f3 f4 => ?_
  generalize hH1 : H.push ({ cls := cA, slots := Array.replicate n.toNatClampNeg .null, vm := .none } : Cell) = H1
  have z1 : H1.size = H.size + 1 := by rw [← hH1, Array.size_push]
  have e1 : H1[H.size]? = some (arrV cA n.toNatClampNeg (fun _ => .null)) := by rw [← hH1, Array.getElem?_push_size, ← arrV_new]
  have o1 : ∀ q : Nat, q < H.size → H1[q]? = H[q]? := fun q hq => by rw [← hH1, Array.getElem?_push, if_neg (Nat.ne_of_lt hq)]
  have hkp : ∀ (k : Nat) (x : Nat × va_E), (ab_ws N E cI cH cS w)[k]? = some x → H1[x.1]? = H[x.1]? := fun k x hx => o1 x.1 ((hP k x hx).lt)
  have hqn : ab_q N (List.replicate n.toNatClampNeg Value.null) = fun _ => none := by
    funext j
    unfold ab_q
    rw [List.getElem?_replicate]
    by_cases hj : j < n.toNatClampNeg <;> simp [hj]
  have hP1 : va_P D vwCl (ab_ws N E cI cH cS (w ++ [.inl (k0, List.replicate n.toNatClampNeg .null)])) H1 := by
    rw [← ab_ws_app]
    refine (hP.kept hkp).app (fun k x hx => ?_)
    have hk : k < 1 := (List.getElem?_eq_some_iff.mp hx).1
    rw [show k = 0 by omega] at hx
    cases hx
    rcases hk0 with rfl | rfl
    · have hcA : cA = cH := by
        obtain ⟨kB, comp2, g1, g2, g3, g4⟩ := (hK.2 1 _ rfl).2
        exact Option.some.inj (f1.symm.trans g4)
      subst hcA
      show H1[N + w.length]? = some (vp_cell cA ((List.replicate n.toNatClampNeg Value.null).length, .inr (.inr (.inr (.inr (ab_q N (List.replicate n.toNatClampNeg Value.null)))))))
      rw [hqn, List.length_replicate, vp_cell_q, ← hz]
      exact e1
    · have hcA : cA = cS := by
        obtain ⟨kB, comp2, g1, g2, g3, g4⟩ := (hK.2 2 _ rfl).2
        exact Option.some.inj (f1.symm.trans g4)
      subst hcA
      show H1[N + w.length]? = some (vp_cell cA ((List.replicate n.toNatClampNeg Value.null).length, .inr (.inr (.inr (.inr (ab_q N (List.replicate n.toNatClampNeg Value.null)))))))
      rw [hqn, List.length_replicate, vp_cell_q, ← hz]
      exact e1
  have hS1 : va_S (ab_A N) s.heap H1 locs := ⟨Nat.le_trans hS.1 (by omega), fun x h1 h2 => (o1 x (Nat.lt_of_lt_of_le h1 hS.1)).trans (hS.2.1 x h1 h2), hS.2.2⟩
  have := k H1 locs lsR hP1 (by rw [z1, hlen]; omega) hS1 hL
  rw [hlen, hzz, show w.length + 1 - w0.length = w.length - w0.length + 1 by omega, show ab_z w + n.toNatClampNeg - ab_z w0 = ab_z w - ab_z w0 + n.toNatClampNeg by omega] at this
  have e : (Value.ref w.length :: st).map (ab_v N E) = .ref H.size :: st.map (ab_v N E) := by rw [hz]; rfl
  rw [e] at this
  exact this
end ONE
end
section
section TWO
variable {p : Program} {l : Launch} {e : Env} {R : Room} {s : State} {m : MethodId} {args : Array Value} {below : List Frame} {meth : Method} {c : Code} {Q : State → Prop} {mi : ab_I} {X : List Int32} {N : Nat} {E : Nat → Value} {cI cH cS : ClassId} {D : va_G} {w0 : ab_W}
variable {pc pc' : Nat} {ls ls' : List (Option Value)} {st st' : List Value} {w w' : ab_W}
theorem ab_Wz {H : Heap} {locs : List Loc} {cells slots : Nat} {g : JFrame} (k : H.size ≤ s.heap.size + cells → W p l e R s m args below meth c H locs cells slots Q g) : W p l e R s m args below meth c H locs cells slots Q g := fun T hT X => k (by rw [← hT]; exact X.heapSize) T hT X
theorem ab_J_set (B : ab_B p s m args meth c mi X N E cI cH cS D w0) {i : Nat} {x y : ab_E} (hg : w0.length ≤ w.length) (hw : w[i]? = some x) (hs : ab_sl y = ab_sl x) {H : Heap} {locs : List Loc} {lsR : Array Slot} (k : ab_J p l e R s m args below meth c Q mi N E cI cH cS D w0 pc ls st (w.set i y)) (hP : va_P D vwCl ((ab_ws N E cI cH cS w).set i (N + i, ab_e N E cI cH cS y)) H) (hS : va_S (ab_A N) s.heap H locs) (hL : ab_L N E (iL mi) lsR ls) :
    W p l e R s m args below meth c H locs (w.length - w0.length) (ab_z w - ab_z w0) Q (F0 m pc lsR (st.map (ab_v N E))) := by
  obtain ⟨hx, hb, hml, hown, hts, hU, hnm, hcl, hE, hh1⟩ := B
  obtain ⟨-, hsz, hK, -, -, hN, hX2⟩ := hU
  rw [ab_ws_set] at hP
  have hi : i < w.length := (List.getElem?_eq_some_iff.mp hw).1
  refine ab_Wz fun hle => ?_
  have hlow : N + w.length ≤ H.size := by
    have hl : w.length - 1 < (w.set i y).length := by rw [List.length_set]; omega
    have h1 := ab_ws_get (N := N) (E := E) (cI := cI) (cH := cH) (cS := cS) (List.getElem?_eq_getElem hl)
    have h2 := (hP _ _ h1).lt
    have h3 : N + (w.length - 1) < H.size := h2
    omega
  have := k H locs lsR hP (by rw [List.length_set]; omega) hS hL
  rw [List.length_set, ab_z_set hw hs] at this
  exact this
theorem ab_getw (B : ab_B p s m args meth c mi X N E cI cH cS D w0) {ix : Nat} (h : ab_getf (ic mi) pc ix ls st w = some (.inl (pc', ls', st', w'))) (hdg : decode (ib mi) pc = .ok (.getfield ix, 3)) (k : ab_J p l e R s m args below meth c Q mi N E cI cH cS D w0 pc' ls' st' w') : w' = w ∧ ab_J p l e R s m args below meth c Q mi N E cI cH cS D w0 pc ls st w := by
  obtain ⟨hx, hb, hml, hown, hts, hU, hnm, hcl, hE, hh1⟩ := B
  obtain ⟨-, hsz, hK, -, -, hN, hX2⟩ := hU
  unfold ab_getf at h
  split at h
  next r st0 =>
    split at h
    next ci fi nest pl hlk =>
      split at h
      next k0 vs hw =>
        split at h
        next v hc hv =>
          obtain ⟨rfl, rfl, rfl, rfl⟩ := ab_nxe h
          simp only [Bool.and_eq_true] at hc
          have hk0 : k0 = ci := Nat.eq_of_beq_eq_true hc.1
          have hci : ci < 7 := Nat.le_of_ble_eq_true hc.2
          subst hk0
          obtain ⟨hv7, hin, hty, hnn, hdc, -, -⟩ := ab_cls k0 hci
          have h1 := List.all_eq_true.mp (List.all_eq_true.mp ab_c3F (ic mi) (List.mem_range.mpr hcl)) _ (ab_lk_mem _ _ _ hlk)
          simp only [ab_ckF, hc.2, Bool.and_eq_true, decide_eq_true_eq] at h1
          have hfi : fi < ab_N k0 := Nat.le_of_ble_eq_true h1.1
          refine ⟨rfl, fun H locs lsR hP hz hS hL => ?_⟩
          have he := ab_ws_get (N := N) (E := E) (cI := cI) (cH := cH) (cS := cS) hw
          rw [ab_e_o hci] at he
          have hfs : (vs.map (ab_v N E))[fi]? = some (ab_v N E v) := by rw [List.getElem?_map, hv]; rfl
          have hsm : ∀ x, s.fieldFound? (ab_T k0 fi).1 (ab_T k0 fi).2.1 (ab_T k0 fi).2.2.1 = some x → s.fieldFound? (ab_nm k0) (ab_T k0 fi).2.1 (ab_T k0 fi).2.2.1 = some x := fun x hx => by rw [hdc fi hfi] at hx; exact hx
          cases nest with
          | false =>
            exact va_get hx hb hts hin hown hK hP r he hv7 fi hfi (hts _ (ab_gwM h1.2 rfl)) hsm hfs hdg (k H locs lsR hP hz hS hL)
          | true =>
            exact va_getN hx hb hts hin hown hK hP r he hv7 fi hfi (va_Nw.use rfl (hN _ (List.mem_of_getElem? h1.2) rfl)) hsm hfs hdg (k H locs lsR hP hz hS hL)
        next => cases h
      next => cases h
    next => cases h
  next j st0 =>
    obtain ⟨-, -, ⟨adK, adV, k1, k2, k3⟩, -, -⟩ := hX2
    split at h
    next nest pl hlk =>
      split at h
      next hc =>
        obtain ⟨rfl, rfl, rfl, rfl⟩ := ab_nxe h
        simp only [Bool.and_eq_true] at hc
        have hj1 : 10 ≤ j := Nat.le_of_ble_eq_true hc.1
        have hj2 : j < 27 := Nat.le_of_ble_eq_true hc.2
        have h1 := List.all_eq_true.mp (List.all_eq_true.mp ab_c3F (ic mi) (List.mem_range.mpr hcl)) _ (ab_lk_mem _ _ _ hlk)
        have h2 : lw_tbl[pl]? = some (.fieldLink (ab_nm (ic mi)) ix "java/lang/String" "value" "[B") := of_decide_eq_true h1
        refine ⟨rfl, fun H locs lsR hP hz hS hL => ?_⟩
        have e1 := (k2 (j - 10) (by omega)).1
        have e2 := (k2 (j - 10) (by omega)).2
        rw [show 10 + (j - 10) = j by omega] at e1
        rw [show 50 + (j - 10) = j + 40 by omega] at e2
        have := k H locs lsR hP hz hS hL
        have t1 : (Value.retAddr (j + 40) :: st0).map (ab_v N E) = .ref (adV (j - 10)) :: st0.map (ab_v N E) := by rw [← e2]; rfl
        have t2 : (Value.retAddr j :: st0).map (ab_v N E) = .ref (adK (j - 10)) :: st0.map (ab_v N E) := by rw [← e1]; rfl
        rw [t1] at this
        rw [t2]
        exact vk_getf hx hb (k1.1 (j - 10) (by omega)).2.2.1 hS hown (hts _ (ab_gwM h2 rfl)) (fun _ h => h) hdg this
      next => cases h
    next nest pl hlk =>
      split at h
      next hc =>
        obtain ⟨rfl, rfl, rfl, rfl⟩ := ab_nxe h
        simp only [Bool.and_eq_true] at hc
        have hj1 : 10 ≤ j := Nat.le_of_ble_eq_true hc.1
        have hj2 : j < 27 := Nat.le_of_ble_eq_true hc.2
        have h1 := List.all_eq_true.mp (List.all_eq_true.mp ab_c3F (ic mi) (List.mem_range.mpr hcl)) _ (ab_lk_mem _ _ _ hlk)
        have h2 : lw_tbl[pl]? = some (.fieldLink (ab_nm (ic mi)) ix "java/lang/String" "coder" "B") := of_decide_eq_true h1
        refine ⟨rfl, fun H locs lsR hP hz hS hL => ?_⟩
        have e1 := (k2 (j - 10) (by omega)).1
        rw [show 10 + (j - 10) = j by omega] at e1
        have := k H locs lsR hP hz hS hL
        have t2 : (Value.retAddr j :: st0).map (ab_v N E) = .ref (adK (j - 10)) :: st0.map (ab_v N E) := by rw [← e1]; rfl
        rw [t2]
        exact vk_getf hx hb (k1.1 (j - 10) (by omega)).2.1 hS hown (hts _ (ab_gwM h2 rfl)) (fun _ h => h) hdg this
      next => cases h
    next => cases h
  next => cases h
theorem ab_putw (B : ab_B p s m args meth c mi X N E cI cH cS D w0) {ix : Nat} (hg : w0.length ≤ w.length) (h : ab_putf mi pc ix ls st w = some (.inl (pc', ls', st', w'))) (hdg : decode (ib mi) pc = .ok (.putfield ix, 3)) (k : ab_J p l e R s m args below meth c Q mi N E cI cH cS D w0 pc' ls' st' w') : w'.length = w.length ∧ ab_z w' = ab_z w ∧ ab_J p l e R s m args below meth c Q mi N E cI cH cS D w0 pc ls st w := by
  have B' := B
  obtain ⟨hx, hb, hml, hown, hts, hU, hnm, hcl, hE, hh1⟩ := B
  obtain ⟨-, hsz, hK, -, -, hN, hX2⟩ := hU
  unfold ab_putf at h
  split at h
  next v r st0 =>
    split at h
    next ci fi nest pl hlk =>
      split at h
      next k0 vs hw =>
        split at h
        next hc =>
          obtain ⟨rfl, rfl, rfl, rfl⟩ := ab_nxe h
          simp only [Bool.and_eq_true] at hc
          obtain ⟨⟨⟨⟨c1, c2⟩, c3⟩, c4⟩, c5⟩ := hc
          have hk0 : k0 = ci := Nat.eq_of_beq_eq_true c1
          have hci : ci < 7 := Nat.le_of_ble_eq_true c2
          subst hk0
          have hvl : fi < vs.length := Nat.le_of_ble_eq_true c3
          obtain ⟨hv7, hin, hty, hnn, hdc, -, -⟩ := ab_cls k0 hci
          have h1 := List.all_eq_true.mp (List.all_eq_true.mp ab_c3F (ic mi) (List.mem_range.mpr hcl)) _ (ab_lk_mem _ _ _ hlk)
          simp only [ab_ckF, c2, Bool.and_eq_true, decide_eq_true_eq] at h1
          have hfi : fi < ab_N k0 := Nat.le_of_ble_eq_true h1.1
          obtain ⟨hnar, hfit⟩ := ab_fit_ok (N := N) hE c4
          have hsl : ab_sl (.inl (k0, vs.set fi v)) = ab_sl (.inl (k0, vs)) := by simp [ab_sl]
          refine ⟨List.length_set, ab_z_set hw hsl, fun H locs lsR hP hz hS hL => ?_⟩
          have he := ab_ws_get (N := N) (E := E) (cI := cI) (cH := cH) (cS := cS) hw
          rw [ab_e_o hci] at he
          have hsm : ∀ x, s.fieldFound? (ab_T k0 fi).1 (ab_T k0 fi).2.1 (ab_T k0 fi).2.2.1 = some x → s.fieldFound? (ab_nm k0) (ab_T k0 fi).2.1 (ab_T k0 fi).2.2.1 = some x := fun x hx => by rw [hdc fi hfi] at hx; exact hx
          have hD := ab_ws_D (N := N) (E := E) (cI := cI) (cH := cH) (cS := cS) w
          have hvl2 : fi < (vs.map (ab_v N E)).length := by rw [List.length_map]; exact hvl
          have K : ∀ (H1 : Heap) (locs1 : List Loc), va_P D vwCl ((ab_ws N E cI cH cS w).set r (N + r, .inr (k0, (vs.map (ab_v N E)).set fi (ab_v N E v)))) H1 → va_D (ab_A N) ((ab_ws N E cI cH cS w).set r (N + r, .inr (k0, (vs.map (ab_v N E)).set fi (ab_v N E v)))) → va_S (ab_A N) s.heap H1 locs1 → W p l e R s m args below meth c H1 locs1 (w.length - w0.length) (ab_z w - ab_z w0) Q (F0 m (pc + 3) lsR (st0.map (ab_v N E))) := by
            intro H1 locs1 q1 q2 q3
            refine ab_J_set B' hg hw hsl k ?_ q3 hL
            rw [ab_e_o hci, List.map_set]
            exact q1
          cases hf : (ab_T k0 fi).2.2.2 with
          | false =>
            cases nest with
            | false => exact va_put hx hb hts hin (ab_cty k0) hty hnn hown hK hP hD hS r he hv7 fi hfi (hts _ (ab_gwM h1.2 rfl)) hsm hf (hty fi hfi) hnar hfit hvl2 hdg K
            | true => exact va_putN hx hb hts hin (ab_cty k0) hty hnn hown hK hP hD hS r he hv7 fi hfi (va_Nw.use rfl (hN _ (List.mem_of_getElem? h1.2) rfl)) hsm hf (hty fi hfi) hnar hfit hvl2 hdg K
          | true =>
            rw [hf] at c5
            simp only [Bool.not_true, Bool.false_or, Bool.and_eq_true, beq_iff_eq, Bool.not_eq_true'] at c5
            obtain ⟨⟨d1, d2⟩, d3⟩ := c5
            have d4 : ic mi = k0 := Nat.eq_of_beq_eq_true d3
            subst d2
            exact va_putF hx hb hts hin (ab_cty k0) hty hnn hown hK hP hD hS r he hv7 fi hfi (hts _ (ab_gwM h1.2 rfl)) hsm hf (hnm.trans d1) (by rw [d4]; exact hdc fi hfi) (hty fi hfi) hnar hfit hvl2 hdg K
        next => cases h
      next => cases h
    next => cases h
  next => cases h
theorem ab_alenw (B : ab_B p s m args meth c mi X N E cI cH cS D w0) (h : ab_alen X pc ls st w = some (.inl (pc', ls', st', w'))) (hdg : decode (ib mi) pc = .ok (.arraylength, 1)) (k : ab_J p l e R s m args below meth c Q mi N E cI cH cS D w0 pc' ls' st' w') : w' = w ∧ ab_J p l e R s m args below meth c Q mi N E cI cH cS D w0 pc ls st w := by
  obtain ⟨hx, hb, hml, hown, hts, hU, hnm, hcl, hE, hh1⟩ := B
  obtain ⟨-, hsz, hK, -, -, hN, hX2⟩ := hU
  unfold ab_alen at h
  split at h
  next r st0 =>
    split at h
    next xs hw =>
      obtain ⟨rfl, rfl, rfl, rfl⟩ := ab_nxe h
      refine ⟨rfl, fun H locs lsR hP hz hS hL => ?_⟩
      exact va_alen hx hb hK hP r 0 (ab_ws_get hw) rfl rfl hdg (k H locs lsR hP hz hS hL)
    next k0 vs hw =>
      split at h
      next hc =>
        obtain ⟨rfl, rfl, rfl, rfl⟩ := ab_nxe h
        refine ⟨rfl, fun H locs lsR hP hz hS hL => ?_⟩
        have he := ab_ws_get (N := N) (E := E) (cI := cI) (cH := cH) (cS := cS) hw
        simp only [Bool.or_eq_true] at hc
        rcases hc with hc | hc
        · have := Nat.eq_of_beq_eq_true hc
          subst this
          exact va_alen hx hb hK hP r 1 he rfl rfl hdg (k H locs lsR hP hz hS hL)
        · have := Nat.eq_of_beq_eq_true hc
          subst this
          exact va_alen hx hb hK hP r 2 he rfl rfl hdg (k H locs lsR hP hz hS hL)
      next => cases h
    next => cases h
  next j st0 =>
    obtain ⟨⟨b, b1, b2, b3⟩, ⟨t, t1, t2, t3⟩, ⟨adK, adV, k1, k2, k3⟩, -, -⟩ := hX2
    split at h
    next xs hxs =>
      obtain ⟨rfl, rfl, rfl, rfl⟩ := ab_nxe h
      refine ⟨rfl, fun H locs lsR hP hz hS hL => ?_⟩
      have := k H locs lsR hP hz hS hL
      match j, hxs with
      | 0, hxs =>
        cases hxs
        have e1 : (Value.retAddr 0 :: st0).map (ab_v N E) = .ref b :: st0.map (ab_v N E) := by rw [← b1]; rfl
        rw [e1]
        exact va_slen hx hb b2 (by omega) (by unfold ab_A; omega) hS hdg this
      | 1, hxs =>
        cases hxs
        have e1 : (Value.retAddr 1 :: st0).map (ab_v N E) = .ref t :: st0.map (ab_v N E) := by rw [← t1]; rfl
        rw [e1]
        obtain ⟨cell, y1, y2, y3, y4, y5, y6, y7⟩ := t3.kept hS.2.1
        exact W.alen hx hb y1 y2 y5 rfl rfl hdg this
    next hn =>
      split at h
      next xs hc hxs =>
        obtain ⟨rfl, rfl, rfl, rfl⟩ := ab_nxe h
        refine ⟨rfl, fun H locs lsR hP hz hS hL => ?_⟩
        have := k H locs lsR hP hz hS hL
        have hj : 50 ≤ j := Nat.le_of_ble_eq_true hc
        have hj2 : j - 50 < 17 := (List.getElem?_eq_some_iff.mp hxs).1
        have e2 := (k2 (j - 50) hj2).2
        rw [show 50 + (j - 50) = j by omega] at e2
        have e1 : (Value.retAddr j :: st0).map (ab_v N E) = .ref (adV (j - 50)) :: st0.map (ab_v N E) := by rw [← e2]; rfl
        rw [e1]
        obtain ⟨cell, y1, y2, y3, y4, y5, y6, y7⟩ := (k1.1 (j - 50) hj2).2.2.2.kept hS.2.1
        have y8 : ab_lens.getD (j - 50) 0 = xs.length := by
          unfold ab_lens
          rw [List.getD_eq_getElem?_getD, List.getElem?_map, hxs]
          rfl
        rw [y8] at y5
        exact W.alen hx hb y1 y2 y5 rfl rfl hdg this
      next => cases h
  next => cases h
theorem ab_ialdw (B : ab_B p s m args meth c mi X N E cI cH cS D w0) (h : ab_iald X pc ls st w = some (.inl (pc', ls', st', w'))) (hdg : decode (ib mi) pc = .ok (.iaload, 1)) (k : ab_J p l e R s m args below meth c Q mi N E cI cH cS D w0 pc' ls' st' w') : w' = w ∧ ab_J p l e R s m args below meth c Q mi N E cI cH cS D w0 pc ls st w := by
  obtain ⟨hx, hb, hml, hown, hts, hU, hnm, hcl, hE, hh1⟩ := B
  obtain ⟨-, hsz, hK, -, -, hN, hX2⟩ := hU
  unfold ab_iald at h
  split at h
  next i r st0 =>
    split at h
    next xs hw =>
      split at h
      next hc =>
        obtain ⟨rfl, rfl, rfl, rfl⟩ := ab_nxe h
        refine ⟨rfl, fun H locs lsR hP hz hS hL => ?_⟩
        exact va_iald hx hb hK hP r 0 (ab_ws_get hw) rfl (ab_in_iff hc) hdg (k H locs lsR hP hz hS hL)
      next => cases h
    next => cases h
  next i j st0 =>
    obtain ⟨⟨b, b1, b2, b3⟩, ⟨t, t1, t2, t3⟩, ⟨adK, adV, k1, k2, k3⟩, -, -⟩ := hX2
    split at h
    next xs hxs =>
      split at h
      next hc =>
        obtain ⟨rfl, rfl, rfl, rfl⟩ := ab_nxe h
        refine ⟨rfl, fun H locs lsR hP hz hS hL => ?_⟩
        have := k H locs lsR hP hz hS hL
        have hin := ab_in_iff hc
        match j, hxs with
        | 0, hxs =>
          cases hxs
          have e1 : (Value.int i :: Value.retAddr 0 :: st0).map (ab_v N E) = .int i :: .ref b :: st0.map (ab_v N E) := by rw [← b1]; rfl
          rw [e1]
          exact va_sld hx hb b2 (by omega) (by unfold ab_A; omega) hS hin hdg this
        | 1, hxs =>
          cases hxs
          have e1 : (Value.int i :: Value.retAddr 1 :: st0).map (ab_v N E) = .int i :: .ref t :: st0.map (ab_v N E) := by rw [← t1]; rfl
          rw [e1]
          obtain ⟨cell, y1, y2, y3, y4, y5, y6, y7⟩ := t3.kept hS.2.1
          have hlt : i.toNatClampNeg < 7 := Nat.not_le.mp fun q => hin (Or.inr q)
          exact W.iald (v := .int (ab_above.getD i.toNatClampNeg 0)) hx hb y1 y2 y3 (fun q => hin (q.imp id (fun z => Nat.le_trans y4 z))) (y6 _ hlt) rfl rfl hdg this
      next => cases h
    next => cases h
  next => cases h
theorem ab_baldw (B : ab_B p s m args meth c mi X N E cI cH cS D w0) (h : ab_bald pc ls st w = some (.inl (pc', ls', st', w'))) (hdg : decode (ib mi) pc = .ok (.baload, 1)) (k : ab_J p l e R s m args below meth c Q mi N E cI cH cS D w0 pc' ls' st' w') : w' = w ∧ ab_J p l e R s m args below meth c Q mi N E cI cH cS D w0 pc ls st w := by
  obtain ⟨hx, hb, hml, hown, hts, hU, hnm, hcl, hE, hh1⟩ := B
  obtain ⟨-, hsz, hK, -, -, hN, hX2⟩ := hU
  unfold ab_bald at h
  split at h
  next i j st0 =>
    obtain ⟨⟨b, b1, b2, b3⟩, ⟨t, t1, t2, t3⟩, ⟨adK, adV, k1, k2, k3⟩, -, -⟩ := hX2
    split at h
    next xs hc2 hxs =>
      split at h
      next hc =>
        obtain ⟨rfl, rfl, rfl, rfl⟩ := ab_nxe h
        refine ⟨rfl, fun H locs lsR hP hz hS hL => ?_⟩
        have := k H locs lsR hP hz hS hL
        have hin := ab_in_iff hc
        have hj : 50 ≤ j := Nat.le_of_ble_eq_true hc2
        have hj2 : j - 50 < 17 := (List.getElem?_eq_some_iff.mp hxs).1
        have e2 := (k2 (j - 50) hj2).2
        rw [show 50 + (j - 50) = j by omega] at e2
        have e1 : (Value.int i :: Value.retAddr j :: st0).map (ab_v N E) = .int i :: .ref (adV (j - 50)) :: st0.map (ab_v N E) := by rw [← e2]; rfl
        rw [e1]
        obtain ⟨cell, y1, y2, y3, y4, y5, y6, y7⟩ := (k1.1 (j - 50) hj2).2.2.2.kept hS.2.1
        have y8 : ab_lens.getD (j - 50) 0 = xs.length := by
          unfold ab_lens
          rw [List.getD_eq_getElem?_getD, List.getElem?_map, hxs]
          rfl
        have y9 : ab_str.getD (j - 50) [] = xs := by
          rw [List.getD_eq_getElem?_getD, hxs]
          rfl
        rw [y8] at y4 y6
        have hlt : i.toNatClampNeg < xs.length := Nat.not_le.mp fun q => hin (Or.inr q)
        have y10 := y6 _ hlt
        rw [y9] at y10
        exact W.bald hx hb y1 y2 y3 (fun q => hin (q.imp id (fun z => Nat.le_trans y4 z))) y10 rfl rfl hdg this
      next => cases h
    next => cases h
  next => cases h
theorem ab_iastw (B : ab_B p s m args meth c mi X N E cI cH cS D w0) (hg : w0.length ≤ w.length) (h : ab_iast pc ls st w = some (.inl (pc', ls', st', w'))) (hdg : decode (ib mi) pc = .ok (.iastore, 1)) (k : ab_J p l e R s m args below meth c Q mi N E cI cH cS D w0 pc' ls' st' w') : w'.length = w.length ∧ ab_z w' = ab_z w ∧ ab_J p l e R s m args below meth c Q mi N E cI cH cS D w0 pc ls st w := by
  have B' := B
  obtain ⟨hx, hb, hml, hown, hts, hU, hnm, hcl, hE, hh1⟩ := B
  obtain ⟨-, hsz, hK, -, -, hN, hX2⟩ := hU
  unfold ab_iast at h
  split at h
  next x i r st0 =>
    split at h
    next xs hw =>
      split at h
      next hc =>
        obtain ⟨rfl, rfl, rfl, rfl⟩ := ab_nxe h
        have hin := ab_in_iff hc
        have hlt : i.toNatClampNeg < xs.length := Nat.not_le.mp fun q => hin (Or.inr q)
        have hsl : ab_sl (.inr (xs.set i.toNatClampNeg x)) = ab_sl (.inr xs) := by simp [ab_sl]
        refine ⟨List.length_set, ab_z_set hw hsl, fun H locs lsR hP hz hS hL => ?_⟩
        have hD := ab_ws_D (N := N) (E := E) (cI := cI) (cH := cH) (cS := cS) w
        refine va_iast hx hb hK hP hD hS r 0 (ab_ws_get hw) rfl hin hdg fun H1 locs1 q1 q2 q3 => ?_
        refine ab_J_set B' hg hw hsl k ?_ q3 hL
        rw [ab_e_i, List.length_set, ← ab_up_i hlt]
        exact q1
      next => cases h
    next => cases h
  next => cases h
theorem ab_aaldw (B : ab_B p s m args meth c mi X N E cI cH cS D w0) (h : ab_aald pc ls st w = some (.inl (pc', ls', st', w'))) (hdg : decode (ib mi) pc = .ok (.aaload, 1)) (k : ab_J p l e R s m args below meth c Q mi N E cI cH cS D w0 pc' ls' st' w') : w' = w ∧ ab_J p l e R s m args below meth c Q mi N E cI cH cS D w0 pc ls st w := by
  obtain ⟨hx, hb, hml, hown, hts, hU, hnm, hcl, hE, hh1⟩ := B
  obtain ⟨-, hsz, hK, -, -, hN, hX2⟩ := hU
  unfold ab_aald at h
  split at h
  next i r st0 =>
    split at h
    next k0 vs hw =>
      split at h
      next hc =>
        split at h
        next q hq =>
          obtain ⟨rfl, rfl, rfl, rfl⟩ := ab_nxe h
          refine ⟨rfl, fun H locs lsR hP hz hS hL => ?_⟩
          simp only [Bool.and_eq_true, Bool.or_eq_true] at hc
          have hin := ab_in_iff hc.2
          have he := ab_ws_get (N := N) (E := E) (cI := cI) (cH := cH) (cS := cS) hw
          have hv : va_rf (ab_q N vs i.toNatClampNeg) = .ref (N + q) := by
            unfold ab_q
            rw [hq]
            rfl
          have := k H locs lsR hP hz hS hL
          have e1 : (Value.ref q :: st0).map (ab_v N E) = va_rf (ab_q N vs i.toNatClampNeg) :: st0.map (ab_v N E) := by rw [hv]; rfl
          rw [e1] at this
          rcases hc.1 with hc1 | hc1
          · have := Nat.eq_of_beq_eq_true hc1
            subst this
            exact va_aldq hx hb hK hP r 1 he rfl hin hdg ‹_›
          · have := Nat.eq_of_beq_eq_true hc1
            subst this
            exact va_aldq hx hb hK hP r 2 he rfl hin hdg ‹_›
        next => cases h
      next => cases h
    next => cases h
  next => cases h
theorem ab_aastw (B : ab_B p s m args meth c mi X N E cI cH cS D w0) (hg : w0.length ≤ w.length) (h : ab_aast pc ls st w = some (.inl (pc', ls', st', w'))) (hdg : decode (ib mi) pc = .ok (.aastore, 1)) (k : ab_J p l e R s m args below meth c Q mi N E cI cH cS D w0 pc' ls' st' w') : w'.length = w.length ∧ ab_z w' = ab_z w ∧ ab_J p l e R s m args below meth c Q mi N E cI cH cS D w0 pc ls st w := by
  have B' := B
  obtain ⟨hx, hb, hml, hown, hts, hU, hnm, hcl, hE, hh1⟩ := B
  obtain ⟨-, hsz, hK, -, -, hN, hX2⟩ := hU
  unfold ab_aast at h
  split at h
  next v i r st0 =>
    split at h
    next k0 vs ci vv hw hv =>
      split at h
      next hc =>
        obtain ⟨rfl, rfl, rfl, rfl⟩ := ab_nxe h
        simp only [Bool.and_eq_true, Bool.or_eq_true] at hc
        obtain ⟨⟨hc1, hc2⟩, hc3⟩ := hc
        have hin := ab_in_iff hc2
        have hlt : i.toNatClampNeg < vs.length := Nat.not_le.mp fun q => hin (Or.inr q)
        have hsl : ab_sl (.inl (k0, vs.set i.toNatClampNeg (.ref v))) = ab_sl (.inl (k0, vs)) := by simp [ab_sl]
        have hci := Nat.eq_of_beq_eq_true hc3
        refine ⟨List.length_set, ab_z_set hw hsl, fun H locs lsR hP hz hS hL => ?_⟩
        have hD := ab_ws_D (N := N) (E := E) (cI := cI) (cH := cH) (cS := cS) w
        have he := ab_ws_get (N := N) (E := E) (cI := cI) (cH := cH) (cS := cS) hw
        have hev := ab_ws_get (N := N) (E := E) (cI := cI) (cH := cH) (cS := cS) hv
        rcases hc1 with hc1 | hc1
        · have := Nat.eq_of_beq_eq_true hc1
          subst this
          have hci0 : ci = 0 := hci
          subst hci0
          refine va_astq hx hb hK hP hD hS r 1 v 0 (r := (RX0, TX0, 9)) he rfl hev rfl hin hdg fun H1 locs1 q1 q2 q3 => ?_
          refine ab_J_set B' hg hw hsl k ?_ q3 hL
          rw [ab_up_q hlt] at q1
          have e3 : ab_e N E cI cH cS (.inl (7, vs.set i.toNatClampNeg (.ref v))) = .inl (cH, vs.length, .inr (.inr (.inr (.inr (ab_q N (vs.set i.toNatClampNeg (.ref v))))))) := by
            unfold ab_e
            dsimp only
            rw [if_pos rfl, List.length_set]
          rw [e3]
          exact q1
        · have := Nat.eq_of_beq_eq_true hc1
          subst this
          have hci0 : ci = 3 := hci
          subst hci0
          refine va_astq hx hb hK hP hD hS r 2 v 3 (r := (RX3, TX3, 3)) he rfl hev rfl hin hdg fun H1 locs1 q1 q2 q3 => ?_
          refine ab_J_set B' hg hw hsl k ?_ q3 hL
          rw [ab_up_q hlt] at q1
          have e3 : ab_e N E cI cH cS (.inl (8, vs.set i.toNatClampNeg (.ref v))) = .inl (cS, vs.length, .inr (.inr (.inr (.inr (ab_q N (vs.set i.toNatClampNeg (.ref v))))))) := by
            unfold ab_e
            dsimp only
            rw [if_neg (by decide), if_pos rfl, List.length_set]
          rw [e3]
          exact q1
      next => cases h
    next => cases h
  next => cases h
end TWO
end
section
section THREE
variable {p : Program} {l : Launch} {e : Env} {R : Room} {s : State} {m : MethodId} {args : Array Value} {below : List Frame} {meth : Method} {c : Code} {Q : State → Prop} {mi : ab_I} {X : List Int32} {N : Nat} {E : Nat → Value} {cI cH cS : ClassId} {D : va_G} {w0 : ab_W}
variable {pc pc' : Nat} {ls ls' : List (Option Value)} {st st' : List Value} {w w' : ab_W}
theorem ab_cat_sum (hE : ∀ j, E j = .null ∨ ∃ a, E j = .ref a) (st : List Value) : ((st.map (ab_v N E)).map fun v => v.category).sum = (st.map Value.category).sum := by
  rw [List.map_map]
  congr 1
  apply List.map_congr_left
  intro a _
  exact ab_v_cat hE a
theorem ab_ckWat {cn : Nat} (h : cn < 13) : ((ab_nw cn).all (fun e => Nat.blt e.2.1 7 && decide (lw_tbl[e.2.2]? = some (.classLink (ab_nm cn) e.1 (ab_nm e.2.1)))) = true ∧
  (ab_na cn).all (fun e => decide (lw_tbl[e.2.2]? = some (.classLink (ab_nm cn) e.1 (ab_nm (ab_el e.2.1))))) = true ∧
  (ab_ki cn).all (fun e => decide (lw_tbl[e.2.2]? = some (.constant (ab_nm cn) e.1 e.2.1))) = true ∧
  (ab_kl cn).all (fun e => decide (lw_tbl[e.2.2]? = some (.constantLong (ab_nm cn) e.1 e.2.1))) = true ∧
  (ab_ks cn).all (fun e => Nat.beq cn 4 && Nat.blt e.2.1 17) = true) ∧
  (ab_st cn).all (fun e => decide (lw_tbl[e.2.2]? = some (match e.2.1 with
    | 0 => .fieldLink (ab_nm cn) e.1 "StairRow$House" "ABOVE" "[I"
    | 1 => .fieldLink (ab_nm cn) e.1 "java/lang/String" "COMPACT_STRINGS" "Z"
    | _ => .fieldLink (ab_nm cn) e.1 "jdk/internal/util/Preconditions" "SIOOBE_FORMATTER" "Ljava/util/function/BiFunction;"))) = true ∧
  (ab_ob cn).all (fun e => decide (lw_tbl[e.2]? = some (.methodLink (ab_nm cn) e.1 Lib.objectInit))) = true ∧
  (ab_ac cn).all (fun e => decide (lw_tbl[e.2]? = some (.methodLink (ab_nm cn) e.1 arraycopyName))) = true ∧
  (ab_mx cn).all (fun e => decide (lw_tbl[e.2.2]? = some (.methodLink (ab_nm cn) e.1 (match e.2.1 with | 0 => Lib.Math.max.name | _ => Lib.Math.min.name)))) = true := by
  have h1 := List.all_eq_true.mp ab_c3W cn (List.mem_range.mpr h)
  simp only [ab_ckW, Bool.and_eq_true] at h1
  obtain ⟨⟨⟨⟨⟨⟨⟨⟨a1, a2⟩, a3⟩, a4⟩, a5⟩, a6⟩, a7⟩, a8⟩, a9⟩ := h1
  exact ⟨⟨a1, a2, a3, a4, a5⟩, a6, a7, a8, a9⟩
theorem ab_cpyw (B : ab_B p s m args meth c mi X N E cI cH cS D w0) (hR : 1 ≤ R.frames ∧ 32 ≤ R.locals) (hg : w0.length ≤ w.length) {ix pl : Nat} (hl : ab_lk (ab_ac (ic mi)) ix = some pl) (h : ab_cpy pc ls st w = some (.inl (pc', ls', st', w'))) (hdg : decode (ib mi) pc = .ok (.invokestatic ix, 3)) (k : ab_J p l e R s m args below meth c Q mi N E cI cH cS D w0 pc' ls' st' w') : w'.length = w.length ∧ ab_z w' = ab_z w ∧ ab_J p l e R s m args below meth c Q mi N E cI cH cS D w0 pc ls st w := by
  have B' := B
  obtain ⟨hx, hb, hml, hown, hts, hU, hnm, hcl, hE, hh1⟩ := B
  obtain ⟨-, hsz, hK, -, -, hN, hX2⟩ := hU
  have hlk : lw_tbl[pl]? = some (.methodLink (ab_nm (ic mi)) ix arraycopyName) := of_decide_eq_true (List.all_eq_true.mp (ab_ckWat hcl).2.2.2.1 _ (ab_lk_mem _ _ _ hl))
  unfold ab_cpy at h
  split at h
  next n dp a sp a0 st0 =>
    split at h
    next xs ys hw0 hw1 =>
      split at h
      next hc =>
        obtain ⟨rfl, rfl, rfl, rfl⟩ := ab_nxe h
        simp only [Bool.and_eq_true, Bool.not_eq_true', decide_eq_false_iff_not, decide_eq_true_eq] at hc
        obtain ⟨⟨⟨⟨⟨c1, c2⟩, c3⟩, c4⟩, c5⟩, c6⟩ := hc
        have c4 := Nat.le_of_ble_eq_true c4
        have c5 := Nat.le_of_ble_eq_true c5
        have hsl : ab_sl (.inr ((List.range ys.length).map (va_cpy (fun j => xs.getD j 0) (fun j => ys.getD j 0) sp.toNatClampNeg dp.toNatClampNeg n.toNatClampNeg))) = ab_sl (.inr ys) := by simp [ab_sl]
        refine ⟨List.length_set, ab_z_set hw1 hsl, fun H locs lsR hP hz hS hL => ?_⟩
        have hD := ab_ws_D (N := N) (E := E) (cI := cI) (cH := cH) (cS := cS) w
        have hsum : ((st0.map (ab_v N E)).map fun v => v.category).sum ≤ 8 := by rw [ab_cat_sum hE]; exact c6
        have hloc : ((st0.map (ab_v N E)).map fun v => v.category).sum + (nativeFrameWords "java/lang/System" "arraycopy" 5 + 11) ≤ R.locals := by
          have h7 : nativeFrameWords "java/lang/System" "arraycopy" 5 = 7 := by decide
          omega
        refine va_copyi (ty := .int) hx hb (by rw [hml]; exact hL.2.1.symm) hown (hts _ (ab_gwM hlk rfl)) (hts _ (ab_gwM (i := 901) (by decide +kernel) rfl)) (hts _ (ab_gwM (i := 900) (by decide +kernel) rfl)) (hts _ (ab_gwM (i := 132) (by decide +kernel) rfl)) hK hP hD hS a0 a 0 0 (ab_ws_get hw0) (ab_ws_get hw1) rfl rfl rfl c1 c2 c3 c4 c5 (fun _ _ => rfl) hR.1 hloc hdg fun H1 locs1 q1 q2 q3 => ?_
        refine ab_J_set B' hg hw1 hsl k ?_ q3 hL
        rw [ab_e_i, List.length_map, List.length_range]
        have e1 : (fun j => ((List.range ys.length).map (va_cpy (fun j => xs.getD j 0) (fun j => ys.getD j 0) sp.toNatClampNeg dp.toNatClampNeg n.toNatClampNeg)).getD j 0) = va_cpy (fun j => xs.getD j 0) (fun j => ys.getD j 0) sp.toNatClampNeg dp.toNatClampNeg n.toNatClampNeg := by
          funext j
          by_cases hj : j < ys.length
          · simp [hj]
          · have hno : ¬ (dp.toNatClampNeg ≤ j ∧ j < dp.toNatClampNeg + n.toNatClampNeg) := by omega
            simp only [List.getD_eq_getElem?_getD, List.getElem?_map, va_cpy, if_neg hno]
            rw [List.getElem?_eq_none (by simp; omega), List.getElem?_eq_none (by omega)]
            rfl
        rw [e1]
        exact q1
      next => cases h
    next => cases h
  next => cases h
theorem ab_ldaw (B : ab_B p s m args meth c mi X N E cI cH cS D w0) {k : Nat} {n : Nat} (h : ab_lda ls k (pc + n) st w = some (.inl (pc', ls', st', w'))) (kk : ab_J p l e R s m args below meth c Q mi N E cI cH cS D w0 pc' ls' st' w') (row : ∀ {H : Heap} {locs : List Loc} {lsR : Array Slot} {x : Value}, lsR[k]? = some (.val x) → (x = .null ∨ ∃ a, x = .ref a) → W p l e R s m args below meth c H locs (w.length - w0.length) (ab_z w - ab_z w0) Q (F0 m (pc + n) lsR (x :: st.map (ab_v N E))) → W p l e R s m args below meth c H locs (w.length - w0.length) (ab_z w - ab_z w0) Q (F0 m pc lsR (st.map (ab_v N E)))) : w' = w ∧ ab_J p l e R s m args below meth c Q mi N E cI cH cS D w0 pc ls st w := by
  obtain ⟨hx, hb, hml, hown, hts, hU, hnm, hcl, hE, hh1⟩ := B
  unfold ab_lda at h
  split at h
  next r hr =>
    obtain ⟨rfl, rfl, rfl, rfl⟩ := ab_nxe h
    exact ⟨rfl, fun H locs lsR hP hz hS hL => row (ab_L_at hL hr) (Or.inr ⟨_, rfl⟩) (kk H locs lsR hP hz hS hL)⟩
  next hr =>
    obtain ⟨rfl, rfl, rfl, rfl⟩ := ab_nxe h
    exact ⟨rfl, fun H locs lsR hP hz hS hL => row (ab_L_at hL hr) (Or.inl rfl) (kk H locs lsR hP hz hS hL)⟩
  next r hr =>
    obtain ⟨rfl, rfl, rfl, rfl⟩ := ab_nxe h
    exact ⟨rfl, fun H locs lsR hP hz hS hL => row (ab_L_at hL hr) (hE r) (kk H locs lsR hP hz hS hL)⟩
  next => cases h
theorem ab_staw (B : ab_B p s m args meth c mi X N E cI cH cS D w0) {k : Nat} {n : Nat} (h : ab_sta ls k (pc + n) st w = some (.inl (pc', ls', st', w'))) (kk : ab_J p l e R s m args below meth c Q mi N E cI cH cS D w0 pc' ls' st' w') (row : ∀ {H : Heap} {locs : List Loc} {lsR : Array Slot} {x : Value} {rest : List Value}, (x = .null ∨ ∃ a, x = .ref a) → lv_has lsR (iL mi) (ab_ll N E ls) → k < iL mi → (∀ lsR' : Array Slot, lv_has lsR' (iL mi) ((k, x) :: (ab_ll N E ls).filter (fun q => !(q.1 == k) && !(q.1 + 1 == k && q.2.category == 2))) → W p l e R s m args below meth c H locs (w.length - w0.length) (ab_z w - ab_z w0) Q (F0 m (pc + n) lsR' rest)) → W p l e R s m args below meth c H locs (w.length - w0.length) (ab_z w - ab_z w0) Q (F0 m pc lsR (x :: rest))) : w' = w ∧ ab_J p l e R s m args below meth c Q mi N E cI cH cS D w0 pc ls st w := by
  obtain ⟨hx, hb, hml, hown, hts, hU, hnm, hcl, hE, hh1⟩ := B
  unfold ab_sta at h
  split at h
  next r st0 =>
    split at h
    next ls1 hs =>
      obtain ⟨rfl, rfl, rfl, rfl⟩ := ab_nxe h
      exact ⟨rfl, fun H locs lsR hP hz hS hL => row (Or.inr ⟨_, rfl⟩) hL.2 (Nat.lt_of_lt_of_le (ab_set1_lt hs) hL.1) fun lsR' h' => kk H locs lsR' hP hz hS (ab_L_set1 hE hs hL.1 h')⟩
    next => cases h
  next st0 =>
    split at h
    next ls1 hs =>
      obtain ⟨rfl, rfl, rfl, rfl⟩ := ab_nxe h
      exact ⟨rfl, fun H locs lsR hP hz hS hL => row (Or.inl rfl) hL.2 (Nat.lt_of_lt_of_le (ab_set1_lt hs) hL.1) fun lsR' h' => kk H locs lsR' hP hz hS (ab_L_set1 hE hs hL.1 h')⟩
    next => cases h
  next r st0 =>
    split at h
    next ls1 hs =>
      obtain ⟨rfl, rfl, rfl, rfl⟩ := ab_nxe h
      exact ⟨rfl, fun H locs lsR hP hz hS hL => row (hE r) hL.2 (Nat.lt_of_lt_of_le (ab_set1_lt hs) hL.1) fun lsR' h' => kk H locs lsR' hP hz hS (ab_L_set1 hE hs hL.1 h')⟩
    next => cases h
  next => cases h
theorem ab_wf_no {nL : Nat} {lsR : Array Slot} {lv : List (Nat × Value)} (h : lv_has lsR nL lv) {q : Nat × Value} {j : Nat} {u : Value} (h1 : q ∈ lv) (h2 : (j, u) ∈ lv) (h3 : q.1 + 1 = j) : q.2.category ≠ 2 := by
  intro hc
  have a := h.2.1.1 q.1 q.2 (h.2.2 q h1) hc
  have b := h.2.2 _ h2
  rw [h3] at a
  cases a.symm.trans b
theorem ab_inv_no (mi : ab_I) (op pc ix : Nat) (ls : List (Option Value)) (st : List Value) (w : ab_W) (c' : ab_C) : ¬ ab_inv mi op pc ix ls st w = some (.inl c') := by
  intro h
  unfold ab_inv at h
  repeat' split at h
  all_goals cases h
theorem ab_one (B : ab_B p s m args meth c mi X N E cI cH cS D w0) (hR : 1 ≤ R.frames ∧ 32 ≤ R.locals) {i : Instr} {n : Nat} (hdec : decode (ib mi) pc = .ok (i, n)) (hn : ab_sz i = 0 ∨ n = ab_sz i) (h : ab_ex X mi i pc ls st w = some (.inl (pc', ls', st', w'))) (hg : w0.length ≤ w.length ∧ ab_z w0 ≤ ab_z w) (hRb : w'.length - w0.length ≤ R.cells ∧ ab_z w' - ab_z w0 ≤ R.slots) (k : ab_J p l e R s m args below meth c Q mi N E cI cH cS D w0 pc' ls' st' w') : (w.length ≤ w'.length ∧ ab_z w ≤ ab_z w') ∧ ab_J p l e R s m args below meth c Q mi N E cI cH cS D w0 pc ls st w := by
  have B' := B
  obtain ⟨hx, hb, hml, hown, hts, hU, hnm, hcl, hE, hh1⟩ := B
  cases i with
  | iconst v =>
    have hdg := hdec
    rw [hn.resolve_left (fun z => Nat.succ_ne_zero _ z)] at hdg
    simp only [ab_ex] at h
    obtain ⟨rfl, rfl, rfl, rfl⟩ := ab_nxe h
    exact ⟨⟨Nat.le_refl _, Nat.le_refl _⟩, fun H locs lsR hP hz hS hL => lv_iconst hx hb hdg rfl (k H locs lsR hP hz hS hL)⟩
  | bipush v =>
    have hdg := hdec
    rw [hn.resolve_left (fun z => Nat.succ_ne_zero _ z)] at hdg
    simp only [ab_ex] at h
    obtain ⟨rfl, rfl, rfl, rfl⟩ := ab_nxe h
    exact ⟨⟨Nat.le_refl _, Nat.le_refl _⟩, fun H locs lsR hP hz hS hL => lv_bipush hx hb hdg rfl (k H locs lsR hP hz hS hL)⟩
  | sipush v =>
    have hdg := hdec
    rw [hn.resolve_left (fun z => Nat.succ_ne_zero _ z)] at hdg
    simp only [ab_ex] at h
    obtain ⟨rfl, rfl, rfl, rfl⟩ := ab_nxe h
    exact ⟨⟨Nat.le_refl _, Nat.le_refl _⟩, fun H locs lsR hP hz hS hL => lv_sipush hx hb hdg rfl (k H locs lsR hP hz hS hL)⟩
  | lconst v =>
    have hdg := hdec
    rw [hn.resolve_left (fun z => Nat.succ_ne_zero _ z)] at hdg
    simp only [ab_ex] at h
    obtain ⟨rfl, rfl, rfl, rfl⟩ := ab_nxe h
    exact ⟨⟨Nat.le_refl _, Nat.le_refl _⟩, fun H locs lsR hP hz hS hL => lv_lconst hx hb hdg rfl (k H locs lsR hP hz hS hL)⟩
  | aconst_null  =>
    have hdg := hdec
    rw [hn.resolve_left (fun z => Nat.succ_ne_zero _ z)] at hdg
    simp only [ab_ex] at h
    obtain ⟨rfl, rfl, rfl, rfl⟩ := ab_nxe h
    exact ⟨⟨Nat.le_refl _, Nat.le_refl _⟩, fun H locs lsR hP hz hS hL => lv_null hx hb hdg (k H locs lsR hP hz hS hL)⟩
  | ldc ix =>
    have hdg := hdec
    rw [hn.resolve_left (fun z => Nat.succ_ne_zero _ z)] at hdg
    simp only [ab_ex] at h
    split at h
    next v pl hl =>
      obtain ⟨rfl, rfl, rfl, rfl⟩ := ab_nxe h
      have hk : lw_tbl[pl]? = some (.constant (ab_nm (ic mi)) ix v) := of_decide_eq_true (List.all_eq_true.mp (ab_ckWat hcl).1.2.2.1 _ (ab_lk_mem _ _ _ hl))
      exact ⟨⟨Nat.le_refl _, Nat.le_refl _⟩, fun H locs lsR hP hz hS hL => lv_ldc hx hb hown (hts _ (ab_gwM hk rfl)) hdg (k H locs lsR hP hz hS hL)⟩
    next =>
      split at h
      next j pl hl =>
        obtain ⟨rfl, rfl, rfl, rfl⟩ := ab_nxe h
        have hm := ab_lk_mem _ _ _ hl
        have hk := List.all_eq_true.mp (ab_ckWat hcl).1.2.2.2.2 _ hm
        simp only [Bool.and_eq_true] at hk
        have hc4 : ic mi = 4 := Nat.eq_of_beq_eq_true hk.1
        have hj : j < 17 := Nat.le_of_ble_eq_true hk.2
        obtain ⟨-, -, -, -, -, -, -, -, ⟨adK, adV, k1, k2, k3⟩, -, -⟩ := hU
        rw [hc4] at hm hown
        refine ⟨⟨Nat.le_refl _, Nat.le_refl _⟩, fun H locs lsR hP hz hS hL => ?_⟩
        have := k H locs lsR hP hz hS hL
        have e1 : (Value.retAddr (10 + j) :: st).map (ab_v N E) = .ref (adK j) :: st.map (ab_v N E) := by rw [← (k2 j hj).1]; rfl
        rw [e1] at this
        exact va_ldcS hx hb hown (k3 _ hm) hdg this
      next => cases h
  | ldc_w ix =>
    have hdg := hdec
    rw [hn.resolve_left (fun z => Nat.succ_ne_zero _ z)] at hdg
    simp only [ab_ex] at h
    split at h
    next v pl hl =>
      obtain ⟨rfl, rfl, rfl, rfl⟩ := ab_nxe h
      have hk : lw_tbl[pl]? = some (.constant (ab_nm (ic mi)) ix v) := of_decide_eq_true (List.all_eq_true.mp (ab_ckWat hcl).1.2.2.1 _ (ab_lk_mem _ _ _ hl))
      exact ⟨⟨Nat.le_refl _, Nat.le_refl _⟩, fun H locs lsR hP hz hS hL => lv_ldcw hx hb hown (hts _ (ab_gwM hk rfl)) hdg (k H locs lsR hP hz hS hL)⟩
    next => cases h
  | ldc2_w ix =>
    have hdg := hdec
    rw [hn.resolve_left (fun z => Nat.succ_ne_zero _ z)] at hdg
    simp only [ab_ex] at h
    split at h
    next v pl hl =>
      obtain ⟨rfl, rfl, rfl, rfl⟩ := ab_nxe h
      have hk : lw_tbl[pl]? = some (.constantLong (ab_nm (ic mi)) ix v) := of_decide_eq_true (List.all_eq_true.mp (ab_ckWat hcl).1.2.2.2.1 _ (ab_lk_mem _ _ _ hl))
      exact ⟨⟨Nat.le_refl _, Nat.le_refl _⟩, fun H locs lsR hP hz hS hL => lv_ldc2 hx hb hown (hts _ (ab_gwM hk rfl)) hdg (k H locs lsR hP hz hS hL)⟩
    next => cases h
  | iload_n j =>
    have hdg := hdec
    rw [hn.resolve_left (fun z => Nat.succ_ne_zero _ z)] at hdg
    simp only [ab_ex, ab_ldi] at h
    split at h
    next x hr =>
      obtain ⟨rfl, rfl, rfl, rfl⟩ := ab_nxe h
      exact ⟨⟨Nat.le_refl _, Nat.le_refl _⟩, fun H locs lsR hP hz hS hL => lv_iload_n hx hb hdg rfl (ab_L_at hL hr) (k H locs lsR hP hz hS hL)⟩
    next => cases h
  | iload j =>
    have hdg := hdec
    rw [hn.resolve_left (fun z => Nat.succ_ne_zero _ z)] at hdg
    simp only [ab_ex, ab_ldi] at h
    split at h
    next x hr =>
      obtain ⟨rfl, rfl, rfl, rfl⟩ := ab_nxe h
      exact ⟨⟨Nat.le_refl _, Nat.le_refl _⟩, fun H locs lsR hP hz hS hL => lv_iload hx hb hdg (ab_L_at hL hr) (k H locs lsR hP hz hS hL)⟩
    next => cases h
  | lload_n j =>
    have hdg := hdec
    rw [hn.resolve_left (fun z => Nat.succ_ne_zero _ z)] at hdg
    simp only [ab_ex, ab_ldl] at h
    split at h
    next x hr =>
      obtain ⟨rfl, rfl, rfl, rfl⟩ := ab_nxe h
      exact ⟨⟨Nat.le_refl _, Nat.le_refl _⟩, fun H locs lsR hP hz hS hL => lv_lload_n hx hb hdg rfl (ab_L_at hL hr) (k H locs lsR hP hz hS hL)⟩
    next => cases h
  | lload j =>
    have hdg := hdec
    rw [hn.resolve_left (fun z => Nat.succ_ne_zero _ z)] at hdg
    simp only [ab_ex, ab_ldl] at h
    split at h
    next x hr =>
      obtain ⟨rfl, rfl, rfl, rfl⟩ := ab_nxe h
      exact ⟨⟨Nat.le_refl _, Nat.le_refl _⟩, fun H locs lsR hP hz hS hL => lv_lload hx hb hdg (ab_L_at hL hr) (k H locs lsR hP hz hS hL)⟩
    next => cases h
  | aload_n j =>
    have hdg := hdec
    rw [hn.resolve_left (fun z => Nat.succ_ne_zero _ z)] at hdg
    simp only [ab_ex] at h
    obtain ⟨rfl, hJ⟩ := ab_ldaw (n := 1) B' h k (fun hr hx2 kk => by
      rcases hx2 with rfl | ⟨a, rfl⟩
      · exact lv_aload_nN hx hb hdg rfl hr kk
      · exact lv_aload_n hx hb hdg rfl hr kk)
    exact ⟨⟨Nat.le_refl _, Nat.le_refl _⟩, hJ⟩
  | aload j =>
    have hdg := hdec
    rw [hn.resolve_left (fun z => Nat.succ_ne_zero _ z)] at hdg
    simp only [ab_ex] at h
    obtain ⟨rfl, hJ⟩ := ab_ldaw (n := 2) B' h k (fun hr hx2 kk => by
      rcases hx2 with rfl | ⟨a, rfl⟩
      · exact lv_aloadN hx hb hdg hr kk
      · exact lv_aload hx hb hdg hr kk)
    exact ⟨⟨Nat.le_refl _, Nat.le_refl _⟩, hJ⟩
  | istore_n j =>
    have hdg := hdec
    rw [hn.resolve_left (fun z => Nat.succ_ne_zero _ z)] at hdg
    simp only [ab_ex, ab_sti] at h
    split at h
    next x st0 =>
      split at h
      next ls1 hs =>
        obtain ⟨rfl, rfl, rfl, rfl⟩ := ab_nxe h
        exact ⟨⟨Nat.le_refl _, Nat.le_refl _⟩, fun H locs lsR hP hz hS hL => lv_istore_n hx hb hdg rfl hL.2 (Nat.lt_of_lt_of_le (ab_set1_lt hs) hL.1) rfl fun lsR' h' => k H locs lsR' hP hz hS (ab_L_set1 hE hs hL.1 h')⟩
      next => cases h
    next => cases h
  | istore j =>
    have hdg := hdec
    rw [hn.resolve_left (fun z => Nat.succ_ne_zero _ z)] at hdg
    simp only [ab_ex, ab_sti] at h
    split at h
    next x st0 =>
      split at h
      next ls1 hs =>
        obtain ⟨rfl, rfl, rfl, rfl⟩ := ab_nxe h
        exact ⟨⟨Nat.le_refl _, Nat.le_refl _⟩, fun H locs lsR hP hz hS hL => lv_istore hx hb hdg hL.2 (Nat.lt_of_lt_of_le (ab_set1_lt hs) hL.1) rfl fun lsR' h' => k H locs lsR' hP hz hS (ab_L_set1 hE hs hL.1 h')⟩
      next => cases h
    next => cases h
  | lstore_n j =>
    have hdg := hdec
    rw [hn.resolve_left (fun z => Nat.succ_ne_zero _ z)] at hdg
    simp only [ab_ex, ab_stl] at h
    split at h
    next x st0 =>
      split at h
      next ls1 hs =>
        obtain ⟨rfl, rfl, rfl, rfl⟩ := ab_nxe h
        exact ⟨⟨Nat.le_refl _, Nat.le_refl _⟩, fun H locs lsR hP hz hS hL => lv_lstore_n hx hb hdg rfl hL.2 (Nat.lt_of_lt_of_le (ab_set2_lt hs) hL.1) rfl fun lsR' h' => k H locs lsR' hP hz hS (ab_L_set2 hE hs hL.1 h')⟩
      next => cases h
    next => cases h
  | astore_n j =>
    have hdg := hdec
    rw [hn.resolve_left (fun z => Nat.succ_ne_zero _ z)] at hdg
    simp only [ab_ex] at h
    obtain ⟨rfl, hJ⟩ := ab_staw (n := 1) B' h k (fun hx2 hl hlt kk => by
      rcases hx2 with rfl | ⟨a, rfl⟩
      · exact lv_astore_nN hx hb hdg rfl hl hlt rfl kk
      · exact lv_astore_n hx hb hdg rfl hl hlt rfl kk)
    exact ⟨⟨Nat.le_refl _, Nat.le_refl _⟩, hJ⟩
  | astore j =>
    have hdg := hdec
    rw [hn.resolve_left (fun z => Nat.succ_ne_zero _ z)] at hdg
    simp only [ab_ex] at h
    obtain ⟨rfl, hJ⟩ := ab_staw (n := 2) B' h k (fun hx2 hl hlt kk => by
      rcases hx2 with rfl | ⟨a, rfl⟩
      · exact lv_astoreN hx hb hdg hl hlt rfl kk
      · exact lv_astore hx hb hdg hl hlt rfl kk)
    exact ⟨⟨Nat.le_refl _, Nat.le_refl _⟩, hJ⟩
  | iinc j d =>
    have hdg := hdec
    rw [hn.resolve_left (fun z => Nat.succ_ne_zero _ z)] at hdg
    simp only [ab_ex] at h
    split at h
    next x hr =>
      obtain ⟨rfl, rfl, rfl, rfl⟩ := ab_nxe h
      refine ⟨⟨Nat.le_refl _, Nat.le_refl _⟩, fun H locs lsR hP hz hS hL => ?_⟩
      have hm := ab_ll_mem (N := N) (E := E) hr
      obtain ⟨q, hq⟩ := List.getElem?_of_mem hm
      have hjl : j < ls.length := (List.getElem?_eq_some_iff.mp hr).1
      refine lv_iinc hx hb hdg hL.2 hq rfl (Nat.lt_of_lt_of_le hjl hL.1) rfl fun lsR' h' => k H locs lsR' hP hz hS ⟨by rw [List.length_set]; exact hL.1, h'.1, h'.2.1, fun q hq => ?_⟩
      obtain ⟨u, h1, h2⟩ := ab_ll_of hq
      refine h'.2.2 q ?_
      by_cases hj : j = q.1
      · rw [List.getElem?_set, if_pos hj, if_pos (hj ▸ hjl)] at h1
        cases h1
        obtain ⟨q1, q2⟩ := q
        dsimp only at hj h2
        subst hj; subst h2
        exact List.mem_cons_self
      · rw [List.getElem?_set, if_neg hj] at h1
        have h3 := ab_ll_mem (N := N) (E := E) h1
        rw [← h2] at h3
        refine List.mem_cons_of_mem _ (List.mem_filter.mpr ⟨h3, ?_⟩)
        have hne : (q.1 == j) = false := by simp; omega
        rw [hne]
        simp only [Bool.not_false, Bool.true_and, Bool.not_eq_true', Bool.and_eq_false_iff]
        by_cases h4 : q.1 + 1 = j
        · right
          simpa using ab_wf_no hL.2 h3 hm h4
        · left
          simp; exact h4
    next => cases h
  | iadd =>
    have hdg := hdec
    rw [hn.resolve_left (fun z => Nat.succ_ne_zero _ z)] at hdg
    simp only [ab_ex] at h
    split at h
    next y x st0 =>
      obtain ⟨rfl, rfl, rfl, rfl⟩ := ab_nxe h
      exact ⟨⟨Nat.le_refl _, Nat.le_refl _⟩, fun H locs lsR hP hz hS hL => lv_iadd hx hb hdg (k H locs lsR hP hz hS hL)⟩
    next => cases h
  | isub =>
    have hdg := hdec
    rw [hn.resolve_left (fun z => Nat.succ_ne_zero _ z)] at hdg
    simp only [ab_ex] at h
    split at h
    next y x st0 =>
      obtain ⟨rfl, rfl, rfl, rfl⟩ := ab_nxe h
      exact ⟨⟨Nat.le_refl _, Nat.le_refl _⟩, fun H locs lsR hP hz hS hL => lv_isub hx hb hdg (k H locs lsR hP hz hS hL)⟩
    next => cases h
  | imul =>
    have hdg := hdec
    rw [hn.resolve_left (fun z => Nat.succ_ne_zero _ z)] at hdg
    simp only [ab_ex] at h
    split at h
    next y x st0 =>
      obtain ⟨rfl, rfl, rfl, rfl⟩ := ab_nxe h
      exact ⟨⟨Nat.le_refl _, Nat.le_refl _⟩, fun H locs lsR hP hz hS hL => lv_imul hx hb hdg (k H locs lsR hP hz hS hL)⟩
    next => cases h
  | iand =>
    have hdg := hdec
    rw [hn.resolve_left (fun z => Nat.succ_ne_zero _ z)] at hdg
    simp only [ab_ex] at h
    split at h
    next y x st0 =>
      obtain ⟨rfl, rfl, rfl, rfl⟩ := ab_nxe h
      exact ⟨⟨Nat.le_refl _, Nat.le_refl _⟩, fun H locs lsR hP hz hS hL => lv_iand hx hb hdg (k H locs lsR hP hz hS hL)⟩
    next => cases h
  | ior =>
    have hdg := hdec
    rw [hn.resolve_left (fun z => Nat.succ_ne_zero _ z)] at hdg
    simp only [ab_ex] at h
    split at h
    next y x st0 =>
      obtain ⟨rfl, rfl, rfl, rfl⟩ := ab_nxe h
      exact ⟨⟨Nat.le_refl _, Nat.le_refl _⟩, fun H locs lsR hP hz hS hL => lv_ior hx hb hdg (k H locs lsR hP hz hS hL)⟩
    next => cases h
  | ixor =>
    have hdg := hdec
    rw [hn.resolve_left (fun z => Nat.succ_ne_zero _ z)] at hdg
    simp only [ab_ex] at h
    split at h
    next y x st0 =>
      obtain ⟨rfl, rfl, rfl, rfl⟩ := ab_nxe h
      exact ⟨⟨Nat.le_refl _, Nat.le_refl _⟩, fun H locs lsR hP hz hS hL => lv_ixor hx hb hdg (k H locs lsR hP hz hS hL)⟩
    next => cases h
  | ishl =>
    have hdg := hdec
    rw [hn.resolve_left (fun z => Nat.succ_ne_zero _ z)] at hdg
    simp only [ab_ex] at h
    split at h
    next y x st0 =>
      obtain ⟨rfl, rfl, rfl, rfl⟩ := ab_nxe h
      exact ⟨⟨Nat.le_refl _, Nat.le_refl _⟩, fun H locs lsR hP hz hS hL => lv_ishl hx hb hdg (k H locs lsR hP hz hS hL)⟩
    next => cases h
  | ishr =>
    have hdg := hdec
    rw [hn.resolve_left (fun z => Nat.succ_ne_zero _ z)] at hdg
    simp only [ab_ex] at h
    split at h
    next y x st0 =>
      obtain ⟨rfl, rfl, rfl, rfl⟩ := ab_nxe h
      exact ⟨⟨Nat.le_refl _, Nat.le_refl _⟩, fun H locs lsR hP hz hS hL => lv_ishr hx hb hdg (k H locs lsR hP hz hS hL)⟩
    next => cases h
  | iushr =>
    have hdg := hdec
    rw [hn.resolve_left (fun z => Nat.succ_ne_zero _ z)] at hdg
    simp only [ab_ex] at h
    split at h
    next y x st0 =>
      obtain ⟨rfl, rfl, rfl, rfl⟩ := ab_nxe h
      exact ⟨⟨Nat.le_refl _, Nat.le_refl _⟩, fun H locs lsR hP hz hS hL => lv_iushr hx hb hdg rfl (k H locs lsR hP hz hS hL)⟩
    next => cases h
  | idiv =>
    have hdg := hdec
    rw [hn.resolve_left (fun z => Nat.succ_ne_zero _ z)] at hdg
    simp only [ab_ex] at h
    split at h
    next y x st0 =>
      split at h
      next => cases h
      next hy =>
        obtain ⟨rfl, rfl, rfl, rfl⟩ := ab_nxe h
        exact ⟨⟨Nat.le_refl _, Nat.le_refl _⟩, fun H locs lsR hP hz hS hL => lv_idiv hx hb hdg (of_decide_eq_false hy) (k H locs lsR hP hz hS hL)⟩
    next => cases h
  | irem =>
    have hdg := hdec
    rw [hn.resolve_left (fun z => Nat.succ_ne_zero _ z)] at hdg
    simp only [ab_ex] at h
    split at h
    next y x st0 =>
      split at h
      next => cases h
      next hy =>
        obtain ⟨rfl, rfl, rfl, rfl⟩ := ab_nxe h
        exact ⟨⟨Nat.le_refl _, Nat.le_refl _⟩, fun H locs lsR hP hz hS hL => lv_irem hx hb hdg (of_decide_eq_false hy) (k H locs lsR hP hz hS hL)⟩
    next => cases h
  | i2b =>
    have hdg := hdec
    rw [hn.resolve_left (fun z => Nat.succ_ne_zero _ z)] at hdg
    simp only [ab_ex] at h
    split at h
    next x st0 =>
      obtain ⟨rfl, rfl, rfl, rfl⟩ := ab_nxe h
      exact ⟨⟨Nat.le_refl _, Nat.le_refl _⟩, fun H locs lsR hP hz hS hL => lv_i2b hx hb hdg rfl (k H locs lsR hP hz hS hL)⟩
    next => cases h
  | i2s =>
    have hdg := hdec
    rw [hn.resolve_left (fun z => Nat.succ_ne_zero _ z)] at hdg
    simp only [ab_ex] at h
    split at h
    next x st0 =>
      obtain ⟨rfl, rfl, rfl, rfl⟩ := ab_nxe h
      exact ⟨⟨Nat.le_refl _, Nat.le_refl _⟩, fun H locs lsR hP hz hS hL => lv_i2s hx hb hdg rfl (k H locs lsR hP hz hS hL)⟩
    next => cases h
  | i2c =>
    have hdg := hdec
    rw [hn.resolve_left (fun z => Nat.succ_ne_zero _ z)] at hdg
    simp only [ab_ex] at h
    split at h
    next x st0 =>
      obtain ⟨rfl, rfl, rfl, rfl⟩ := ab_nxe h
      exact ⟨⟨Nat.le_refl _, Nat.le_refl _⟩, fun H locs lsR hP hz hS hL => lv_i2c hx hb hdg rfl (k H locs lsR hP hz hS hL)⟩
    next => cases h
  | i2l =>
    have hdg := hdec
    rw [hn.resolve_left (fun z => Nat.succ_ne_zero _ z)] at hdg
    simp only [ab_ex] at h
    split at h
    next x st0 =>
      obtain ⟨rfl, rfl, rfl, rfl⟩ := ab_nxe h
      exact ⟨⟨Nat.le_refl _, Nat.le_refl _⟩, fun H locs lsR hP hz hS hL => lv_i2l hx hb hdg rfl (k H locs lsR hP hz hS hL)⟩
    next => cases h
  | ladd =>
    have hdg := hdec
    rw [hn.resolve_left (fun z => Nat.succ_ne_zero _ z)] at hdg
    simp only [ab_ex] at h
    split at h
    next y x st0 =>
      obtain ⟨rfl, rfl, rfl, rfl⟩ := ab_nxe h
      exact ⟨⟨Nat.le_refl _, Nat.le_refl _⟩, fun H locs lsR hP hz hS hL => lv_ladd hx hb hdg (k H locs lsR hP hz hS hL)⟩
    next => cases h
  | lmul =>
    have hdg := hdec
    rw [hn.resolve_left (fun z => Nat.succ_ne_zero _ z)] at hdg
    simp only [ab_ex] at h
    split at h
    next y x st0 =>
      obtain ⟨rfl, rfl, rfl, rfl⟩ := ab_nxe h
      exact ⟨⟨Nat.le_refl _, Nat.le_refl _⟩, fun H locs lsR hP hz hS hL => lv_lmul hx hb hdg (k H locs lsR hP hz hS hL)⟩
    next => cases h
  | lcmp =>
    have hdg := hdec
    rw [hn.resolve_left (fun z => Nat.succ_ne_zero _ z)] at hdg
    simp only [ab_ex] at h
    split at h
    next y x st0 =>
      obtain ⟨rfl, rfl, rfl, rfl⟩ := ab_nxe h
      exact ⟨⟨Nat.le_refl _, Nat.le_refl _⟩, fun H locs lsR hP hz hS hL => W.lcmp hx hb hdg (k H locs lsR hP hz hS hL)⟩
    next => cases h
  | dup =>
    have hdg := hdec
    rw [hn.resolve_left (fun z => Nat.succ_ne_zero _ z)] at hdg
    simp only [ab_ex] at h
    split at h
    next x st0 =>
      obtain ⟨rfl, rfl, rfl, rfl⟩ := ab_nxe h
      exact ⟨⟨Nat.le_refl _, Nat.le_refl _⟩, fun H locs lsR hP hz hS hL => lv_dup hx hb hdg rfl (k H locs lsR hP hz hS hL)⟩
    next x st0 =>
      obtain ⟨rfl, rfl, rfl, rfl⟩ := ab_nxe h
      exact ⟨⟨Nat.le_refl _, Nat.le_refl _⟩, fun H locs lsR hP hz hS hL => lv_dup hx hb hdg rfl (k H locs lsR hP hz hS hL)⟩
    next => cases h
  | dup2 =>
    have hdg := hdec
    rw [hn.resolve_left (fun z => Nat.succ_ne_zero _ z)] at hdg
    simp only [ab_ex] at h
    split at h
    next x r st0 =>
      obtain ⟨rfl, rfl, rfl, rfl⟩ := ab_nxe h
      exact ⟨⟨Nat.le_refl _, Nat.le_refl _⟩, fun H locs lsR hP hz hS hL => lv_dup2_11 hx hb hdg rfl rfl (k H locs lsR hP hz hS hL)⟩
    next => cases h
  | pop =>
    have hdg := hdec
    rw [hn.resolve_left (fun z => Nat.succ_ne_zero _ z)] at hdg
    simp only [ab_ex] at h
    split at h
    next x st0 =>
      obtain ⟨rfl, rfl, rfl, rfl⟩ := ab_nxe h
      exact ⟨⟨Nat.le_refl _, Nat.le_refl _⟩, fun H locs lsR hP hz hS hL => lv_pop hx hb hdg rfl (k H locs lsR hP hz hS hL)⟩
    next => cases h
  | ifCond cnd off =>
    have hdg := hdec
    rw [hn.resolve_left (fun z => Nat.succ_ne_zero _ z)] at hdg
    simp only [ab_ex] at h
    split at h
    next x st0 =>
      obtain ⟨rfl, rfl, rfl, t, ht, hpc⟩ := ab_ife h
      refine ⟨⟨Nat.le_refl _, Nat.le_refl _⟩, fun H locs lsR hP hz hS hL => ?_⟩
      have K : ∀ b, ab_cmp cnd x 0 = b → W p l e R s m args below meth c H locs (w.length - w0.length) (ab_z w - ab_z w0) Q (F0 m (cond b t (pc + 3)) lsR (st0.map (ab_v N E))) := by
        intro b hb2
        have := k H locs lsR hP hz hS hL
        rw [hpc, hb2] at this
        exact this
      cases cnd
      · exact lv_if_eq hx hb hdg ht (fun q => K true (decide_eq_true q)) (fun q => K false (decide_eq_false q))
      · exact lv_if_ne hx hb hdg ht (fun q => K true (by show (!decide _) = true; rw [decide_eq_false q]; rfl)) (fun q => K false (by show (!decide _) = false; rw [decide_eq_true q]; rfl))
      · exact lv_if_lt hx hb hdg ht (fun q => K true (decide_eq_true q)) (fun q => K false (decide_eq_false q))
      · exact lv_if_ge hx hb hdg ht (fun q => K true (decide_eq_true q)) (fun q => K false (decide_eq_false q))
      · exact lv_if_gt hx hb hdg ht (fun q => K true (decide_eq_true q)) (fun q => K false (decide_eq_false q))
      · exact lv_if_le hx hb hdg ht (fun q => K true (decide_eq_true q)) (fun q => K false (decide_eq_false q))
    next => cases h
  | if_icmp cnd off =>
    have hdg := hdec
    rw [hn.resolve_left (fun z => Nat.succ_ne_zero _ z)] at hdg
    simp only [ab_ex] at h
    split at h
    next y x st0 =>
      obtain ⟨rfl, rfl, rfl, t, ht, hpc⟩ := ab_ife h
      refine ⟨⟨Nat.le_refl _, Nat.le_refl _⟩, fun H locs lsR hP hz hS hL => ?_⟩
      have K : ∀ b, ab_cmp cnd x y = b → W p l e R s m args below meth c H locs (w.length - w0.length) (ab_z w - ab_z w0) Q (F0 m (cond b t (pc + 3)) lsR (st0.map (ab_v N E))) := by
        intro b hb2
        have := k H locs lsR hP hz hS hL
        rw [hpc, hb2] at this
        exact this
      cases cnd
      · exact lv_icmp_eq hx hb hdg ht (fun q => K true (decide_eq_true q)) (fun q => K false (decide_eq_false q))
      · exact lv_icmp_ne hx hb hdg ht (fun q => K true (by show (!decide _) = true; rw [decide_eq_false q]; rfl)) (fun q => K false (by show (!decide _) = false; rw [decide_eq_true q]; rfl))
      · exact lv_icmp_lt hx hb hdg ht (fun q => K true (decide_eq_true q)) (fun q => K false (decide_eq_false q))
      · exact lv_icmp_ge hx hb hdg ht (fun q => K true (decide_eq_true q)) (fun q => K false (decide_eq_false q))
      · exact lv_icmp_gt hx hb hdg ht (fun q => K true (decide_eq_true q)) (fun q => K false (decide_eq_false q))
      · exact lv_icmp_le hx hb hdg ht (fun q => K true (decide_eq_true q)) (fun q => K false (decide_eq_false q))
    next => cases h
  | ifnull off =>
    have hdg := hdec
    rw [hn.resolve_left (fun z => Nat.succ_ne_zero _ z)] at hdg
    simp only [ab_ex] at h
    split at h
    next st0 =>
      obtain ⟨ht, rfl, rfl, rfl⟩ := ab_goe h
      exact ⟨⟨Nat.le_refl _, Nat.le_refl _⟩, fun H locs lsR hP hz hS hL => lv_ifnullN hx hb hdg ht (k H locs lsR hP hz hS hL)⟩
    next r st0 =>
      obtain ⟨rfl, rfl, rfl, rfl⟩ := ab_nxe h
      exact ⟨⟨Nat.le_refl _, Nat.le_refl _⟩, fun H locs lsR hP hz hS hL => lv_ifnull hx hb hdg (k H locs lsR hP hz hS hL)⟩
    next => cases h
  | ifnonnull off =>
    have hdg := hdec
    rw [hn.resolve_left (fun z => Nat.succ_ne_zero _ z)] at hdg
    simp only [ab_ex] at h
    split at h
    next st0 =>
      obtain ⟨rfl, rfl, rfl, rfl⟩ := ab_nxe h
      exact ⟨⟨Nat.le_refl _, Nat.le_refl _⟩, fun H locs lsR hP hz hS hL => lv_ifnonnullN hx hb hdg (k H locs lsR hP hz hS hL)⟩
    next r st0 =>
      obtain ⟨ht, rfl, rfl, rfl⟩ := ab_goe h
      exact ⟨⟨Nat.le_refl _, Nat.le_refl _⟩, fun H locs lsR hP hz hS hL => lv_ifnonnull hx hb hdg ht (k H locs lsR hP hz hS hL)⟩
    next => cases h
  | goto off =>
    have hdg := hdec
    rw [hn.resolve_left (fun z => Nat.succ_ne_zero _ z)] at hdg
    simp only [ab_ex] at h
    obtain ⟨ht, rfl, rfl, rfl⟩ := ab_goe h
    exact ⟨⟨Nat.le_refl _, Nat.le_refl _⟩, fun H locs lsR hP hz hS hL => lv_goto hx hb hdg ht (k H locs lsR hP hz hS hL)⟩
  | tableswitch d lo hi offs =>
    have hdg := hdec
    simp only [ab_ex] at h
    split at h
    next x st0 =>
      split at h
      next hc =>
        obtain ⟨ht, rfl, rfl, rfl⟩ := ab_goe h
        simp only [Bool.or_eq_true, decide_eq_true_eq] at hc
        exact ⟨⟨Nat.le_refl _, Nat.le_refl _⟩, fun H locs lsR hP hz hS hL => lv_tableOut hx hb hdg hc ht (k H locs lsR hP hz hS hL)⟩
      next hc =>
        split at h
        next off ho =>
          obtain ⟨ht, rfl, rfl, rfl⟩ := ab_goe h
          simp only [Bool.or_eq_false_iff, decide_eq_false_iff_not] at hc
          rw [Array.getElem?_toList] at ho
          exact ⟨⟨Nat.le_refl _, Nat.le_refl _⟩, fun H locs lsR hP hz hS hL => lv_tableIn hx hb hdg hc.1 hc.2 ho ht (k H locs lsR hP hz hS hL)⟩
        next => cases h
    next => cases h
  | getfield ix =>
    have hdg := hdec
    rw [hn.resolve_left (fun z => Nat.succ_ne_zero _ z)] at hdg
    simp only [ab_ex] at h
    obtain ⟨rfl, hJ⟩ := ab_getw B' h hdg k
    exact ⟨⟨Nat.le_refl _, Nat.le_refl _⟩, hJ⟩
  | putfield ix =>
    have hdg := hdec
    rw [hn.resolve_left (fun z => Nat.succ_ne_zero _ z)] at hdg
    simp only [ab_ex] at h
    obtain ⟨h1, h2, hJ⟩ := ab_putw B' hg.1 h hdg k
    exact ⟨⟨Nat.le_of_eq h1.symm, Nat.le_of_eq h2.symm⟩, hJ⟩
  | getstatic ix =>
    have hdg := hdec
    rw [hn.resolve_left (fun z => Nat.succ_ne_zero _ z)] at hdg
    simp only [ab_ex] at h
    obtain ⟨-, -, -, -, -, -, -, ⟨t0, t1, t2, t3⟩, -, h9, h10⟩ := hU
    split at h
    next pl hl =>
      obtain ⟨rfl, rfl, rfl, rfl⟩ := ab_nxe h
      have hk : lw_tbl[pl]? = some (.fieldLink (ab_nm (ic mi)) ix "StairRow$House" "ABOVE" "[I") := of_decide_eq_true (List.all_eq_true.mp (ab_ckWat hcl).2.1 _ (ab_lk_mem _ _ _ hl))
      refine ⟨⟨Nat.le_refl _, Nat.le_refl _⟩, fun H locs lsR hP hz hS hL => ?_⟩
      have := k H locs lsR hP hz hS hL
      have e1 : (Value.retAddr 1 :: st).map (ab_v N E) = .ref t0 :: st.map (ab_v N E) := by rw [← t1]; rfl
      rw [e1] at this
      exact va_gets hx hb t2 hS hown (hts _ (ab_gwM hk rfl)) (fun _ h => h) hdg this
    next pl hl =>
      obtain ⟨rfl, rfl, rfl, rfl⟩ := ab_nxe h
      have hk : lw_tbl[pl]? = some (.fieldLink (ab_nm (ic mi)) ix "java/lang/String" "COMPACT_STRINGS" "Z") := of_decide_eq_true (List.all_eq_true.mp (ab_ckWat hcl).2.1 _ (ab_lk_mem _ _ _ hl))
      exact ⟨⟨Nat.le_refl _, Nat.le_refl _⟩, fun H locs lsR hP hz hS hL => va_gets hx hb h9 hS hown (hts _ (ab_gwM hk rfl)) (fun _ h => h) hdg (k H locs lsR hP hz hS hL)⟩
    next pl hl =>
      obtain ⟨rfl, rfl, rfl, rfl⟩ := ab_nxe h
      have hk : lw_tbl[pl]? = some (.fieldLink (ab_nm (ic mi)) ix "jdk/internal/util/Preconditions" "SIOOBE_FORMATTER" "Ljava/util/function/BiFunction;") := of_decide_eq_true (List.all_eq_true.mp (ab_ckWat hcl).2.1 _ (ab_lk_mem _ _ _ hl))
      exact ⟨⟨Nat.le_refl _, Nat.le_refl _⟩, fun H locs lsR hP hz hS hL => va_gets hx hb h10 hS hown (hts _ (ab_gwM hk rfl)) (fun _ h => h) hdg (k H locs lsR hP hz hS hL)⟩
    next => cases h
  | arraylength =>
    have hdg := hdec
    rw [hn.resolve_left (fun z => Nat.succ_ne_zero _ z)] at hdg
    simp only [ab_ex] at h
    obtain ⟨rfl, hJ⟩ := ab_alenw B' h hdg k
    exact ⟨⟨Nat.le_refl _, Nat.le_refl _⟩, hJ⟩
  | iaload =>
    have hdg := hdec
    rw [hn.resolve_left (fun z => Nat.succ_ne_zero _ z)] at hdg
    simp only [ab_ex] at h
    obtain ⟨rfl, hJ⟩ := ab_ialdw B' h hdg k
    exact ⟨⟨Nat.le_refl _, Nat.le_refl _⟩, hJ⟩
  | baload =>
    have hdg := hdec
    rw [hn.resolve_left (fun z => Nat.succ_ne_zero _ z)] at hdg
    simp only [ab_ex] at h
    obtain ⟨rfl, hJ⟩ := ab_baldw B' h hdg k
    exact ⟨⟨Nat.le_refl _, Nat.le_refl _⟩, hJ⟩
  | aaload =>
    have hdg := hdec
    rw [hn.resolve_left (fun z => Nat.succ_ne_zero _ z)] at hdg
    simp only [ab_ex] at h
    obtain ⟨rfl, hJ⟩ := ab_aaldw B' h hdg k
    exact ⟨⟨Nat.le_refl _, Nat.le_refl _⟩, hJ⟩
  | iastore =>
    have hdg := hdec
    rw [hn.resolve_left (fun z => Nat.succ_ne_zero _ z)] at hdg
    simp only [ab_ex] at h
    obtain ⟨h1, h2, hJ⟩ := ab_iastw B' hg.1 h hdg k
    exact ⟨⟨Nat.le_of_eq h1.symm, Nat.le_of_eq h2.symm⟩, hJ⟩
  | aastore =>
    have hdg := hdec
    rw [hn.resolve_left (fun z => Nat.succ_ne_zero _ z)] at hdg
    simp only [ab_ex] at h
    obtain ⟨h1, h2, hJ⟩ := ab_aastw B' hg.1 h hdg k
    exact ⟨⟨Nat.le_of_eq h1.symm, Nat.le_of_eq h2.symm⟩, hJ⟩
  | new ix =>
    have hdg := hdec
    rw [hn.resolve_left (fun z => Nat.succ_ne_zero _ z)] at hdg
    simp only [ab_ex] at h
    split at h
    next ci pl hl =>
      split at h
      next hc =>
        obtain ⟨rfl, rfl, rfl, rfl⟩ := ab_nxe h
        refine ⟨⟨by simp, by unfold ab_z; rw [List.map_append, List.sum_append]; omega⟩, ?_⟩
        exact ab_newO B' hl (Nat.le_of_ble_eq_true hc) hdg hg hRb k
      next => cases h
    next => cases h
  | newarray ty =>
    have hdg := hdec
    rw [hn.resolve_left (fun z => Nat.succ_ne_zero _ z)] at hdg
    cases ty with
    | int =>
      simp only [ab_ex] at h
      split at h
      next n st0 =>
        split at h
        next hc =>
          obtain ⟨rfl, rfl, rfl, rfl⟩ := ab_nxe h
          simp only [Bool.and_eq_true, Bool.not_eq_true', decide_eq_false_iff_not] at hc
          refine ⟨⟨by simp, by unfold ab_z; rw [List.map_append, List.sum_append]; omega⟩, ?_⟩
          exact ab_newI B' hc.1 (Nat.le_of_ble_eq_true hc.2) hdg hg hRb k
        next => cases h
      next => cases h
    | _ => cases h
  | anewarray ix =>
    have hdg := hdec
    rw [hn.resolve_left (fun z => Nat.succ_ne_zero _ z)] at hdg
    simp only [ab_ex] at h
    split at h
    next k0 pl hl =>
      split at h
      next n st0 =>
        split at h
        next hc =>
          obtain ⟨rfl, rfl, rfl, rfl⟩ := ab_nxe h
          simp only [Bool.and_eq_true, Bool.not_eq_true', decide_eq_false_iff_not, Bool.or_eq_true] at hc
          refine ⟨⟨by simp, by unfold ab_z; rw [List.map_append, List.sum_append]; omega⟩, ?_⟩
          exact ab_newQ B' hl (hc.2.imp Nat.eq_of_beq_eq_true Nat.eq_of_beq_eq_true) hc.1.1 (Nat.le_of_ble_eq_true hc.1.2) hdg hg hRb k
        next => cases h
      next => cases h
    next => cases h
  | invokestatic ix =>
    have hdg := hdec
    rw [hn.resolve_left (fun z => Nat.succ_ne_zero _ z)] at hdg
    simp only [ab_ex] at h
    split at h
    next pl hl =>
      obtain ⟨h1, h2, hJ⟩ := ab_cpyw B' hR hg.1 hl h hdg k
      exact ⟨⟨Nat.le_of_eq h1.symm, Nat.le_of_eq h2.symm⟩, hJ⟩
    next =>
      split at h
      next pl hl =>
        split at h
        next y x st0 =>
          split at h
          next hc =>
            obtain ⟨rfl, rfl, rfl, rfl⟩ := ab_nxe h
            have hk : lw_tbl[pl]? = some (.methodLink (ab_nm (ic mi)) ix Lib.Math.max.name) := of_decide_eq_true (List.all_eq_true.mp (ab_ckWat hcl).2.2.2.2 _ (ab_lk_mem _ _ _ hl))
            have hsum : ((st0.map (ab_v N E)).map fun v => v.category).sum ≤ 8 := by rw [ab_cat_sum hE]; exact of_decide_eq_true hc
            exact ⟨⟨Nat.le_refl _, Nat.le_refl _⟩, fun H locs lsR hP hz hS hL => va_mmax hx hb (by rw [hml]; exact hL.2.1.symm) hown (hts _ (ab_gwM hk rfl)) (hts _ (ab_gwM (i := 646) (by decide +kernel) rfl)) (hts _ (ab_gwM (i := 127) (by decide +kernel) rfl)) (hts _ (ab_gwM (i := 647) (by decide +kernel) rfl)) hR.1 (by omega) hRb.1 hRb.2 hdg (k H locs lsR hP hz hS hL)⟩
          next => cases h
        next => cases h
      next pl hl =>
        split at h
        next y x st0 =>
          split at h
          next hc =>
            obtain ⟨rfl, rfl, rfl, rfl⟩ := ab_nxe h
            have hk : lw_tbl[pl]? = some (.methodLink (ab_nm (ic mi)) ix Lib.Math.min.name) := of_decide_eq_true (List.all_eq_true.mp (ab_ckWat hcl).2.2.2.2 _ (ab_lk_mem _ _ _ hl))
            have hsum : ((st0.map (ab_v N E)).map fun v => v.category).sum ≤ 8 := by rw [ab_cat_sum hE]; exact of_decide_eq_true hc
            exact ⟨⟨Nat.le_refl _, Nat.le_refl _⟩, fun H locs lsR hP hz hS hL => va_mmin hx hb (by rw [hml]; exact hL.2.1.symm) hown (hts _ (ab_gwM hk rfl)) (hts _ (ab_gwM (i := 907) (by decide +kernel) rfl)) (hts _ (ab_gwM (i := 127) (by decide +kernel) rfl)) (hts _ (ab_gwM (i := 908) (by decide +kernel) rfl)) hR.1 (by omega) hRb.1 hRb.2 hdg (k H locs lsR hP hz hS hL)⟩
          next => cases h
        next => cases h
      next => cases h
      next => exact absurd h (ab_inv_no _ _ _ _ _ _ _ _)
  | invokevirtual ix =>
    have hdg := hdec
    rw [hn.resolve_left (fun z => Nat.succ_ne_zero _ z)] at hdg
    simp only [ab_ex] at h
    exact absurd h (ab_inv_no _ _ _ _ _ _ _ _)
  | invokespecial ix =>
    have hdg := hdec
    rw [hn.resolve_left (fun z => Nat.succ_ne_zero _ z)] at hdg
    simp only [ab_ex] at h
    split at h
    next pl hl =>
      split at h
      next r st0 =>
        split at h
        next hc =>
          obtain ⟨rfl, rfl, rfl, rfl⟩ := ab_nxe h
          have hk : lw_tbl[pl]? = some (.methodLink (ab_nm (ic mi)) ix Lib.objectInit) := of_decide_eq_true (List.all_eq_true.mp (ab_ckWat hcl).2.2.1 _ (ab_lk_mem _ _ _ hl))
          have hsum : ((st0.map (ab_v N E)).map fun v => v.category).sum ≤ 8 := by rw [ab_cat_sum hE]; exact of_decide_eq_true hc
          exact ⟨⟨Nat.le_refl _, Nat.le_refl _⟩, fun H locs lsR hP hz hS hL => W.objInit hx hb hown (hts _ (ab_gwM hk rfl)) (hts _ (ab_gwM (i := 139) (by decide +kernel) rfl)) (hts _ (ab_gwM (i := 140) (by decide +kernel) rfl)) rfl (hL.2.1.trans hml.symm) rfl hdg hR.1 (by show 2 * 0 + _ + 12 ≤ _; omega) (k H locs lsR hP hz hS hL)⟩
        next => cases h
      next => cases h
    next => exact absurd h (ab_inv_no _ _ _ _ _ _ _ _)
  | ireturn =>
    have hdg := hdec
    rw [hn.resolve_left (fun z => Nat.succ_ne_zero _ z)] at hdg
    simp only [ab_ex] at h
    repeat' split at h
    all_goals cases h
  | lreturn =>
    have hdg := hdec
    rw [hn.resolve_left (fun z => Nat.succ_ne_zero _ z)] at hdg
    simp only [ab_ex] at h
    repeat' split at h
    all_goals cases h
  | areturn =>
    have hdg := hdec
    rw [hn.resolve_left (fun z => Nat.succ_ne_zero _ z)] at hdg
    simp only [ab_ex] at h
    repeat' split at h
    all_goals cases h
  | return_ =>
    have hdg := hdec
    rw [hn.resolve_left (fun z => Nat.succ_ne_zero _ z)] at hdg
    simp only [ab_ex] at h
    repeat' split at h
    all_goals cases h
  | _ => cases h
end THREE
end
section
def ab_wl (i : ab_I) : List Jvm.Cond := .code (iy i) (ib i) (iL i) (ir i) :: ab_gw
def ab_rm (i : ab_I) (w w' : ab_W) : Room := { frames := ih_ i, cells := w'.length - w.length, slots := ab_z w' - ab_z w, locals := 32 * ih_ i }
def ab_Qc (N : Nat) (E : Nat → Value) (cI cH cS : ClassId) (D : va_G) (v : Option Value) (w' : ab_W) : Array Value → State → Outcome → State → Prop := fun _ st o t => o = .returned (v.map (ab_v N E)) ∧ va_P D vwCl (ab_ws N E cI cH cS w') t.heap ∧ t.heap.size = N + w'.length ∧ va_F (ab_A N) st t
def ab_MM (l : Launch) (X : List Int32) (N : Nat) (E : Nat → Value) (cI cH cS : ClassId) (D : va_G) (i : ab_I) (as : List Value) (w : ab_W) (v : Option Value) (w' : ab_W) : Prop :=
  Met l (iy i) (ab_wl i) (ab_rm i w w') (va_Pc (as.map (ab_v N E)) (ab_U X N E cI cH cS D w)) (ab_Qc N E cI cH cS D v w') (w'.length - w.length) (ab_z w' - ab_z w) (ab_A N)
section FOUR
variable {p : Program} {l : Launch} {e : Env} {R : Room} {s : State} {m : MethodId} {args : Array Value} {below : List Frame} {meth : Method} {c : Code} {Q : State → Prop} {mi : ab_I} {X : List Int32} {N : Nat} {E : Nat → Value} {cI cH cS : ClassId} {D : va_G} {w0 : ab_W}
variable {pc pc' : Nat} {ls ls' : List (Option Value)} {st st' : List Value} {w w' w1 : ab_W} {v : Option Value}
theorem ab_blind (as : List Value) : FrameBlind (va_Pc (as.map (ab_v N E)) (ab_U X N E cI cH cS D w)) := fun a U g mk h => ⟨h.1, ab_U_blind (s := U) (U := U.calling g mk a) rfl rfl h.2⟩
theorem ab_U_at (hsz : N ≤ s.heap.size) (h : ab_U X N E cI cH cS D w0 s) {U : State} {H : Heap} {locs : List Loc} (hU : U.heap = H) (hW : s.WarmedH U.vm) (hP : va_P D vwCl (ab_ws N E cI cH cS w) H) (hz : H.size = N + w.length) (hS : va_S (ab_A N) s.heap H locs) : ab_U X N E cI cH cS D w U := by
  obtain ⟨h1, h2, h3, h4, h5, h6, h7⟩ := h
  have hal := hW.alike
  refine ⟨by rw [hU]; exact hP, by rw [hU]; exact hz, va_K.moved hal h3, h4.moved hal, h5.moved hal, fun x hx hn => ab_Nw_warm hn hW (h6 x hx hn), ?_⟩
  rw [hU]
  exact ab_X2_at hW hsz hS.2.1 h7
theorem ab_after {stR rest : List Value} {lsR : Array Slot} {H : Heap} {locs : List Loc} {cells slots mc ms : Nat} {a : Array Value} (hr : va_Run p l e R s m args below meth c H locs cells slots mc ms (F0 m pc lsR stR) rest (ab_Qc N E cI cH cS D v w1 a) (ab_A N)) (hS : va_S (ab_A N) s.heap H locs)
    (kk : ∀ (H1 : Heap) (locs1 : List Loc), va_P D vwCl (ab_ws N E cI cH cS w1) H1 → H1.size = N + w1.length → va_S (ab_A N) s.heap H1 locs1 → W p l e R s m args below meth c H1 locs1 (cells + mc) (slots + ms) Q (F0 m (pc + 3) lsR ((v.map (ab_v N E)).toList ++ rest))) : W p l e R s m args below meth c H locs cells slots Q (F0 m pc lsR stR) := by
  intro T hT X
  obtain ⟨v', st₀, t, T', L, h0, X', hL, e1, e2, ⟨hv, hP, hz, hF⟩, st⟩ := hr T hT X
  cases hv
  obtain ⟨hz1, hk⟩ := hF
  rw [h0] at hz1 hk
  obtain ⟨t2, a1, b1⟩ := kk T'.heap (locs ++ L) (by rw [e1]; exact hP) (by rw [e1]; exact hz) ⟨Nat.le_trans hS.1 (by rw [e1]; exact hz1), fun q h1 h2 => by rw [e1, hk q (Nat.lt_of_lt_of_le h1 hS.1) h2]; exact hS.2.1 q h1 h2, fun q hq => by
      rcases List.mem_append.mp hq with h | h
      · exact hS.2.2 q h
      · exact hL q h⟩ T' rfl X'
  exact ⟨t2, st t2 a1, b1⟩
theorem ab_gwG (i : ab_I) (h : lw_tbl[(ip_ i).1]? = some (.code (iy i) (ib i) (iL i) (ir i))) : GoodIn ab_gw (ab_wl i) := by
  intro x hx
  have hx2 : x ∈ ab_gw := by
    rcases List.mem_cons.mp hx with rfl | hx
    · exact ab_gwM h rfl
    · exact hx
  exact ⟨hx2, good_of_word (List.mem_filter.mp hx2).2⟩
theorem ab_rev {n : Nat} {x : Value} {as : List Value} (h : (st.take n).reverse = x :: as) : st = as.reverse ++ x :: st.drop n := by
  have h1 : st.take n = (x :: as).reverse := by rw [← h, List.reverse_reverse]
  have h2 := List.take_append_drop n st
  rw [h1, List.reverse_cons, List.append_assoc] at h2
  exact h2.symm
theorem ab_callw (B : ab_B p s m args meth c mi X N E cI cH cS D w0) (hc2 : ∀ k, k < 246 → ab_ck2 (ab_mi k) = true) (hR : ih_ mi ≤ R.frames ∧ 32 * ih_ mi ≤ R.locals) {op ix : Nat} {k' : Nat} {as : List Value} (h : ab_inv mi op pc ix ls st w = some (.inr (.inr (k', as, (pc', ls', st', w')))))
    (hd0 : op = 0 → decode (ib mi) pc = .ok (.invokestatic ix, 3)) (hd1 : op = 1 → decode (ib mi) pc = .ok (.invokevirtual ix, 3)) (hd2 : ¬ op = 0 → ¬ op = 1 → decode (ib mi) pc = .ok (.invokespecial ix, 3)) (hw1 : w.length ≤ w1.length ∧ ab_z w ≤ ab_z w1) (hg : w0.length ≤ w.length ∧ ab_z w0 ≤ ab_z w) (hRb : w1.length - w0.length ≤ R.cells ∧ ab_z w1 - ab_z w0 ≤ R.slots)
    (hM : ab_MM l X N E cI cH cS D (ab_mi k') as w v w1) (k : ab_J p l e R s m args below meth c Q mi N E cI cH cS D w0 pc' ls' (v.toList ++ st') w1) : w' = w ∧ ab_J p l e R s m args below meth c Q mi N E cI cH cS D w0 pc ls st w := by
  obtain ⟨hx, hb, hml, hown, hts, hU, hnm, hcl, hE, hh1⟩ := B
  have hU0 := hU
  obtain ⟨-, hsz, hK, -, -, hN, hX2⟩ := hU
  unfold ab_inv at h
  split at h
  next k1 nest pl hl =>
    have hm1 := List.all_eq_true.mp (List.all_eq_true.mp ab_c3M (ic mi) (List.mem_range.mpr hcl)) _ (ab_lk_mem _ _ _ hl)
    simp only [ab_ckM, Bool.and_eq_true, decide_eq_true_eq] at hm1
    have hk1 : k1 < 246 := Nat.le_of_ble_eq_true hm1.1
    have hck := hc2 k1 hk1
    simp only [ab_ck2, Bool.and_eq_true, decide_eq_true_eq, Bool.or_eq_true, beq_iff_eq, Bool.not_eq_true', beq_eq_false_iff_ne] at hck
    obtain ⟨⟨⟨⟨⟨⟨⟨⟨⟨⟨⟨q1, q2⟩, q3⟩, q4⟩, q5⟩, q6⟩, q7⟩, q8⟩, q9⟩, q10⟩, q11⟩, q12⟩ := hck
    split at h
    next hc =>
      simp only [Bool.and_eq_true, decide_eq_true_eq] at hc
      obtain ⟨⟨⟨⟨c1, c2⟩, c3⟩, c4⟩, c5⟩ := hc
      have c1 := Nat.le_of_ble_eq_true c1
      have c2 : ih_ (ab_mi k1) + 1 ≤ ih_ mi := Nat.le_of_ble_eq_true c2
      have c3 := Nat.le_of_ble_eq_true c3
      have hG := ab_gwG (ab_mi k1) q1
      have hini : (Cond.initialized (iy (ab_mi k1)).cls).before args s = true := hts _ (ab_gwM q3 rfl)
      have hfit : ih_ (ab_mi k1) + 1 ≤ R.frames ∧ 8 + (iL (ab_mi k1) + 11) + 32 * ih_ (ab_mi k1) ≤ R.locals := ⟨by omega, by omega⟩
      have hrest : (((st.drop (in_ (ab_mi k1))).map (ab_v N E)).map fun v => v.category).sum ≤ 8 := by rw [ab_cat_sum hE]; exact c4
      have hcs : (w.length - w0.length) + (w1.length - w.length) = w1.length - w0.length := by omega
      have hss : (ab_z w - ab_z w0) + (ab_z w1 - ab_z w) = ab_z w1 - ab_z w0 := by omega
      have hfin : ∀ {lsR : Array Slot} {H1 : Heap} {locs1 : List Loc}, W p l e R s m args below meth c H1 locs1 (w1.length - w0.length) (ab_z w1 - ab_z w0) Q (F0 m (pc + 3) lsR ((v.toList ++ st.drop (in_ (ab_mi k1))).map (ab_v N E))) → W p l e R s m args below meth c H1 locs1 ((w.length - w0.length) + (w1.length - w.length)) ((ab_z w - ab_z w0) + (ab_z w1 - ab_z w)) Q (F0 m (pc + 3) lsR ((v.map (ab_v N E)).toList ++ (st.drop (in_ (ab_mi k1))).map (ab_v N E))) := by
        intro lsR H1 locs1 h
        rw [hcs, hss]
        rw [List.map_append] at h
        have e : v.toList.map (ab_v N E) = (v.map (ab_v N E)).toList := by cases v <;> rfl
        rw [e] at h
        exact h
      have hUat : ∀ {H : Heap} {locs : List Loc}, va_P D vwCl (ab_ws N E cI cH cS w) H → H.size = N + w.length → va_S (ab_A N) s.heap H locs → ∀ U : State, U.heap = H → s.WarmedH U.vm → ab_U X N E cI cH cS D w U := fun hP hz hS U hU hW => ab_U_at (by omega) hU0 hU hW hP hz hS
      have hcap : (w.length - w0.length) + (w1.length - w.length) ≤ R.cells ∧ (ab_z w - ab_z w0) + (ab_z w1 - ab_z w) ≤ R.slots := ⟨by omega, by omega⟩
      split at h
      · -- static
        have hdg := hd0 rfl
        split at h
        next hst =>
          cases h
          rw [hst] at q2 q7
          have hn : (parseMethodDescriptor (iy (ab_mi k')).desc).map (fun d => d.parameters.length) = some (in_ (ab_mi k')) := q7
          have hlen : ((st.take (in_ (ab_mi k'))).reverse.map (ab_v N E)).length = in_ (ab_mi k') := by simp; omega
          have hstk : st.map (ab_v N E) = ((st.take (in_ (ab_mi k'))).reverse.map (ab_v N E)).reverse ++ (st.drop (in_ (ab_mi k'))).map (ab_v N E) := by
            rw [← List.map_reverse, List.reverse_reverse, ← List.map_append, List.take_append_drop]
          refine ⟨rfl, fun H locs lsR hP hz hS hL => ?_⟩
          cases nest with
          | false =>
            exact ab_after (va_runS ⟨hx, hb, hml, hown, hts⟩ hM ⟨callB_of _ hts hG rfl rfl rfl hini (hts _ (ab_gwM hm1.2 rfl)) ⟨q6.1, q6.2, hn⟩ hfit, hts _ (ab_gwM q2 rfl)⟩ ⟨ab_blind _, fun U hU hW => ⟨rfl, hUat hP hz hS U hU hW⟩⟩ rfl hlen hL.2.1 hstk (lv_room hrest) hdg hcap) hS fun H1 locs1 z1 z2 z3 => hfin (k H1 locs1 lsR z1 z2 z3 hL)
          | true =>
            exact ab_after (va_runSN ⟨hx, hb, hml, hown, hts⟩ hM ⟨va_cnB _ hts hG rfl rfl rfl (hN _ (List.mem_of_getElem? hm1.2) rfl) hini ⟨q6.1, q6.2, hn⟩ hfit, hts _ (ab_gwM q2 rfl), trivial⟩ ⟨ab_blind _, fun U hU hW => ⟨rfl, hUat hP hz hS U hU hW⟩⟩ rfl hlen hL.2.1 hstk (lv_room hrest) hdg hcap) hS fun H1 locs1 z1 z2 z3 => hfin (k H1 locs1 lsR z1 z2 z3 hL)
        next => cases h
      · -- virtual
        have hdg := hd1 rfl
        split at h
        next r as0 has =>
          split at h
          next ci vv hw =>
            split at h
            next hcc =>
              cases h
              simp only [Bool.and_eq_true, Bool.not_eq_true', beq_eq_false_iff_ne] at hcc
              obtain ⟨⟨⟨d1, d2⟩, d3⟩, d4⟩ := hcc
              have d1 := Nat.eq_of_beq_eq_true d1
              have d2 : ci < 7 := Nat.le_of_ble_eq_true d2
              rw [d3] at q2 q7 q4
              have q4 := q4.resolve_left (fun z => by rcases z with z | z; · cases z
                                                      · exact d4 z)
              have hst := ab_rev has
              have hlen0 : as0.length + 1 = in_ (ab_mi k') := by
                have h1 := congrArg List.length has
                simp at h1
                omega
              have hn : (parseMethodDescriptor (iy (ab_mi k')).desc).map (fun d => d.parameters.length) = some as0.length := by
                cases hp : parseMethodDescriptor (iy (ab_mi k')).desc with
                | none => rw [hp] at q7; cases q7
                | some d =>
                  rw [hp] at q7
                  have : d.parameters.length + 1 = in_ (ab_mi k') := Option.some.inj q7
                  show some d.parameters.length = some as0.length
                  congr 1
                  omega
              have hstk : st.map (ab_v N E) = (as0.map (ab_v N E)).reverse ++ .ref (N + r) :: (st.drop (in_ (ab_mi k'))).map (ab_v N E) := by
                conv => lhs; rw [hst]
                rw [List.map_append, List.map_reverse, List.map_cons]
                rfl
              refine ⟨rfl, fun H locs lsR hP hz hS hL => ?_⟩
              have hrec : ∃ cell : Cell, H[N + r]? = some cell ∧ cell.vm.isStatics = false ∧ s.vm.findClass (iy (ab_mi k')).cls = some cell.cls := by
                have he := ab_ws_get (N := N) (E := E) (cI := cI) (cH := cH) (cS := cS) hw
                rw [ab_e_o d2] at he
                have := va_recv hK hP (ab_cls ci d2).1 he
                rw [q5, ← d1]
                exact this
              cases nest with
              | false =>
                exact ab_after (va_runV (C := (iy (ab_mi k')).cls) ⟨hx, hb, hml, hown, hts⟩ hM ⟨callB_of _ hts hG rfl rfl rfl hini (hts _ (ab_gwM hm1.2 rfl)) ⟨q6.1, q6.2, hn⟩ hfit, hts _ (ab_gwM q2 rfl), hts _ (ab_gwM q4 rfl)⟩ ⟨ab_blind _, hrec, fun U hU hW => ⟨rfl, hUat hP hz hS U hU hW⟩⟩ rfl (List.length_map ..) hL.2.1 hstk (lv_room hrest) hdg hcap) hS fun H1 locs1 z1 z2 z3 => hfin (k H1 locs1 lsR z1 z2 z3 hL)
              | true =>
                exact ab_after (va_runVN (C := (iy (ab_mi k')).cls) ⟨hx, hb, hml, hown, hts⟩ hM ⟨va_cnB _ hts hG rfl rfl rfl (hN _ (List.mem_of_getElem? hm1.2) rfl) hini ⟨q6.1, q6.2, hn⟩ hfit, hts _ (ab_gwM q2 rfl), hts _ (ab_gwM q4 rfl)⟩ ⟨ab_blind _, hrec, fun U hU hW => ⟨rfl, hUat hP hz hS U hU hW⟩⟩ rfl (List.length_map ..) hL.2.1 hstk (lv_room hrest) hdg hcap) hS fun H1 locs1 z1 z2 z3 => hfin (k H1 locs1 lsR z1 z2 z3 hL)
            next => cases h
          next => cases h
        next j as0 has =>
          split at h
          next hcc =>
            cases h
            simp only [Bool.and_eq_true, Bool.not_eq_true', beq_eq_false_iff_ne] at hcc
            obtain ⟨⟨⟨⟨d0, d1⟩, d2⟩, d3⟩, d4⟩ := hcc
            have d0 := Nat.le_of_ble_eq_true d0
            have d1 : j < 27 := Nat.le_of_ble_eq_true d1
            have d2 : 8 = ic (ab_mi k') := Nat.eq_of_beq_eq_true d2
            rw [d3] at q2 q7 q4
            have q4 := q4.resolve_left (fun z => by rcases z with z | z; · cases z
                                                    · exact d4 z)
            have hst := ab_rev has
            have hlen0 : as0.length + 1 = in_ (ab_mi k') := by
              have h1 := congrArg List.length has
              simp at h1
              omega
            have hn : (parseMethodDescriptor (iy (ab_mi k')).desc).map (fun d => d.parameters.length) = some as0.length := by
              cases hp : parseMethodDescriptor (iy (ab_mi k')).desc with
              | none => rw [hp] at q7; cases q7
              | some d =>
                rw [hp] at q7
                have : d.parameters.length + 1 = in_ (ab_mi k') := Option.some.inj q7
                show some d.parameters.length = some as0.length
                congr 1
                omega
            obtain ⟨-, -, ⟨adK, adV, k1, k2, k3⟩, -, -⟩ := hX2
            have e1 := (k2 (j - 10) (by omega)).1
            rw [show 10 + (j - 10) = j by omega] at e1
            have hstk : st.map (ab_v N E) = (as0.map (ab_v N E)).reverse ++ .ref (adK (j - 10)) :: (st.drop (in_ (ab_mi k'))).map (ab_v N E) := by
              conv => lhs; rw [hst]
              rw [List.map_append, List.map_reverse, List.map_cons, ← e1]
              rfl
            have hM' : Met l (iy (ab_mi k')) (ab_wl (ab_mi k')) (ab_rm (ab_mi k') w w1) (va_Pc (.ref (adK (j - 10)) :: as0.map (ab_v N E)) (ab_U X N E cI cH cS D w)) (ab_Qc N E cI cH cS D v w1) (w1.length - w.length) (ab_z w1 - ab_z w) (ab_A N) := by
              rw [← e1]
              exact hM
            have hbl : FrameBlind (va_Pc (.ref (adK (j - 10)) :: as0.map (ab_v N E)) (ab_U X N E cI cH cS D w)) := fun a U g mk h => ⟨h.1, ab_U_blind (s := U) (U := U.calling g mk a) rfl rfl h.2⟩
            refine ⟨rfl, fun H locs lsR hP hz hS hL => ?_⟩
            have hrec : ∃ cell : Cell, H[adK (j - 10)]? = some cell ∧ cell.vm.isStatics = false ∧ s.vm.findClass (iy (ab_mi k')).cls = some cell.cls := by
              have := vk_recv k1 (i := j - 10) (by omega) hS
              rw [q5, ← d2]
              exact this
            cases nest with
            | false =>
              exact ab_after (va_runV (C := (iy (ab_mi k')).cls) ⟨hx, hb, hml, hown, hts⟩ hM' ⟨callB_of _ hts hG rfl rfl rfl hini (hts _ (ab_gwM hm1.2 rfl)) ⟨q6.1, q6.2, hn⟩ hfit, hts _ (ab_gwM q2 rfl), hts _ (ab_gwM q4 rfl)⟩ ⟨hbl, hrec, fun U hU hW => ⟨rfl, hUat hP hz hS U hU hW⟩⟩ rfl (List.length_map ..) hL.2.1 hstk (lv_room hrest) hdg hcap) hS fun H1 locs1 z1 z2 z3 => hfin (k H1 locs1 lsR z1 z2 z3 hL)
            | true =>
              exact ab_after (va_runVN (C := (iy (ab_mi k')).cls) ⟨hx, hb, hml, hown, hts⟩ hM' ⟨va_cnB _ hts hG rfl rfl rfl (hN _ (List.mem_of_getElem? hm1.2) rfl) hini ⟨q6.1, q6.2, hn⟩ hfit, hts _ (ab_gwM q2 rfl), hts _ (ab_gwM q4 rfl)⟩ ⟨hbl, hrec, fun U hU hW => ⟨rfl, hUat hP hz hS U hU hW⟩⟩ rfl (List.length_map ..) hL.2.1 hstk (lv_room hrest) hdg hcap) hS fun H1 locs1 z1 z2 z3 => hfin (k H1 locs1 lsR z1 z2 z3 hL)
          next => cases h
        next => cases h
      · -- special
        rename_i hop0 hop1
        split at h
        next r as0 has =>
          split at h
          next hcc =>
            cases h
            simp only [Bool.and_eq_true, Bool.not_eq_true', beq_iff_eq] at hcc
            obtain ⟨d3, d4⟩ := hcc
            rw [d3] at q2 q7
            have hret : ir (ab_mi k') = none := q9.resolve_left (fun z => z d4)
            have hst := ab_rev has
            have hlen0 : as0.length + 1 = in_ (ab_mi k') := by
              have h1 := congrArg List.length has
              simp at h1
              omega
            have hn : (parseMethodDescriptor (iy (ab_mi k')).desc).map (fun d => d.parameters.length) = some as0.length := by
              cases hp : parseMethodDescriptor (iy (ab_mi k')).desc with
              | none => rw [hp] at q7; cases q7
              | some d =>
                rw [hp] at q7
                have : d.parameters.length + 1 = in_ (ab_mi k') := Option.some.inj q7
                show some d.parameters.length = some as0.length
                congr 1
                omega
            have hstk : st.map (ab_v N E) = (as0.map (ab_v N E)).reverse ++ .ref (N + r) :: (st.drop (in_ (ab_mi k'))).map (ab_v N E) := by
              conv => lhs; rw [hst]
              rw [List.map_append, List.map_reverse, List.map_cons]
              rfl
            have hdg' : decode (ib mi) pc = .ok (.invokespecial ix, 3) := hd2 hop0 hop1
            have hwl : ab_wl (ab_mi k') = .code (iy (ab_mi k')) (ib (ab_mi k')) (iL (ab_mi k')) none :: ab_gw := by
              unfold ab_wl
              rw [hret]
            refine ⟨rfl, fun H locs lsR hP hz hS hL => ?_⟩
            cases nest with
            | false =>
              exact ab_after (va_runI ⟨hx, hb, hml, hown, hts⟩ hM ⟨callB_of _ hts hG hwl rfl rfl hini (hts _ (ab_gwM hm1.2 rfl)) ⟨q6.1, q6.2, hn⟩ hfit, d4, hts _ (ab_gwM q2 rfl)⟩ ⟨ab_blind _, fun U hU hW => ⟨rfl, hUat hP hz hS U hU hW⟩⟩ rfl (List.length_map ..) hL.2.1 hstk (lv_room hrest) hdg' hcap) hS fun H1 locs1 z1 z2 z3 => hfin (k H1 locs1 lsR z1 z2 z3 hL)
            | true =>
              exact ab_after (va_runIN ⟨hx, hb, hml, hown, hts⟩ hM ⟨va_cnB _ hts hG hwl rfl rfl (hN _ (List.mem_of_getElem? hm1.2) rfl) hini ⟨q6.1, q6.2, hn⟩ hfit, d4, hts _ (ab_gwM q2 rfl)⟩ ⟨ab_blind _, fun U hU hW => ⟨rfl, hUat hP hz hS U hU hW⟩⟩ rfl (List.length_map ..) hL.2.1 hstk (lv_room hrest) hdg' hcap) hS fun H1 locs1 z1 z2 z3 => hfin (k H1 locs1 lsR z1 z2 z3 hL)
          next => cases h
        next => cases h
    next => cases h
  next => cases h
end FOUR
end
section
section FIVE
variable {X : List Int32} {N : Nat} {E : Nat → Value} {cI cH cS : ClassId} {D : va_G}
theorem ab_nx_no {pc : Nat} {ls : List (Option Value)} {st : List Value} {w : ab_W} {q} : ¬ ab_nx pc ls st w = some (.inr q) := by
  intro h
  unfold ab_nx at h
  cases h
theorem ab_go_no {pc : Nat} {off : Int} {ls : List (Option Value)} {st : List Value} {w : ab_W} {q} : ¬ ab_go pc off ls st w = some (.inr q) := by
  intro h
  unfold ab_go at h
  split at h
  · exact ab_nx_no h
  · cases h
theorem ab_if_no {b : Bool} {pc : Nat} {off : Int} {ls : List (Option Value)} {st : List Value} {w : ab_W} {q} : ¬ ab_if b pc off ls st w = some (.inr q) := by
  intro h
  unfold ab_if at h
  split at h
  · split at h
    · exact ab_nx_no h
    · exact ab_nx_no h
  · cases h
set_option maxHeartbeats 4000000 in
theorem ab_grow {mi : ab_I} {i : Instr} {pc pc' : Nat} {ls ls' : List (Option Value)} {st st' : List Value} {w w' : ab_W} (h : ab_ex X mi i pc ls st w = some (.inl (pc', ls', st', w'))) : w.length ≤ w'.length ∧ ab_z w ≤ ab_z w' := by
  have L0 : ∀ {pc1 : Nat} {ls1 : List (Option Value)} {st1 : List Value}, ab_nx pc1 ls1 st1 w = some (.inl (pc', ls', st', w')) → w.length ≤ w'.length ∧ ab_z w ≤ ab_z w' := fun h => by
    obtain ⟨-, -, -, rfl⟩ := ab_nxe h
    exact ⟨Nat.le_refl _, Nat.le_refl _⟩
  have L1 : ∀ {pc1 : Nat} {off : Int} {ls1 : List (Option Value)} {st1 : List Value}, ab_go pc1 off ls1 st1 w = some (.inl (pc', ls', st', w')) → w.length ≤ w'.length ∧ ab_z w ≤ ab_z w' := fun h => by
    obtain ⟨-, -, -, rfl⟩ := ab_goe h
    exact ⟨Nat.le_refl _, Nat.le_refl _⟩
  have L2 : ∀ {b : Bool} {pc1 : Nat} {off : Int} {ls1 : List (Option Value)} {st1 : List Value}, ab_if b pc1 off ls1 st1 w = some (.inl (pc', ls', st', w')) → w.length ≤ w'.length ∧ ab_z w ≤ ab_z w' := fun h => by
    obtain ⟨-, -, rfl, -⟩ := ab_ife h
    exact ⟨Nat.le_refl _, Nat.le_refl _⟩
  have L3 : ∀ {pc1 : Nat} {ls1 : List (Option Value)} {st1 : List Value} {r : Nat} {x y : ab_E}, w[r]? = some x → ab_sl y = ab_sl x → ab_nx pc1 ls1 st1 (w.set r y) = some (.inl (pc', ls', st', w')) → w.length ≤ w'.length ∧ ab_z w ≤ ab_z w' := fun hw hs h => by
    obtain ⟨-, -, -, rfl⟩ := ab_nxe h
    exact ⟨Nat.le_of_eq List.length_set.symm, Nat.le_of_eq (ab_z_set hw hs).symm⟩
  have L4 : ∀ {pc1 : Nat} {ls1 : List (Option Value)} {st1 : List Value} {y : ab_E}, ab_nx pc1 ls1 st1 (w ++ [y]) = some (.inl (pc', ls', st', w')) → w.length ≤ w'.length ∧ ab_z w ≤ ab_z w' := fun h => by
    obtain ⟨-, -, -, rfl⟩ := ab_nxe h
    exact ⟨by simp, by unfold ab_z; rw [List.map_append, List.sum_append]; omega⟩
  cases i with
  | putfield ix =>
    simp only [ab_ex, ab_putf] at h
    repeat' split at h
    all_goals first | (cases h; done) | exact L3 (by assumption) (by simp [ab_sl]) h
  | iastore =>
    simp only [ab_ex, ab_iast] at h
    repeat' split at h
    all_goals first | (cases h; done) | exact L3 (by assumption) (by simp [ab_sl]) h
  | aastore =>
    simp only [ab_ex, ab_aast] at h
    repeat' split at h
    all_goals first | (cases h; done) | exact L3 (by assumption) (by simp [ab_sl]) h
  | invokestatic ix =>
    simp only [ab_ex, ab_cpy] at h
    repeat' split at h
    all_goals first | (cases h; done) | exact L0 h | exact L3 (by assumption) (by simp [ab_sl]) h | exact absurd h (ab_inv_no _ _ _ _ _ _ _ _)
  | invokevirtual ix =>
    simp only [ab_ex] at h
    exact absurd h (ab_inv_no _ _ _ _ _ _ _ _)
  | invokespecial ix =>
    simp only [ab_ex] at h
    repeat' split at h
    all_goals first | (cases h; done) | exact L0 h | exact absurd h (ab_inv_no _ _ _ _ _ _ _ _)
  | newarray ty =>
    cases ty with
    | int =>
      simp only [ab_ex] at h
      repeat' split at h
      all_goals first | (cases h; done) | exact L4 h
    | _ => cases h
  | new ix =>
    simp only [ab_ex] at h
    repeat' split at h
    all_goals first | (cases h; done) | exact L4 h
  | anewarray ix =>
    simp only [ab_ex] at h
    repeat' split at h
    all_goals first | (cases h; done) | exact L4 h
  | getfield ix =>
    simp only [ab_ex, ab_getf] at h
    repeat' split at h
    all_goals first | (cases h; done) | exact L0 h
  | arraylength =>
    simp only [ab_ex, ab_alen] at h
    repeat' split at h
    all_goals first | (cases h; done) | exact L0 h
  | iaload =>
    simp only [ab_ex, ab_iald] at h
    repeat' split at h
    all_goals first | (cases h; done) | exact L0 h
  | baload =>
    simp only [ab_ex, ab_bald] at h
    repeat' split at h
    all_goals first | (cases h; done) | exact L0 h
  | aaload =>
    simp only [ab_ex, ab_aald] at h
    repeat' split at h
    all_goals first | (cases h; done) | exact L0 h
  | iload_n k => simp only [ab_ex, ab_ldi] at h; repeat' split at h
                 all_goals first | (cases h; done) | exact L0 h
  | iload k => simp only [ab_ex, ab_ldi] at h; repeat' split at h
               all_goals first | (cases h; done) | exact L0 h
  | lload_n k => simp only [ab_ex, ab_ldl] at h; repeat' split at h
                 all_goals first | (cases h; done) | exact L0 h
  | lload k => simp only [ab_ex, ab_ldl] at h; repeat' split at h
               all_goals first | (cases h; done) | exact L0 h
  | aload_n k => simp only [ab_ex, ab_lda] at h; repeat' split at h
                 all_goals first | (cases h; done) | exact L0 h
  | aload k => simp only [ab_ex, ab_lda] at h; repeat' split at h
               all_goals first | (cases h; done) | exact L0 h
  | istore_n k => simp only [ab_ex, ab_sti] at h; repeat' split at h
                  all_goals first | (cases h; done) | exact L0 h
  | istore k => simp only [ab_ex, ab_sti] at h; repeat' split at h
                all_goals first | (cases h; done) | exact L0 h
  | lstore_n k => simp only [ab_ex, ab_stl] at h; repeat' split at h
                  all_goals first | (cases h; done) | exact L0 h
  | astore_n k => simp only [ab_ex, ab_sta] at h; repeat' split at h
                  all_goals first | (cases h; done) | exact L0 h
  | astore k => simp only [ab_ex, ab_sta] at h; repeat' split at h
                all_goals first | (cases h; done) | exact L0 h
  | iconst v => exact L0 h
  | bipush v => exact L0 h
  | sipush v => exact L0 h
  | lconst v => exact L0 h
  | aconst_null => exact L0 h
  | goto off => exact L1 h
  | ireturn | lreturn | areturn | return_ | ldc _ | ldc_w _ | ldc2_w _ | iinc _ _ | iadd | isub | imul | iand | ior | ixor | ishl | ishr | iushr | idiv | irem | i2b | i2s | i2c | i2l | ladd | lmul | lcmp | dup | dup2 | pop | ifCond _ _ | if_icmp _ _ | ifnull _ | ifnonnull _ | tableswitch _ _ _ _ | getstatic _ =>
    simp only [ab_ex] at h
    repeat' split at h
    all_goals first | (cases h; done) | exact L0 h | exact L1 h | exact L2 h
  | _ => cases h
theorem ab_inv_w {mi : ab_I} {op ix k' pc pc' : Nat} {as : List Value} {ls ls' : List (Option Value)} {st st' : List Value} {w w' : ab_W} (h : ab_inv mi op pc ix ls st w = some (.inr (.inr (k', as, (pc', ls', st', w'))))) : w' = w ∧ (lg_sl as).length ≤ iL (ab_mi k') ∧ ∃ nest pl, ab_lk (ab_me (ic mi)) ix = some (k', nest, pl) := by
  unfold ab_inv at h
  split at h
  next k1 nest pl hl =>
    split at h
    next hc =>
      simp only [Bool.and_eq_true, decide_eq_true_eq] at hc
      have hc := hc.2
      split at h
      · split at h
        · cases h
          exact ⟨rfl, hc, nest, pl, hl⟩
        · cases h
      · split at h
        next r as0 has =>
          split at h
          next ci vv hw =>
            split at h
            · cases h
              rw [has] at hc
              exact ⟨rfl, hc, nest, pl, hl⟩
            · cases h
          · cases h
        next j as0 has =>
          split at h
          · cases h
            rw [has] at hc
            exact ⟨rfl, hc, nest, pl, hl⟩
          · cases h
        next => cases h
      · split at h
        next r as0 has =>
          split at h
          · cases h
            rw [has] at hc
            exact ⟨rfl, hc, nest, pl, hl⟩
          · cases h
        next => cases h
    next => cases h
  next => cases h
set_option maxHeartbeats 4000000 in
theorem ab_ex_call {mi : ab_I} {i : Instr} {pc : Nat} {ls : List (Option Value)} {st : List Value} {w : ab_W} {q : Nat × List Value × ab_C} (h : ab_ex X mi i pc ls st w = some (.inr (.inr q))) : ∃ op ix, ab_inv mi op pc ix ls st w = some (.inr (.inr q)) ∧ ((op = 0 ∧ i = .invokestatic ix) ∨ (op = 1 ∧ i = .invokevirtual ix) ∨ (op = 2 ∧ i = .invokespecial ix)) := by
  cases i with
  | invokestatic ix =>
    simp only [ab_ex, ab_cpy] at h
    repeat' split at h
    all_goals first | (cases h; done) | exact absurd h ab_nx_no | exact ⟨0, ix, h, Or.inl ⟨rfl, rfl⟩⟩
  | invokevirtual ix =>
    simp only [ab_ex] at h
    exact ⟨1, ix, h, Or.inr (Or.inl ⟨rfl, rfl⟩)⟩
  | invokespecial ix =>
    simp only [ab_ex] at h
    repeat' split at h
    all_goals first | (cases h; done) | exact absurd h ab_nx_no | exact ⟨2, ix, h, Or.inr (Or.inr ⟨rfl, rfl⟩)⟩
  | newarray ty =>
    cases ty with
    | int =>
      simp only [ab_ex] at h
      repeat' split at h
      all_goals first | (cases h; done) | exact absurd h ab_nx_no
    | _ => cases h
  | putfield ix => simp only [ab_ex, ab_putf] at h; repeat' split at h
                   all_goals first | (cases h; done) | exact absurd h ab_nx_no
  | getfield ix => simp only [ab_ex, ab_getf] at h; repeat' split at h
                   all_goals first | (cases h; done) | exact absurd h ab_nx_no
  | iastore => simp only [ab_ex, ab_iast] at h; repeat' split at h
               all_goals first | (cases h; done) | exact absurd h ab_nx_no
  | aastore => simp only [ab_ex, ab_aast] at h; repeat' split at h
               all_goals first | (cases h; done) | exact absurd h ab_nx_no
  | arraylength => simp only [ab_ex, ab_alen] at h; repeat' split at h
                   all_goals first | (cases h; done) | exact absurd h ab_nx_no
  | iaload => simp only [ab_ex, ab_iald] at h; repeat' split at h
              all_goals first | (cases h; done) | exact absurd h ab_nx_no
  | baload => simp only [ab_ex, ab_bald] at h; repeat' split at h
              all_goals first | (cases h; done) | exact absurd h ab_nx_no
  | aaload => simp only [ab_ex, ab_aald] at h; repeat' split at h
              all_goals first | (cases h; done) | exact absurd h ab_nx_no
  | iload_n _ | iload _ | lload_n _ | lload _ | aload_n _ | aload _ | istore_n _ | istore _ | lstore_n _ | astore_n _ | astore _ =>
    simp only [ab_ex, ab_ldi, ab_ldl, ab_lda, ab_sti, ab_stl, ab_sta] at h
    repeat' split at h
    all_goals first | (cases h; done) | exact absurd h ab_nx_no
  | iconst v => exact absurd h ab_nx_no
  | bipush v => exact absurd h ab_nx_no
  | sipush v => exact absurd h ab_nx_no
  | lconst v => exact absurd h ab_nx_no
  | aconst_null => exact absurd h ab_nx_no
  | goto off => exact absurd h ab_go_no
  | new _ | anewarray _ | ireturn | lreturn | areturn | return_ | ldc _ | ldc_w _ | ldc2_w _ | iinc _ _ | iadd | isub | imul | iand | ior | ixor | ishl | ishr | iushr | idiv | irem | i2b | i2s | i2c | i2l | ladd | lmul | lcmp | dup | dup2 | pop | ifCond _ _ | if_icmp _ _ | ifnull _ | ifnonnull _ | tableswitch _ _ _ _ | getstatic _ =>
    simp only [ab_ex] at h
    repeat' split at h
    all_goals first | (cases h; done) | exact absurd h ab_nx_no | exact absurd h ab_go_no | exact absurd h ab_if_no
  | _ => cases h
theorem ab_inv_nr {mi : ab_I} {op ix pc : Nat} {ls : List (Option Value)} {st : List Value} {w : ab_W} {q : Option Value × ab_W} : ¬ ab_inv mi op pc ix ls st w = some (.inr (.inl q)) := by
  intro h
  unfold ab_inv at h
  repeat' split at h
  all_goals cases h
set_option maxHeartbeats 4000000 in
theorem ab_ex_ret {mi : ab_I} {i : Instr} {pc : Nat} {ls : List (Option Value)} {st : List Value} {w w' : ab_W} {v : Option Value} (h : ab_ex X mi i pc ls st w = some (.inr (.inl (v, w')))) : w' = w ∧ (i = .ireturn ∨ i = .lreturn ∨ i = .areturn ∨ i = .return_) := by
  cases i with
  | invokestatic ix =>
    simp only [ab_ex, ab_cpy] at h
    repeat' split at h
    all_goals first | (cases h; done) | exact absurd h ab_nx_no | exact absurd h ab_inv_nr
  | invokevirtual ix =>
    simp only [ab_ex] at h
    exact absurd h ab_inv_nr
  | invokespecial ix =>
    simp only [ab_ex] at h
    repeat' split at h
    all_goals first | (cases h; done) | exact absurd h ab_nx_no | exact absurd h ab_inv_nr
  | newarray ty =>
    cases ty with
    | int =>
      simp only [ab_ex] at h
      repeat' split at h
      all_goals first | (cases h; done) | exact absurd h ab_nx_no
    | _ => cases h
  | putfield ix => simp only [ab_ex, ab_putf] at h; repeat' split at h
                   all_goals first | (cases h; done) | exact absurd h ab_nx_no
  | getfield ix => simp only [ab_ex, ab_getf] at h; repeat' split at h
                   all_goals first | (cases h; done) | exact absurd h ab_nx_no
  | iastore => simp only [ab_ex, ab_iast] at h; repeat' split at h
               all_goals first | (cases h; done) | exact absurd h ab_nx_no
  | aastore => simp only [ab_ex, ab_aast] at h; repeat' split at h
               all_goals first | (cases h; done) | exact absurd h ab_nx_no
  | arraylength => simp only [ab_ex, ab_alen] at h; repeat' split at h
                   all_goals first | (cases h; done) | exact absurd h ab_nx_no
  | iaload => simp only [ab_ex, ab_iald] at h; repeat' split at h
              all_goals first | (cases h; done) | exact absurd h ab_nx_no
  | baload => simp only [ab_ex, ab_bald] at h; repeat' split at h
              all_goals first | (cases h; done) | exact absurd h ab_nx_no
  | aaload => simp only [ab_ex, ab_aald] at h; repeat' split at h
              all_goals first | (cases h; done) | exact absurd h ab_nx_no
  | iload_n _ | iload _ | lload_n _ | lload _ | aload_n _ | aload _ | istore_n _ | istore _ | lstore_n _ | astore_n _ | astore _ =>
    simp only [ab_ex, ab_ldi, ab_ldl, ab_lda, ab_sti, ab_stl, ab_sta] at h
    repeat' split at h
    all_goals first | (cases h; done) | exact absurd h ab_nx_no
  | iconst v => exact absurd h ab_nx_no
  | bipush v => exact absurd h ab_nx_no
  | sipush v => exact absurd h ab_nx_no
  | lconst v => exact absurd h ab_nx_no
  | aconst_null => exact absurd h ab_nx_no
  | goto off => exact absurd h ab_go_no
  | ireturn =>
    simp only [ab_ex] at h
    repeat' split at h
    all_goals first | (cases h; done) | (cases h; exact ⟨rfl, Or.inl rfl⟩)
  | lreturn =>
    simp only [ab_ex] at h
    repeat' split at h
    all_goals first | (cases h; done) | (cases h; exact ⟨rfl, Or.inr (Or.inl rfl)⟩)
  | areturn =>
    simp only [ab_ex] at h
    repeat' split at h
    all_goals first | (cases h; done) | (cases h; exact ⟨rfl, Or.inr (Or.inr (Or.inl rfl))⟩)
  | return_ =>
    simp only [ab_ex] at h
    repeat' split at h
    all_goals first | (cases h; done) | (cases h; exact ⟨rfl, Or.inr (Or.inr (Or.inr rfl))⟩)
  | new _ | anewarray _ | ldc _ | ldc_w _ | ldc2_w _ | iinc _ _ | iadd | isub | imul | iand | ior | ixor | ishl | ishr | iushr | idiv | irem | i2b | i2s | i2c | i2l | ladd | lmul | lcmp | dup | dup2 | pop | ifCond _ _ | if_icmp _ _ | ifnull _ | ifnonnull _ | tableswitch _ _ _ _ | getstatic _ =>
    simp only [ab_ex] at h
    repeat' split at h
    all_goals first | (cases h; done) | exact absurd h ab_nx_no | exact absurd h ab_go_no | exact absurd h ab_if_no
  | _ => cases h
theorem ab_rfit_ok {r : Option FieldType} {x : Int32} (h : ab_rfit r x = true) : ∃ ty, r = some ty ∧ narrow ty (.int x) = .int x := by
  cases r with
  | none => cases h
  | some ty =>
    refine ⟨ty, rfl, ?_⟩
    cases ty with
    | boolean =>
      have h' : (x == 0 || x == 1) = true := h
      simp only [Bool.or_eq_true, beq_iff_eq] at h'
      rcases h' with rfl | rfl <;> rfl
    | byte =>
      have h' : (x == x.toInt8.toInt32) = true := h
      exact congrArg Value.int (eq_of_beq h').symm
    | char =>
      have h' : (x == x.toUInt32.toUInt16.toUInt32.toInt32) = true := h
      exact congrArg Value.int (eq_of_beq h').symm
    | int => rfl
    | _ => cases h
theorem ab_met {l : Launch} (hE : ∀ j, E j = .null ∨ ∃ a, E j = .ref a) (hc2 : ∀ k, k < 246 → ab_ck2 (ab_mi k) = true) {k : Nat} (hk : k < 246) {as : List Value} {w w1 : ab_W} {v : Option Value} (hfit : (lg_sl as).length ≤ iL (ab_mi k))
    (ih : ∀ {p : Program} {e : Env} {R : Room} {s : State} {m : MethodId} {args : Array Value} {below : List Frame} {meth : Method} {c : Code} {Q : State → Prop} {w0 : ab_W}, ab_B p s m args meth c (ab_mi k) X N E cI cH cS D w0 → (w0.length ≤ w.length ∧ ab_z w0 ≤ ab_z w) → (w1.length - w0.length ≤ R.cells ∧ ab_z w1 - ab_z w0 ≤ R.slots) → (ih_ (ab_mi k) ≤ R.frames ∧ 32 * ih_ (ab_mi k) ≤ R.locals) →
      (∀ (i : Instr) (n' pc1 : Nat) (ls1 : List (Option Value)) (st1 : List Value), decode (ib (ab_mi k)) pc1 = .ok (i, n') → (ab_sz i = 0 ∨ n' = ab_sz i) → ab_ex X (ab_mi k) i pc1 ls1 st1 w1 = some (.inr (.inl (v, w1))) → ab_J p l e R s m args below meth c Q (ab_mi k) N E cI cH cS D w0 pc1 ls1 st1 w1) → ab_J p l e R s m args below meth c Q (ab_mi k) N E cI cH cS D w0 0 (ab_ent (iL (ab_mi k)) as) [] w) : ab_MM l X N E cI cH cS D (ab_mi k) as w v w1 := by
  have hck := hc2 k hk
  simp only [ab_ck2, Bool.and_eq_true, decide_eq_true_eq, Bool.or_eq_true, beq_iff_eq, Bool.not_eq_true', beq_eq_false_iff_ne] at hck
  obtain ⟨⟨⟨⟨⟨⟨⟨⟨⟨⟨⟨q1, q2⟩, q3⟩, q4⟩, q5⟩, q6⟩, q7⟩, q8⟩, q9⟩, q10⟩, q11⟩, q12⟩ := hck
  refine Met.ofW (cc := ib (ab_mi k)) (maxL := iL (ab_mi k)) (ret := ir (ab_mi k)) q8 rfl ?_
  intro p e s m args below meth c s₁ B hml hv
  obtain ⟨rfl, hU⟩ := hv
  rw [lg_entry_eq]
  have hts0 := atoms_spec (ws := ab_wl (ab_mi k)) B.pre
  have hts : ∀ x ∈ ab_gw, x.before (as.map (ab_v N E)).toArray s = true := fun x hx => hts0 x (List.mem_cons_of_mem _ hx)
  have hx := B.exec
  have hb := B.bytes
  have hr := B.returns
  have hlocks := B.notSynchronized
  have hB : ab_B p s m (as.map (ab_v N E)).toArray meth c (ab_mi k) X N E cI cH cS D w := ⟨hx, hb, hml, by rw [← q5]; exact findClass_of_methodNamed B.named, hts, hU, (name_of_methodNamed B.named B.method).1, Nat.le_of_ble_eq_true q12, hE, Nat.le_of_ble_eq_true q10⟩
  have hfit' : (lg_sl (as.map (ab_v N E))).length ≤ iL (ab_mi k) := by
    rw [← ab_fm_len hE]
    have : (ab_fm as).length = (lg_sl as).length := by
      have h1 := ab_fm_len (N := N) hE as
      rw [h1]
      unfold lg_sl
      rw [List.flatMap_map]
      clear h1 hU hB hts hts0 B hfit ih
      induction as with
      | nil => rfl
      | cons a as ih =>
        rw [List.flatMap_cons, List.flatMap_cons, List.length_append, List.length_append, ih, ab_v_cat hE]
        split <;> rfl
    rw [this]
    exact hfit
  have key := ih (R := (headSpec (ab_wl (ab_mi k)) (ab_rm (ab_mi k) w w1)).room) (Q := MQ below (ab_Qc N E cI cH cS D v w1) (as.map (ab_v N E)).toArray s (w1.length - w.length) (ab_z w1 - ab_z w) (ab_A N)) (below := below) (e := e) hB ⟨Nat.le_refl _, Nat.le_refl _⟩ ⟨Nat.le_refl _, Nat.le_refl _⟩ ⟨Nat.le_refl _, Nat.le_refl _⟩ (fun i n' pc1 ls1 st1 hdec hn hex => by
    intro H locs lsR hP hz hS hL
    have hq : ∀ t : State, t.heap = H → s.WarmedH t.vm → ab_Qc N E cI cH cS D v w1 (as.map (ab_v N E)).toArray s (.returned (v.map (ab_v N E))) t := fun t ht _ => ⟨rfl, by rw [ht]; exact hP, by rw [ht]; exact hz, hS.F ht⟩
    cases i with
    | ireturn =>
      have hdg := hdec
      rw [hn.resolve_left (fun z => Nat.succ_ne_zero _ z)] at hdg
      simp only [ab_ex] at hex
      split at hex
      next x =>
        split at hex
        next hc =>
          cases hex
          obtain ⟨ty, h1, h2⟩ := ab_rfit_ok hc
          exact W.zret hx hb (hr.trans h1) h2 hq hS.2.2 hdg hlocks
        next => cases hex
      next => cases hex
    | lreturn =>
      have hdg := hdec
      rw [hn.resolve_left (fun z => Nat.succ_ne_zero _ z)] at hdg
      simp only [ab_ex] at hex
      split at hex
      next x =>
        split at hex
        next hc =>
          cases hex
          exact W.lret hx hb (hr.trans (of_decide_eq_true hc)) hq hS.2.2 hdg hlocks
        next => cases hex
      next => cases hex
    | return_ =>
      have hdg := hdec
      rw [hn.resolve_left (fun z => Nat.succ_ne_zero _ z)] at hdg
      simp only [ab_ex] at hex
      split at hex
      next =>
        split at hex
        next hc =>
          cases hex
          exact W.vret hx hb (hr.trans hc) hq hS.2.2 hdg hlocks
        next => cases hex
      next => cases hex
    | areturn =>
      have hdg := hdec
      rw [hn.resolve_left (fun z => Nat.succ_ne_zero _ z)] at hdg
      simp only [ab_ex] at hex
      split at hex
      next x =>
        split at hex
        next nm hc =>
          cases hex
          exact W.aret hx hb (hr.trans hc) (Or.inl ⟨_, rfl⟩) (Or.inr ⟨_, rfl⟩) hq hS.2.2 hdg hlocks
        next => cases hex
      next x =>
        split at hex
        next nm hc =>
          cases hex
          exact W.aret (v := E x) hx hb (hr.trans hc) (Or.inl ⟨_, rfl⟩) (hE x) hq hS.2.2 hdg hlocks
        next => cases hex
      next =>
        split at hex
        next nm hc =>
          cases hex
          exact W.aret hx hb (hr.trans hc) (Or.inl ⟨_, rfl⟩) (Or.inl rfl) hq hS.2.2 hdg hlocks
        next => cases hex
      next => cases hex
    | _ => exact absurd (ab_ex_ret hex).2 (by simp)) s.heap [] _ hU.1 hU.2.1 va_S.rf (ab_entry hE hfit')
  rw [Nat.sub_self, Nat.sub_self] at key
  exact key
theorem ab_main {l : Launch} (hE : ∀ j, E j = .null ∨ ∃ a, E j = .ref a) (hc1 : ∀ k, k < 247 → ab_ck1 (ab_mi k) = true) (hc2 : ∀ k, k < 246 → ab_ck2 (ab_mi k) = true) : ∀ (n k : Nat), k < 247 → ∀ (pc : Nat) (ls : List (Option Value)) (st : List Value) (w : ab_W) (v : Option Value) (w' : ab_W), ab_run X n k pc ls st w = some (v, w') → (w.length ≤ w'.length ∧ ab_z w ≤ ab_z w') ∧
    ∀ {p : Program} {e : Env} {R : Room} {s : State} {m : MethodId} {args : Array Value} {below : List Frame} {meth : Method} {c : Code} {Q : State → Prop} {w0 : ab_W}, ab_B p s m args meth c (ab_mi k) X N E cI cH cS D w0 → (w0.length ≤ w.length ∧ ab_z w0 ≤ ab_z w) → (w'.length - w0.length ≤ R.cells ∧ ab_z w' - ab_z w0 ≤ R.slots) → (ih_ (ab_mi k) ≤ R.frames ∧ 32 * ih_ (ab_mi k) ≤ R.locals) →
      (∀ (i : Instr) (n' pc1 : Nat) (ls1 : List (Option Value)) (st1 : List Value), decode (ib (ab_mi k)) pc1 = .ok (i, n') → (ab_sz i = 0 ∨ n' = ab_sz i) → ab_ex X (ab_mi k) i pc1 ls1 st1 w' = some (.inr (.inl (v, w'))) → ab_J p l e R s m args below meth c Q (ab_mi k) N E cI cH cS D w0 pc1 ls1 st1 w') → ab_J p l e R s m args below meth c Q (ab_mi k) N E cI cH cS D w0 pc ls st w := by
  intro n
  induction n with
  | zero => intro k hk pc ls st w v w' h; cases h
  | succ n ih =>
    intro k hk pc ls st w v w' h
    unfold ab_run at h
    cases hs : ab_stp X (ab_mi k) pc ls st w with
    | none => rw [hs] at h; cases h
    | some q =>
      rw [hs] at h
      unfold ab_stp at hs
      split at hs
      next i n' hlk =>
        have hck := List.all_eq_true.mp (hc1 k hk) _ (ab_lk_mem _ _ _ hlk)
        simp only [Bool.and_eq_true, decide_eq_true_eq, Bool.or_eq_true, beq_iff_eq] at hck
        obtain ⟨hdec, hn⟩ := hck
        match q, hs, h with
        | .inl (pc', ls', st', w1), hs, h =>
          have g1 := ab_grow hs
          obtain ⟨g2, K⟩ := ih k hk pc' ls' st' w1 v w' h
          refine ⟨⟨Nat.le_trans g1.1 g2.1, Nat.le_trans g1.2 g2.2⟩, ?_⟩
          intro p e R s m args below meth c Q w0 B hg hRb hR kret
          have hh1 : 1 ≤ ih_ (ab_mi k) := B.2.2.2.2.2.2.2.2.2
          exact (ab_one B ⟨by omega, by omega⟩ hdec hn hs hg ⟨by omega, by omega⟩ (K B ⟨by omega, by omega⟩ hRb hR kret)).2
        | .inr (.inl (v1, w1)), hs, h =>
          cases h
          have hw : w' = w := (ab_ex_ret hs).1
          subst hw
          refine ⟨⟨Nat.le_refl _, Nat.le_refl _⟩, ?_⟩
          intro p e R s m args below meth c Q w0 B hg hRb hR kret
          exact kret i n' pc ls st hdec hn hs
        | .inr (.inr (k', as, (pc', ls', st', w2))), hs, h =>
          obtain ⟨op, ix, hinv, hop⟩ := ab_ex_call hs
          obtain ⟨rfl, hfit, nest, pl, hl⟩ := ab_inv_w hinv
          have hic : ic (ab_mi k) < 13 ∨ ¬ ic (ab_mi k) < 13 := Classical.em _
          have hk' : k' < 246 := by
            rcases hic with hic | hic
            · have hm1 := List.all_eq_true.mp (List.all_eq_true.mp ab_c3M (ic (ab_mi k)) (List.mem_range.mpr hic)) _ (ab_lk_mem _ _ _ hl)
              simp only [ab_ckM, Bool.and_eq_true] at hm1
              exact Nat.le_of_ble_eq_true hm1.1
            · have : ab_me (ic (ab_mi k)) = [] := by
                unfold ab_me
                rw [List.getD_eq_getElem?_getD, List.getElem?_eq_none (by show 13 ≤ _; omega)]
                rfl
              rw [this] at hl
              cases hl
          dsimp only at h
          cases hr : ab_run X n k' 0 (ab_ent (iL (ab_mi k')) as) [] w2 with
          | none => rw [hr] at h; cases h
          | some r =>
            rw [hr] at h
            obtain ⟨v1, w3⟩ := r
            obtain ⟨g1, K1⟩ := ih k' (by omega) 0 _ [] w2 v1 w3 hr
            obtain ⟨g2, K2⟩ := ih k hk pc' ls' _ w3 v w' h
            refine ⟨⟨Nat.le_trans g1.1 g2.1, Nat.le_trans g1.2 g2.2⟩, ?_⟩
            intro p e R s m args below meth c Q w0 B hg hRb hR kret
            have hM : ab_MM l X N E cI cH cS D (ab_mi k') as w2 v1 w3 := ab_met hE hc2 hk' hfit K1
            refine (ab_callw B hc2 hR hinv (fun e => ?_) (fun e => ?_) (fun e1 e2 => ?_) g1 hg ⟨by omega, by omega⟩ hM (K2 B ⟨by omega, by omega⟩ hRb hR kret)).2
            · rcases hop with ⟨h1, rfl⟩ | ⟨h1, rfl⟩ | ⟨h1, rfl⟩
              · rw [hdec, hn.resolve_left (fun z => Nat.succ_ne_zero _ z)]
                rfl
              · omega
              · omega
            · rcases hop with ⟨h1, rfl⟩ | ⟨h1, rfl⟩ | ⟨h1, rfl⟩
              · omega
              · rw [hdec, hn.resolve_left (fun z => Nat.succ_ne_zero _ z)]
                rfl
              · omega
            · rcases hop with ⟨h1, rfl⟩ | ⟨h1, rfl⟩ | ⟨h1, rfl⟩
              · omega
              · omega
              · rw [hdec, hn.resolve_left (fun z => Nat.succ_ne_zero _ z)]
                rfl
      next => cases hs
end FIVE
end
section
/-! ROWS of the abstract machine that ask for something -/
section RW
variable {X : List Int32} {k pc n : Nat} {ls : List (Option Value)} {st : List Value} {w w2 : ab_W} {v : Option Value}
theorem ab_stp_of {i : Instr} (h : ab_lk (it_ (ab_mi k)) pc = some (i, n)) : ab_stp X (ab_mi k) pc ls st w = ab_ex X (ab_mi k) i pc ls st w := by
  unfold ab_stp
  rw [h]
/-- getfield -/
theorem ab_gf {ix ci fi pl r : Nat} {nest : Bool} {vs : List Value} {u : Value} (h : ab_lk (it_ (ab_mi k)) pc = some (.getfield ix, n)) (hl : ab_lk (ab_fl (ic (ab_mi k))) ix = some (ci, fi, nest, pl)) (hc : (Nat.beq ci ci && Nat.blt ci 7) = true) (hw : w[r]? = some (.inl (ci, vs))) (hv : vs[fi]? = some u)
    (t : ab_G X k (pc + 3) ls (u :: st) w v w2) : ab_G X k pc ls (.ref r :: st) w v w2 := by
  refine ab_s ?_ t
  rw [ab_stp_of h]
  show ab_getf _ pc ix ls (.ref r :: st) w = _
  unfold ab_getf
  simp only [hl, hw, hc, hv]
  rfl
/-- putfield, not final -/
theorem ab_pf {ix ci fi pl r : Nat} {nest : Bool} {vs : List Value} {u : Value} (h : ab_lk (it_ (ab_mi k)) pc = some (.putfield ix, n)) (hl : ab_lk (ab_fl (ic (ab_mi k))) ix = some (ci, fi, nest, pl)) (hw : w[r]? = some (.inl (ci, vs))) (hc : (Nat.beq ci ci && Nat.blt ci 7 && Nat.blt fi vs.length && ab_fit (ab_cty ci fi) u && (!(ab_T ci fi).2.2.2 || ((iy (ab_mi k)).name == "<init>" && !nest && Nat.beq (ic (ab_mi k)) ci))) = true)
    (t : ab_G X k (pc + 3) ls st (w.set r (.inl (ci, vs.set fi u))) v w2) : ab_G X k pc ls (u :: .ref r :: st) w v w2 := by
  refine ab_s ?_ t
  rw [ab_stp_of h]
  show ab_putf _ pc ix ls (u :: .ref r :: st) w = _
  unfold ab_putf
  simp only [hl, hw, hc]
  rfl
theorem ab_in_nI {j m : Nat} (h : j < m) (hm : m < 2 ^ 31) : ab_in (nI j) m = true := by
  unfold ab_in
  rw [nI_clamp (by omega)]
  simp only [Bool.and_eq_true, Bool.not_eq_true', decide_eq_false_iff_not, decide_eq_true_eq]
  exact ⟨nI_pos (by omega), h⟩
/-- iaload of an array inside -/
theorem ab_ia {r : Nat} {xs : List Int32} {i : Int32} (j : Nat) (h : ab_lk (it_ (ab_mi k)) pc = some (.iaload, n)) (hw : w[r]? = some (.inr xs)) (hm : xs.length < 2 ^ 31) (hi : i = nI j) (hj : j < xs.length)
    (t : ab_G X k (pc + 1) ls (.int (xs.getD j 0) :: st) w v w2) : ab_G X k pc ls (.int i :: .ref r :: st) w v w2 := by
  refine ab_s ?_ t
  rw [ab_stp_of h]
  show ab_iald X pc ls (.int i :: .ref r :: st) w = _
  unfold ab_iald
  subst hi
  simp only [hw, ab_in_nI hj hm, nI_clamp (show j < 2 ^ 31 by omega)]
  rfl
/-- iaload of an array outside -/
theorem ab_ix {q : Nat} {xs : List Int32} {i : Int32} (j : Nat) (h : ab_lk (it_ (ab_mi k)) pc = some (.iaload, n)) (hw : ab_xi X q = some xs) (hm : xs.length < 2 ^ 31) (hi : i = nI j) (hj : j < xs.length)
    (t : ab_G X k (pc + 1) ls (.int (xs.getD j 0) :: st) w v w2) : ab_G X k pc ls (.int i :: .retAddr q :: st) w v w2 := by
  refine ab_s ?_ t
  rw [ab_stp_of h]
  show ab_iald X pc ls (.int i :: .retAddr q :: st) w = _
  unfold ab_iald
  subst hi
  simp only [hw, ab_in_nI hj hm, nI_clamp (show j < 2 ^ 31 by omega)]
  rfl
/-- iastore -/
theorem ab_is {r : Nat} {xs : List Int32} {i x : Int32} (j : Nat) (h : ab_lk (it_ (ab_mi k)) pc = some (.iastore, n)) (hw : w[r]? = some (.inr xs)) (hm : xs.length < 2 ^ 31) (hi : i = nI j) (hj : j < xs.length)
    (t : ab_G X k (pc + 1) ls st (w.set r (.inr (xs.set j x))) v w2) : ab_G X k pc ls (.int x :: .int i :: .ref r :: st) w v w2 := by
  refine ab_s ?_ t
  rw [ab_stp_of h]
  show ab_iast pc ls (.int x :: .int i :: .ref r :: st) w = _
  unfold ab_iast
  subst hi
  simp only [hw, ab_in_nI hj hm, nI_clamp (show j < 2 ^ 31 by omega)]
  rfl
/-- arraylength -/
theorem ab_al {r : Nat} {xs : List Int32} {x : Int32} (h : ab_lk (it_ (ab_mi k)) pc = some (.arraylength, n)) (hw : w[r]? = some (.inr xs)) (hx : nI xs.length = x)
    (t : ab_G X k (pc + 1) ls (.int x :: st) w v w2) : ab_G X k pc ls (.ref r :: st) w v w2 := by
  refine ab_s ?_ t
  rw [ab_stp_of h]
  show ab_alen X pc ls (.ref r :: st) w = _
  unfold ab_alen
  simp only [hw]
  rw [← hx]
  rfl
theorem ab_alq {r q : Nat} {xs : List Value} {x : Int32} (h : ab_lk (it_ (ab_mi k)) pc = some (.arraylength, n)) (hw : w[r]? = some (.inl (q, xs))) (hq : (Nat.beq q 7 || Nat.beq q 8) = true) (hx : nI xs.length = x)
    (t : ab_G X k (pc + 1) ls (.int x :: st) w v w2) : ab_G X k pc ls (.ref r :: st) w v w2 := by
  refine ab_s ?_ t
  rw [ab_stp_of h]
  show ab_alen X pc ls (.ref r :: st) w = _
  unfold ab_alen
  simp only [hw, hq]
  rw [← hx]
  rfl
/-- aaload -/
theorem ab_aq {r q z : Nat} {xs : List Value} {i : Int32} (j : Nat) (h : ab_lk (it_ (ab_mi k)) pc = some (.aaload, n)) (hw : w[r]? = some (.inl (q, xs))) (hq : (Nat.beq q 7 || Nat.beq q 8) = true) (hm : xs.length < 2 ^ 31) (hi : i = nI j) (hj : xs[j]? = some (.ref z))
    (t : ab_G X k (pc + 1) ls (.ref z :: st) w v w2) : ab_G X k pc ls (.int i :: .ref r :: st) w v w2 := by
  refine ab_s ?_ t
  rw [ab_stp_of h]
  show ab_aald pc ls (.int i :: .ref r :: st) w = _
  unfold ab_aald
  subst hi
  have hl : j < xs.length := (List.getElem?_eq_some_iff.mp hj).1
  simp only [hw, hq, ab_in_nI hl hm, nI_clamp (show j < 2 ^ 31 by omega), hj, Bool.and_self]
  rfl
/-- branches -/
theorem ab_j1 {c : Jvm.ClassFile.Cond} {off : Int} {x : Int32} {t : Nat} (h : ab_lk (it_ (ab_mi k)) pc = some (.ifCond c off, n)) (ht : ab_tg pc off = some t) (kt : ab_cmp c x 0 = true → ab_G X k t ls st w v w2) (kf : ab_cmp c x 0 = false → ab_G X k (pc + 3) ls st w v w2) : ab_G X k pc ls (.int x :: st) w v w2 := by
  have e : ab_stp X (ab_mi k) pc ls (.int x :: st) w = ab_if (ab_cmp c x 0) pc off ls st w := by rw [ab_stp_of h]; rfl
  cases hb : ab_cmp c x 0 with
  | true =>
    refine ab_s ?_ (kt hb)
    rw [e, hb]
    unfold ab_if
    rw [ht]
    rfl
  | false =>
    refine ab_s ?_ (kf hb)
    rw [e, hb]
    unfold ab_if
    rw [ht]
    rfl
theorem ab_j2 {c : Jvm.ClassFile.Cond} {off : Int} {x y : Int32} {t : Nat} (h : ab_lk (it_ (ab_mi k)) pc = some (.if_icmp c off, n)) (ht : ab_tg pc off = some t) (kt : ab_cmp c x y = true → ab_G X k t ls st w v w2) (kf : ab_cmp c x y = false → ab_G X k (pc + 3) ls st w v w2) : ab_G X k pc ls (.int y :: .int x :: st) w v w2 := by
  have e : ab_stp X (ab_mi k) pc ls (.int y :: .int x :: st) w = ab_if (ab_cmp c x y) pc off ls st w := by rw [ab_stp_of h]; rfl
  cases hb : ab_cmp c x y with
  | true =>
    refine ab_s ?_ (kt hb)
    rw [e, hb]
    unfold ab_if
    rw [ht]
    rfl
  | false =>
    refine ab_s ?_ (kf hb)
    rw [e, hb]
    unfold ab_if
    rw [ht]
    rfl
theorem j1_eq {off : Int} {x : Int32} {t : Nat} (h : ab_lk (it_ (ab_mi k)) pc = some (.ifCond .eq off, n)) (ht : ab_tg pc off = some t) (kt : x = 0 → ab_G X k t ls st w v w2) (kf : ¬ x = 0 → ab_G X k (pc + 3) ls st w v w2) : ab_G X k pc ls (.int x :: st) w v w2 :=
  ab_j1 h ht (fun e => kt (of_decide_eq_true e)) (fun e => kf (of_decide_eq_false e))
theorem j1_ne {off : Int} {x : Int32} {t : Nat} (h : ab_lk (it_ (ab_mi k)) pc = some (.ifCond .ne off, n)) (ht : ab_tg pc off = some t) (kt : ¬ x = 0 → ab_G X k t ls st w v w2) (kf : x = 0 → ab_G X k (pc + 3) ls st w v w2) : ab_G X k pc ls (.int x :: st) w v w2 :=
  ab_j1 h ht (fun e => kt (of_decide_eq_false (by simpa [ab_cmp] using e))) (fun e => kf (of_decide_eq_true (by simpa [ab_cmp] using e)))
theorem j1_lt {off : Int} {x : Int32} {t : Nat} (h : ab_lk (it_ (ab_mi k)) pc = some (.ifCond .lt off, n)) (ht : ab_tg pc off = some t) (kt : x < 0 → ab_G X k t ls st w v w2) (kf : ¬ x < 0 → ab_G X k (pc + 3) ls st w v w2) : ab_G X k pc ls (.int x :: st) w v w2 :=
  ab_j1 h ht (fun e => kt (of_decide_eq_true e)) (fun e => kf (of_decide_eq_false e))
theorem j1_ge {off : Int} {x : Int32} {t : Nat} (h : ab_lk (it_ (ab_mi k)) pc = some (.ifCond .ge off, n)) (ht : ab_tg pc off = some t) (kt : 0 ≤ x → ab_G X k t ls st w v w2) (kf : ¬ 0 ≤ x → ab_G X k (pc + 3) ls st w v w2) : ab_G X k pc ls (.int x :: st) w v w2 :=
  ab_j1 h ht (fun e => kt (of_decide_eq_true e)) (fun e => kf (of_decide_eq_false e))
theorem j1_gt {off : Int} {x : Int32} {t : Nat} (h : ab_lk (it_ (ab_mi k)) pc = some (.ifCond .gt off, n)) (ht : ab_tg pc off = some t) (kt : 0 < x → ab_G X k t ls st w v w2) (kf : ¬ 0 < x → ab_G X k (pc + 3) ls st w v w2) : ab_G X k pc ls (.int x :: st) w v w2 :=
  ab_j1 h ht (fun e => kt (of_decide_eq_true e)) (fun e => kf (of_decide_eq_false e))
theorem j1_le {off : Int} {x : Int32} {t : Nat} (h : ab_lk (it_ (ab_mi k)) pc = some (.ifCond .le off, n)) (ht : ab_tg pc off = some t) (kt : x ≤ 0 → ab_G X k t ls st w v w2) (kf : ¬ x ≤ 0 → ab_G X k (pc + 3) ls st w v w2) : ab_G X k pc ls (.int x :: st) w v w2 :=
  ab_j1 h ht (fun e => kt (of_decide_eq_true e)) (fun e => kf (of_decide_eq_false e))
theorem j2_eq {off : Int} {x y : Int32} {t : Nat} (h : ab_lk (it_ (ab_mi k)) pc = some (.if_icmp .eq off, n)) (ht : ab_tg pc off = some t) (kt : x = y → ab_G X k t ls st w v w2) (kf : ¬ x = y → ab_G X k (pc + 3) ls st w v w2) : ab_G X k pc ls (.int y :: .int x :: st) w v w2 :=
  ab_j2 h ht (fun e => kt (of_decide_eq_true e)) (fun e => kf (of_decide_eq_false e))
theorem j2_ne {off : Int} {x y : Int32} {t : Nat} (h : ab_lk (it_ (ab_mi k)) pc = some (.if_icmp .ne off, n)) (ht : ab_tg pc off = some t) (kt : ¬ x = y → ab_G X k t ls st w v w2) (kf : x = y → ab_G X k (pc + 3) ls st w v w2) : ab_G X k pc ls (.int y :: .int x :: st) w v w2 :=
  ab_j2 h ht (fun e => kt (of_decide_eq_false (by simpa [ab_cmp] using e))) (fun e => kf (of_decide_eq_true (by simpa [ab_cmp] using e)))
theorem j2_lt {off : Int} {x y : Int32} {t : Nat} (h : ab_lk (it_ (ab_mi k)) pc = some (.if_icmp .lt off, n)) (ht : ab_tg pc off = some t) (kt : x < y → ab_G X k t ls st w v w2) (kf : ¬ x < y → ab_G X k (pc + 3) ls st w v w2) : ab_G X k pc ls (.int y :: .int x :: st) w v w2 :=
  ab_j2 h ht (fun e => kt (of_decide_eq_true e)) (fun e => kf (of_decide_eq_false e))
theorem j2_ge {off : Int} {x y : Int32} {t : Nat} (h : ab_lk (it_ (ab_mi k)) pc = some (.if_icmp .ge off, n)) (ht : ab_tg pc off = some t) (kt : y ≤ x → ab_G X k t ls st w v w2) (kf : ¬ y ≤ x → ab_G X k (pc + 3) ls st w v w2) : ab_G X k pc ls (.int y :: .int x :: st) w v w2 :=
  ab_j2 h ht (fun e => kt (of_decide_eq_true e)) (fun e => kf (of_decide_eq_false e))
theorem j2_gt {off : Int} {x y : Int32} {t : Nat} (h : ab_lk (it_ (ab_mi k)) pc = some (.if_icmp .gt off, n)) (ht : ab_tg pc off = some t) (kt : y < x → ab_G X k t ls st w v w2) (kf : ¬ y < x → ab_G X k (pc + 3) ls st w v w2) : ab_G X k pc ls (.int y :: .int x :: st) w v w2 :=
  ab_j2 h ht (fun e => kt (of_decide_eq_true e)) (fun e => kf (of_decide_eq_false e))
theorem j2_le {off : Int} {x y : Int32} {t : Nat} (h : ab_lk (it_ (ab_mi k)) pc = some (.if_icmp .le off, n)) (ht : ab_tg pc off = some t) (kt : x ≤ y → ab_G X k t ls st w v w2) (kf : ¬ x ≤ y → ab_G X k (pc + 3) ls st w v w2) : ab_G X k pc ls (.int y :: .int x :: st) w v w2 :=
  ab_j2 h ht (fun e => kt (of_decide_eq_true e)) (fun e => kf (of_decide_eq_false e))
/-- a constant by its number -/
theorem ab_k {x y : Int32} {pc' : Nat} (h : ab_stp X (ab_mi k) pc ls st w = some (.inl (pc', ls, .int x :: st, w))) (e : x = y) (t : ab_G X k pc' ls (.int y :: st) w v w2) : ab_G X k pc ls st w v w2 := ab_s h (e ▸ t)
/-- the top gets another form -/
theorem ab_t {x y : Int32} (e : x = y) (t : ab_G X k pc ls (.int y :: st) w v w2) : ab_G X k pc ls (.int x :: st) w v w2 := e ▸ t
/-- an int comes back -/
theorem ab_ri {x y : Int32} {w' : ab_W} (h : ab_stp X (ab_mi k) pc ls [.int x] w = some (.inr (.inl (some (.int x), w')))) (e : x = y) : ab_G X k pc ls [.int x] w (some (.int y)) w' := by
  subst e
  exact ab_r h
/-- a boolean comes back -/
theorem ab_rb {x y : Int32} (h : ab_lk (it_ (ab_mi k)) pc = some (.ireturn, n)) (hr : ir (ab_mi k) = some .boolean) (hb : x = 0 ∨ x = 1) (e : x = y) : ab_G X k pc ls [.int x] w (some (.int y)) w := by
  subst e
  refine ab_r ?_
  rw [ab_stp_of h]
  rcases hb with rfl | rfl <;> (unfold ab_ex; simp only [hr]; rfl)
end RW
end
section
/-! ===== Int32 by its bits: bt x i ===== -/
def bt (x : Int32) (i : Nat) : Bool := x.toBitVec.getLsbD i
theorem b_ext {x y : Int32} (h : ∀ i, i < 32 → bt x i = bt y i) : x = y := Int32.toBitVec_inj.mp (BitVec.eq_of_getLsbD_eq (fun i hi => h i hi))
theorem b_or (x y : Int32) (i : Nat) : bt (x ||| y) i = (bt x i || bt y i) := by unfold bt; rw [Int32.toBitVec_or, BitVec.getLsbD_or]
theorem b_and (x y : Int32) (i : Nat) : bt (x &&& y) i = (bt x i && bt y i) := by unfold bt; rw [Int32.toBitVec_and, BitVec.getLsbD_and]
theorem b_xor (x y : Int32) (i : Nat) : bt (x ^^^ y) i = (bt x i ^^ bt y i) := by unfold bt; rw [Int32.toBitVec_xor, BitVec.getLsbD_xor]
theorem b_big {x : Int32} {i : Nat} (h : 32 ≤ i) : bt x i = false := BitVec.getLsbD_of_ge _ _ h
theorem b_255 (i : Nat) : bt 255 i = decide (i < 8) := by
  rcases Nat.lt_or_ge i 32 with h | h
  · exact (by decide +kernel : ∀ i, i < 32 → bt 255 i = decide (i < 8)) i h
  · rw [b_big h, decide_eq_false (by omega)]
theorem b_65535 (i : Nat) : bt 65535 i = decide (i < 16) := by
  rcases Nat.lt_or_ge i 32 with h | h
  · exact (by decide +kernel : ∀ i, i < 32 → bt 65535 i = decide (i < 16)) i h
  · rw [b_big h, decide_eq_false (by omega)]
theorem b_m1 : ∀ i, i < 32 → bt (-1) i = true := by decide +kernel
theorem b_0 (i : Nat) : bt 0 i = false := BitVec.getLsbD_zero
theorem s_l : ∀ n, n < 32 → ((nI n &&& 31).toBitVec.smod 32).toNat = n := by decide +kernel
theorem s_u : ∀ n, n < 32 → (((nI n).toUInt32 &&& Int32.toUInt32 31).toBitVec % 32).toNat = n := by decide +kernel
theorem b_shl (n : Nat) (hn : n < 32) (x : Int32) {i : Nat} (hi : i < 32) : bt (x <<< (nI n &&& 31)) i = (decide (n ≤ i) && bt x (i - n)) := by
  unfold bt
  rw [Int32.toBitVec_shiftLeft]
  show (x.toBitVec <<< ((nI n &&& 31).toBitVec.smod 32).toNat).getLsbD i = _
  rw [s_l n hn, BitVec.getLsbD_shiftLeft]
  rcases Nat.lt_or_ge i n with h | h
  · simp [h, Nat.not_le.mpr h]
  · simp [hi, h, Nat.not_lt.mpr h]
theorem b_ushr (n : Nat) (hn : n < 32) (x : Int32) (i : Nat) : bt ((x.toUInt32 >>> ((nI n).toUInt32 &&& Int32.toUInt32 31)).toInt32) i = bt x (n + i) := by
  show (x.toUInt32 >>> ((nI n).toUInt32 &&& Int32.toUInt32 31)).toBitVec.getLsbD i = x.toUInt32.toBitVec.getLsbD (n + i)
  rw [UInt32.toBitVec_shiftRight]
  show (x.toUInt32.toBitVec >>> (((nI n).toUInt32 &&& Int32.toUInt32 31).toBitVec % 32).toNat).getLsbD i = _
  rw [s_u n hn, BitVec.getLsbD_ushiftRight]
theorem b_sshr (n : Nat) (hn : n < 32) (x : Int32) {i : Nat} (hi : i < 32) : bt (x >>> (nI n &&& 31)) i = if n + i < 32 then bt x (n + i) else bt x 31 := by
  unfold bt
  rw [Int32.toBitVec_shiftRight]
  show (x.toBitVec.sshiftRight ((nI n &&& 31).toBitVec.smod 32).toNat).getLsbD i = _
  rw [s_l n hn, BitVec.getLsbD_sshiftRight, BitVec.msb_eq_getLsbD_last]
  simp [hi]
theorem b_shl8 (x : Int32) {i : Nat} (hi : i < 32) : bt (x <<< ((8 : Int32) &&& 31)) i = (decide (8 ≤ i) && bt x (i - 8)) := b_shl 8 (by omega) x hi
theorem b_shl16 (x : Int32) {i : Nat} (hi : i < 32) : bt (x <<< ((16 : Int32) &&& 31)) i = (decide (16 ≤ i) && bt x (i - 16)) := b_shl 16 (by omega) x hi
theorem b_shl24 (x : Int32) {i : Nat} (hi : i < 32) : bt (x <<< ((24 : Int32) &&& 31)) i = (decide (24 ≤ i) && bt x (i - 24)) := b_shl 24 (by omega) x hi
theorem b_sshr8 (x : Int32) {i : Nat} (hi : i < 32) : bt (x >>> ((8 : Int32) &&& 31)) i = if 8 + i < 32 then bt x (8 + i) else bt x 31 := b_sshr 8 (by omega) x hi

/-! ===== numbers ===== -/
def isN (x : Int32) (n : Nat) : Prop := ∃ j, j < n ∧ x = nI j
theorem isN_iff {x : Int32} {n : Nat} (hn : n < 2 ^ 31) : isN x n ↔ 0 ≤ x.toInt ∧ x.toInt < n := by
  constructor
  · rintro ⟨j, h1, rfl⟩
    rw [nI_toInt (by omega)]
    omega
  · rintro ⟨h1, h2⟩
    refine ⟨x.toInt.toNat, by omega, ?_⟩
    apply Int32.toInt_inj.mp
    rw [nI_toInt (by omega)]
    omega
theorem k_n (n : Nat) : (OfNat.ofNat n : Int32) = nI n := rfl
theorem lt_iff (a b : Int32) : a < b ↔ a.toInt < b.toInt := Int32.lt_iff_toInt_lt
theorem le_iff (a b : Int32) : a ≤ b ↔ a.toInt ≤ b.toInt := Int32.le_iff_toInt_le
/-- one bit, as the program asks for it -/
theorem b_one (x : Int32) {j : Nat} (hj : j < 32) : (x >>> (nI j &&& 31)) &&& 1 = if bt x j then 1 else 0 := by
  apply b_ext
  intro i hi
  rw [b_and]
  have h1 : bt 1 i = decide (i = 0) := (by decide +kernel : ∀ i, i < 32 → bt 1 i = decide (i = 0)) i hi
  rw [h1, b_sshr j hj x hi]
  by_cases h0 : i = 0
  · subst h0
    simp only [Nat.add_zero, hj, if_true, decide_true, Bool.and_true]
    cases bt x j <;> rfl
  · simp only [h0, decide_false, Bool.and_false]
    cases bt x j
    · exact (b_0 i).symm
    · simp [h1, h0]
theorem b_sh {j i : Nat} (hj : j < 32) (hi : i < 32) : bt ((1 : Int32) <<< (nI j &&& 31)) i = decide (i = j) := by
  rw [b_shl j hj 1 hi]
  have h1 : bt 1 (i - j) = decide (i - j = 0) := (by decide +kernel : ∀ i, i < 32 → bt 1 i = decide (i = 0)) (i - j) (by omega)
  rw [h1]
  by_cases h : i = j
  · subst h; simp
  · simp only [h, decide_false]
    by_cases h2 : j ≤ i
    · have : ¬ i - j = 0 := by omega
      simp [this]
    · simp [h2]
/-- a set out of what its members are -/
def bs (p : Nat → Bool) : Nat → Int32
  | 0 => 0
  | n + 1 => bs p n ||| (if p n then (1 : Int32) <<< (nI n &&& 31) else 0)
theorem bt_bs (p : Nat → Bool) : ∀ (n i : Nat), n ≤ 32 → i < 32 → bt (bs p n) i = (decide (i < n) && p i)
  | 0, i, _, _ => by rw [bs, b_0]; simp
  | n + 1, i, hn, hi => by
    rw [bs, b_or, bt_bs p n i (by omega) hi]
    have h : bt (if p n then (1 : Int32) <<< (nI n &&& 31) else 0) i = (decide (i = n) && p n) := by
      cases p n
      · simp [b_0]
      · simp [b_sh (show n < 32 by omega) hi]
    rw [h]
    by_cases h1 : i = n
    · subst h1; simp
    · by_cases h2 : i < n
      · simp [h1, h2, show i < n + 1 by omega]
      · simp [h1, h2, show ¬ i < n + 1 by omega]
theorem bs_cong {p q : Nat → Bool} : ∀ {n : Nat}, (∀ i, i < n → p i = q i) → bs p n = bs q n
  | 0, _ => rfl
  | n + 1, h => by rw [bs, bs, bs_cong (fun i hi => h i (by omega)), h n (by omega)]
theorem bs_succ_t {p : Nat → Bool} {n : Nat} (h : p n = true) : bs p n ||| (1 : Int32) <<< (nI n &&& 31) = bs p (n + 1) := by rw [bs, h, if_pos rfl]
theorem or_0 (x : Int32) : x ||| 0 = x := by
  apply b_ext
  intro i _
  rw [b_or, b_0, Bool.or_false]
theorem bs_succ_f {p : Nat → Bool} {n : Nat} (h : p n = false) : bs p n = bs p (n + 1) := by
  rw [bs, h]
  exact (or_0 _).symm
theorem bs_succ_f0 {p : Nat → Bool} {n : Nat} (h : p n = false) : bs p n ||| 0 = bs p (n + 1) := by rw [bs, h]; rfl
/-- a set that has no members from n on -/
def inn (x : Int32) (n : Nat) : Prop := ∀ i, n ≤ i → i < 32 → bt x i = false
theorem bs_of {x : Int32} {n : Nat} (hn : n ≤ 32) (h : inn x n) : x = bs (bt x) n := by
  apply b_ext
  intro i hi
  rw [bt_bs _ _ _ hn hi]
  by_cases h1 : i < n
  · simp [h1]
  · simp [h1, h i (by omega) hi]
theorem bs_inn (p : Nat → Bool) {n m : Nat} (hn : n ≤ m) (hm : m ≤ 32) : inn (bs p n) m := by
  intro i h1 h2
  rw [bt_bs _ _ _ (by omega) h2]
  simp; omega
end
section
/-- a boolean as the machine has it -/
def z01 (b : Bool) : Int32 := match b with
  | true => 1
  | false => 0
theorem z01_or (b : Bool) : z01 b = 0 ∨ z01 b = 1 := by cases b <;> simp [z01]
theorem z01_0 {b : Bool} (h : z01 b = 0) : b = false := by
  cases b
  · rfl
  · exact absurd h (by decide)
theorem z01_n0 {b : Bool} (h : ¬ z01 b = 0) : b = true := by
  cases b
  · exact absurd rfl h
  · rfl
section RW2
variable {X : List Int32} {k pc n : Nat} {ls : List (Option Value)} {st : List Value} {w w2 : ab_W} {v : Option Value}
theorem z1_eq {off : Int} {b : Bool} {t : Nat} (h : ab_lk (it_ (ab_mi k)) pc = some (.ifCond .eq off, n)) (ht : ab_tg pc off = some t) (kt : b = false → ab_G X k t ls st w v w2) (kf : b = true → ab_G X k (pc + 3) ls st w v w2) : ab_G X k pc ls (.int (z01 b) :: st) w v w2 :=
  j1_eq h ht (fun e => kt (z01_0 e)) (fun e => kf (z01_n0 e))
theorem z1_ne {off : Int} {b : Bool} {t : Nat} (h : ab_lk (it_ (ab_mi k)) pc = some (.ifCond .ne off, n)) (ht : ab_tg pc off = some t) (kt : b = true → ab_G X k t ls st w v w2) (kf : b = false → ab_G X k (pc + 3) ls st w v w2) : ab_G X k pc ls (.int (z01 b) :: st) w v w2 :=
  j1_ne h ht (fun e => kt (z01_n0 e)) (fun e => kf (z01_0 e))
/-- a boolean goes back as it came -/
theorem ab_rz {b c : Bool} (h : ab_lk (it_ (ab_mi k)) pc = some (.ireturn, n)) (hr : ir (ab_mi k) = some .boolean) (e : b = c) : ab_G X k pc ls [.int (z01 b)] w (some (.int (z01 c))) w := by
  subst e
  exact ab_rb h hr (z01_or b) rfl
/-- a counter goes up by one -/
theorem ab_ii {i j : Nat} {x : Int32} (h : ab_lk (it_ (ab_mi k)) pc = some (.iinc i 1, n)) (hl : ls[i]? = some (some (.int x))) (hx : x = nI j) (t : ab_G X k (pc + 3) (ls.set i (some (.int (nI (j + 1))))) st w v w2) : ab_G X k pc ls st w v w2 := by
  refine ab_s ?_ t
  rw [ab_stp_of h]
  unfold ab_ex
  simp only [hl]
  subst hx
  rw [nI_succ]
  rfl
/-- the places of a switch -/
theorem ab_sw {d lo hi : Int} {offs : Array Int} {x : Int32} {off : Int} {t : Nat} (h : ab_lk (it_ (ab_mi k)) pc = some (.tableswitch d lo hi offs, n)) (hx : (decide (x.toInt < lo) || decide (hi < x.toInt)) = false) (ho : offs.toList[(x.toInt - lo).toNat]? = some off) (ht : ab_tg pc off = some t) (kk : ab_G X k t ls st w v w2) : ab_G X k pc ls (.int x :: st) w v w2 := by
  refine ab_s ?_ kk
  rw [ab_stp_of h]
  unfold ab_ex
  simp only [hx, ho]
  unfold ab_go
  rw [ht]
  rfl
theorem ab_swd {d lo hi : Int} {offs : Array Int} {x : Int32} {t : Nat} (h : ab_lk (it_ (ab_mi k)) pc = some (.tableswitch d lo hi offs, n)) (hx : (decide (x.toInt < lo) || decide (hi < x.toInt)) = true) (ht : ab_tg pc d = some t) (kk : ab_G X k t ls st w v w2) : ab_G X k pc ls (.int x :: st) w v w2 := by
  refine ab_s ?_ kk
  rw [ab_stp_of h]
  unfold ab_ex
  simp only [hx]
  unfold ab_go
  rw [ht]
  rfl
end RW2
section RW3
variable {X : List Int32} {k pc n : Nat} {ls : List (Option Value)} {st : List Value} {w w1 w2 : ab_W} {v v1 : Option Value}
/-- a call on an object -/
theorem ab_cv {ix k' r ci pl : Nat} {nest : Bool} {vs as : List Value} (h : ab_lk (it_ (ab_mi k)) pc = some (.invokevirtual ix, n)) (hl : ab_lk (ab_me (ic (ab_mi k))) ix = some (k', nest, pl)) (hr : (st.take (in_ (ab_mi k'))).reverse = .ref r :: as) (hw : w[r]? = some (.inl (ci, vs)))
    (hc : (Nat.ble (in_ (ab_mi k')) st.length && Nat.blt (ih_ (ab_mi k')) (ih_ (ab_mi k)) && Nat.ble (iL (ab_mi k')) 13 && decide (((st.drop (in_ (ab_mi k'))).map Value.category).sum ≤ 8) && decide ((lg_sl (st.take (in_ (ab_mi k'))).reverse).length ≤ iL (ab_mi k'))) = true)
    (hcc : (Nat.beq ci (ic (ab_mi k')) && Nat.blt ci 7 && !is_ (ab_mi k') && !((iy (ab_mi k')).name == "<init>")) = true)
    (a : ab_M X k' (.ref r :: as) w v1 w1) (t : ab_G X k (pc + 3) ls (v1.toList ++ st.drop (in_ (ab_mi k'))) w1 v w2) : ab_G X k pc ls st w v w2 := by
  refine ab_c (k' := k') (as := .ref r :: as) (pc' := pc + 3) (ls' := ls) (st' := st.drop (in_ (ab_mi k'))) (w' := w) ?_ a t
  rw [ab_stp_of h]
  show ab_inv (ab_mi k) 1 pc ix ls st w = _
  unfold ab_inv
  simp only [hl]
  rw [hc]
  simp only [hr, hw]
  rw [hcc]
end RW3
end
section
/-! THE REFERENCE: reads of a row of houses -/
/-- the reference's object and its row s stand in the world -/
def MS (w : ab_W) (s : List Int32) (n : Nat) : Prop := ∃ vs, w[54]? = some (.inl (6, vs)) ∧ vs[0]? = some (.ref 55) ∧ w[55]? = some (.inr s) ∧ s.length = 90 ∧ s.getD 0 0 = nI n ∧ n ≤ 8
def fld (s : List Int32) (h k : Nat) : Int32 := s.getD (2 + 8 * h + k) 0
section M1
variable {X : List Int32} {w : ab_W} {s : List Int32} {n : Nat}
set_option maxRecDepth 100000 in
theorem m_in {a b c : Int64} : ab_M X kX6_in [.long a, .long b, .long c] w (some (.int (z01 (decide (b ≤ a) && decide (a ≤ c))))) w := by
  show ab_G X kX6_in 0 [some (.long a), none, some (.long b), none, some (.long c), none] [] w _ _
  have e1 : ∀ x y : Int64, lg_cmp x y < 0 ↔ ¬ y ≤ x := by
    intro x y
    unfold lg_cmp
    by_cases h1 : y < x
    · rw [if_pos h1]
      have := Int64.le_of_lt h1
      simp [this]
    · by_cases h2 : x = y
      · rw [if_neg h1, if_pos h2]
        simp [h2]
      · rw [if_neg h1, if_neg h2]
        have h3 : ¬ y ≤ x := by
          intro h3
          rw [Int64.le_iff_toInt_le] at h3
          rw [Int64.lt_iff_toInt_lt] at h1
          exact h2 (Int64.toInt_inj.mp (by omega))
        simp [h3]
  have e2 : ∀ x y : Int64, 0 < lg_cmp x y ↔ ¬ x ≤ y := by
    intro x y
    unfold lg_cmp
    by_cases h1 : y < x
    · rw [if_pos h1]
      have h3 : ¬ x ≤ y := by
        intro h3
        rw [Int64.le_iff_toInt_le] at h3
        rw [Int64.lt_iff_toInt_lt] at h1
        omega
      simp [h3]
    · have h3 : x ≤ y := by
        rw [Int64.lt_iff_toInt_lt] at h1
        rw [Int64.le_iff_toInt_le]
        omega
      by_cases h2 : x = y
      · rw [if_neg h1, if_pos h2]
        simp [h3]
      · rw [if_neg h1, if_neg h2]
        simp [h3]
  iterate 3 refine ab_s rfl ?_
  refine j1_lt rfl rfl (fun h3 => ?_) (fun h3 => ?_)
  · refine ab_k (y := 0) rfl rfl ?_
    exact ab_ri rfl (by (try rw [e1] at h3); (try rw [e2] at h10); simp_all only [z01, decide_true, decide_false, Bool.and_self, Bool.and_true, Bool.and_false, Bool.false_and, Bool.true_and, not_true_eq_false, not_false_eq_true, Classical.not_not])
  · iterate 3 refine ab_s rfl ?_
    refine j1_gt rfl rfl (fun h10 => ?_) (fun h10 => ?_)
    · refine ab_k (y := 0) rfl rfl ?_
      exact ab_ri rfl (by (try rw [e1] at h3); (try rw [e2] at h10); simp_all only [z01, decide_true, decide_false, Bool.and_self, Bool.and_true, Bool.and_false, Bool.false_and, Bool.true_and, not_true_eq_false, not_false_eq_true, Classical.not_not])
    · refine ab_k (y := 1) rfl rfl ?_
      refine ab_s rfl ?_
      exact ab_ri rfl (by (try rw [e1] at h3); (try rw [e2] at h10); simp_all only [z01, decide_true, decide_false, Bool.and_self, Bool.and_true, Bool.and_false, Bool.false_and, Bool.true_and, not_true_eq_false, not_false_eq_true, Classical.not_not])
theorem m_in1 {x : Int32} {b c : Int64} {lo hi : Int} (hb : b.toInt = lo) (hc : c.toInt = hi) (h : lo ≤ x.toInt ∧ x.toInt ≤ hi) : ab_M X kX6_in [.long x.toInt64, .long b, .long c] w (some (.int 1)) w := by
  have := m_in (X := X) (w := w) (a := x.toInt64) (b := b) (c := c)
  rw [show (decide (b ≤ x.toInt64) && decide (x.toInt64 ≤ c)) = true by
    simp only [Int64.le_iff_toInt_le, Int32.toInt_toInt64, hb, hc, Bool.and_eq_true, decide_eq_true_eq]
    exact h] at this
  exact this
theorem m_in0 {x : Int32} {b c : Int64} {lo hi : Int} (hb : b.toInt = lo) (hc : c.toInt = hi) (h : ¬ (lo ≤ x.toInt ∧ x.toInt ≤ hi)) : ab_M X kX6_in [.long x.toInt64, .long b, .long c] w (some (.int 0)) w := by
  have := m_in (X := X) (w := w) (a := x.toInt64) (b := b) (c := c)
  rw [show (decide (b ≤ x.toInt64) && decide (x.toInt64 ≤ c)) = false by
    apply Bool.eq_false_iff.mpr
    simp only [Int64.le_iff_toInt_le, Int32.toInt_toInt64, hb, hc, Bool.and_eq_true, decide_eq_true_eq, ne_eq]
    exact h] at this
  exact this
set_option maxRecDepth 100000 in
theorem m_has {x : Int32} (j : Nat) (hj : j < 32) : ab_M X kX6_has [.int x, .int (nI j)] w (some (.int (z01 (bt x j)))) w := by
  show ab_G X kX6_has 0 [some (.int x), some (.int (nI j))] [] w _ _
  iterate 3 refine ab_s rfl ?_
  refine ab_k (y := 1) rfl rfl ?_
  refine ab_s rfl ?_
  refine ab_t (x := (x >>> (nI j &&& 31)) &&& 1) (b_one x hj) ?_
  cases bt x j
  · iterate 3 refine ab_s rfl ?_
    exact ab_ri rfl rfl
  · iterate 4 refine ab_s rfl ?_
    exact ab_ri rfl rfl
set_option maxRecDepth 100000 in
theorem m_at (h k : Nat) {a b : Int32} (e1 : a = nI h) (e2 : b = nI k) : ab_M X kX6_at [.int a, .int b] w (some (.int (nI (2 + 8 * h + k)))) w := by
  show ab_G X kX6_at 0 [some (.int a), some (.int b)] [] w _ _
  refine ab_k (y := 2) rfl rfl ?_
  refine ab_k (y := 8) rfl rfl ?_
  iterate 5 refine ab_s rfl ?_
  exact ab_ri rfl (by rw [e1, e2, show (2 : Int32) = nI 2 from rfl, show (8 : Int32) = nI 8 from rfl, pk_mul, nI_add, nI_add])
set_option maxRecDepth 100000 in
theorem m_its (M : MS w s n) (h k : Nat) (hh : h < 8) (hk : k < 8) {a b : Int32} (e1 : a = nI h) (e2 : b = nI k) : ab_M X kX6_its [.ref 54, .int a, .int b] w (some (.int (fld s h k))) w := by
  obtain ⟨vs, hm, hv, hs, hl, h0, hn⟩ := M
  show ab_G X kX6_its 0 [some (.ref 54), some (.int a), some (.int b)] [] w _ _
  refine ab_s rfl ?_
  refine ab_gf rfl rfl rfl hm hv ?_
  iterate 2 refine ab_s rfl ?_
  refine ab_c rfl (m_at h k e1 e2) ?_
  refine ab_ia (2 + 8 * h + k) rfl hs (by omega) rfl (by omega) ?_
  exact ab_ri rfl rfl
theorem nsub1 {n : Nat} (h : n ≤ 8) : (nI n - 1).toInt64.toInt = (n : Int) - 1 := by
  rw [Int32.toInt_toInt64]
  match n, h with
  | 0, _ => decide
  | n + 1, h =>
    rw [nI_pred, nI_toInt (by omega)]
    omega
set_option maxRecDepth 100000 in
theorem m_isHouse1 (M : MS w s n) {x : Int32} (hx : isN x n) : ab_M X kX6_isHouse [.ref 54, .int x] w (some (.int 1)) w := by
  obtain ⟨vs, hm, hv, hs, hl, h0, hn⟩ := M
  rw [isN_iff (by omega)] at hx
  show ab_G X kX6_isHouse 0 [some (.ref 54), some (.int x)] [] w _ _
  iterate 4 refine ab_s rfl ?_
  refine ab_gf rfl rfl rfl hm hv ?_
  refine ab_k (y := 0) rfl rfl ?_
  refine ab_ia 0 rfl hs (by omega) rfl (by omega) ?_
  refine ab_t h0 ?_
  refine ab_k (y := 1) rfl rfl ?_
  iterate 2 refine ab_s rfl ?_
  refine ab_c rfl (m_in1 (lo := 0) (hi := (n : Int) - 1) rfl (nsub1 hn) (by omega)) ?_
  exact ab_ri rfl rfl
theorem nsub2 {n : Nat} (h : n ≤ 8) : (2 * nI n - 1).toInt64.toInt = 2 * (n : Int) - 1 := by
  rw [Int32.toInt_toInt64, show (2 : Int32) = nI 2 from rfl, pk_mul]
  match n, h with
  | 0, _ => decide
  | n + 1, h =>
    rw [show 2 * (n + 1) = 2 * n + 1 + 1 by omega, nI_pred, nI_toInt (by omega)]
    omega
set_option maxRecDepth 100000 in
theorem m_isRoom1 (M : MS w s n) {x : Int32} (hx : isN x (2 * n)) : ab_M X kX6_isRoom [.ref 54, .int x] w (some (.int 1)) w := by
  obtain ⟨vs, hm, hv, hs, hl, h0, hn⟩ := M
  rw [isN_iff (by omega)] at hx
  show ab_G X kX6_isRoom 0 [some (.ref 54), some (.int x)] [] w _ _
  iterate 3 refine ab_s rfl ?_
  refine ab_k (y := 2) rfl rfl ?_
  refine ab_s rfl ?_
  refine ab_gf rfl rfl rfl hm hv ?_
  refine ab_k (y := 0) rfl rfl ?_
  refine ab_ia 0 rfl hs (by omega) rfl (by omega) ?_
  refine ab_t h0 ?_
  refine ab_s rfl ?_
  refine ab_k (y := 1) rfl rfl ?_
  iterate 2 refine ab_s rfl ?_
  refine ab_c rfl (m_in1 (lo := 0) (hi := 2 * (n : Int) - 1) rfl (nsub2 hn) (by omega)) ?_
  exact ab_ri rfl rfl
set_option maxRecDepth 100000 in
theorem m_isClock1 {x : Int32} (hx : isN x 24) : ab_M X kX6_isClock [.int x] w (some (.int 1)) w := by
  rw [isN_iff (by omega)] at hx
  show ab_G X kX6_isClock 0 [some (.int x)] [] w _ _
  iterate 4 refine ab_s rfl ?_
  refine ab_c rfl (m_in1 (lo := 0) (hi := 23) rfl rfl (by omega)) ?_
  exact ab_ri rfl rfl
set_option maxRecDepth 100000 in
theorem m_isHouse0 (M : MS w s n) {x : Int32} (hx : ¬ isN x n) : ab_M X kX6_isHouse [.ref 54, .int x] w (some (.int 0)) w := by
  obtain ⟨vs, hm, hv, hs, hl, h0, hn⟩ := M
  rw [isN_iff (by omega)] at hx
  show ab_G X kX6_isHouse 0 [some (.ref 54), some (.int x)] [] w _ _
  iterate 4 refine ab_s rfl ?_
  refine ab_gf rfl rfl rfl hm hv ?_
  refine ab_k (y := 0) rfl rfl ?_
  refine ab_ia 0 rfl hs (by omega) rfl (by omega) ?_
  refine ab_t h0 ?_
  refine ab_k (y := 1) rfl rfl ?_
  iterate 2 refine ab_s rfl ?_
  refine ab_c rfl (m_in0 (lo := 0) (hi := (n : Int) - 1) rfl (nsub1 hn) (by omega)) ?_
  exact ab_ri rfl rfl

set_option maxRecDepth 100000 in
theorem m_isRoom0 (M : MS w s n) {x : Int32} (hx : ¬ isN x (2 * n)) : ab_M X kX6_isRoom [.ref 54, .int x] w (some (.int 0)) w := by
  obtain ⟨vs, hm, hv, hs, hl, h0, hn⟩ := M
  rw [isN_iff (by omega)] at hx
  show ab_G X kX6_isRoom 0 [some (.ref 54), some (.int x)] [] w _ _
  iterate 3 refine ab_s rfl ?_
  refine ab_k (y := 2) rfl rfl ?_
  refine ab_s rfl ?_
  refine ab_gf rfl rfl rfl hm hv ?_
  refine ab_k (y := 0) rfl rfl ?_
  refine ab_ia 0 rfl hs (by omega) rfl (by omega) ?_
  refine ab_t h0 ?_
  refine ab_s rfl ?_
  refine ab_k (y := 1) rfl rfl ?_
  iterate 2 refine ab_s rfl ?_
  refine ab_c rfl (m_in0 (lo := 0) (hi := 2 * (n : Int) - 1) rfl (nsub2 hn) (by omega)) ?_
  exact ab_ri rfl rfl
set_option maxRecDepth 100000 in
theorem m_isClock0 {x : Int32} (hx : ¬ isN x 24) : ab_M X kX6_isClock [.int x] w (some (.int 0)) w := by
  rw [isN_iff (by omega)] at hx
  show ab_G X kX6_isClock 0 [some (.int x)] [] w _ _
  iterate 4 refine ab_s rfl ?_
  refine ab_c rfl (m_in0 (lo := 0) (hi := 23) rfl rfl (by omega)) ?_
  exact ab_ri rfl rfl
set_option maxRecDepth 100000 in
theorem m_isAsk1 (M : MS w s n) {x c : Int32} (hx : isN x n) (hc : isN c 24) : ab_M X kX6_isAsk [.ref 54, .int x, .int c] w (some (.int 1)) w := by
  obtain ⟨vs, hm, -⟩ := id M
  show ab_G X kX6_isAsk 0 [some (.ref 54), some (.int x), some (.int c)] [] w _ _
  iterate 2 refine ab_s rfl ?_
  refine ab_cv rfl rfl rfl hm rfl rfl (m_isHouse1 M hx) ?_
  iterate 2 refine ab_s rfl ?_
  refine ab_c rfl (m_isClock1 hc) ?_
  refine ab_s rfl ?_
  refine ab_k (y := 1) rfl rfl ?_
  refine ab_s rfl ?_
  exact ab_ri rfl rfl
set_option maxRecDepth 100000 in
theorem m_isAsk0 (M : MS w s n) {x c : Int32} (hx : ¬ (isN x n ∧ isN c 24)) : ab_M X kX6_isAsk [.ref 54, .int x, .int c] w (some (.int 0)) w := by
  obtain ⟨vs, hm, -⟩ := id M
  show ab_G X kX6_isAsk 0 [some (.ref 54), some (.int x), some (.int c)] [] w _ _
  by_cases h : isN x n
  · have hc : ¬ isN c 24 := fun q => hx ⟨h, q⟩
    iterate 2 refine ab_s rfl ?_
    refine ab_cv rfl rfl rfl hm rfl rfl (m_isHouse1 M h) ?_
    iterate 2 refine ab_s rfl ?_
    refine ab_c rfl (m_isClock0 hc) ?_
    refine ab_s rfl ?_
    refine ab_k (y := 0) rfl rfl ?_
    exact ab_ri rfl rfl
  · iterate 2 refine ab_s rfl ?_
    refine ab_cv rfl rfl rfl hm rfl rfl (m_isHouse0 M h) ?_
    refine ab_s rfl ?_
    refine ab_k (y := 0) rfl rfl ?_
    exact ab_ri rfl rfl
end M1
end
section
/-! SETS as predicates: bs p 16 and what the program does to them; ways by steps -/
theorem bs_or1 {p q : Nat → Bool} {m j : Nat} (hm : m ≤ 32) (hj : j < m) (h : ∀ i, i < m → q i = (p i || decide (i = j))) : bs p m ||| (1 : Int32) <<< (nI j &&& 31) = bs q m := by
  apply b_ext
  intro i hi
  rw [b_or, bt_bs _ _ _ hm hi, bt_bs _ _ _ hm hi, b_sh (by omega) hi]
  by_cases h1 : i < m
  · simp [h1, h i h1]
  · have : ¬ i = j := by omega
    simp [h1, this]
theorem bs_or {p q : Nat → Bool} {m : Nat} (hm : m ≤ 32) : bs p m ||| bs q m = bs (fun i => p i || q i) m := by
  apply b_ext
  intro i hi
  rw [b_or, bt_bs _ _ _ hm hi, bt_bs _ _ _ hm hi, bt_bs _ _ _ hm hi]
  cases decide (i < m) <;> simp
theorem bs_and {p q : Nat → Bool} {m : Nat} (hm : m ≤ 32) : bs p m &&& bs q m = bs (fun i => p i && q i) m := by
  apply b_ext
  intro i hi
  rw [b_and, bt_bs _ _ _ hm hi, bt_bs _ _ _ hm hi, bt_bs _ _ _ hm hi]
  cases decide (i < m) <;> simp
theorem bs_diff {p q : Nat → Bool} {m : Nat} (hm : m ≤ 32) : bs p m &&& (bs q m ^^^ (-1)) = bs (fun i => p i && !q i) m := by
  apply b_ext
  intro i hi
  rw [b_and, b_xor, bt_bs _ _ _ hm hi, bt_bs _ _ _ hm hi, bt_bs _ _ _ hm hi, b_m1 i hi]
  cases decide (i < m) <;> simp
theorem bs_zero {p : Nat → Bool} {m : Nat} (hm : m ≤ 32) : bs p m = 0 ↔ ∀ i, i < m → p i = false := by
  constructor
  · intro h i hi
    have h1 := bt_bs p m i hm (by omega)
    rw [h, b_0] at h1
    simpa [hi] using h1.symm
  · intro h
    apply b_ext
    intro i hi
    rw [bt_bs _ _ _ hm hi, b_0]
    by_cases h1 : i < m
    · simp [h i h1]
    · simp [h1]
theorem bs_inj {p q : Nat → Bool} {m : Nat} (hm : m ≤ 32) (h : bs p m = bs q m) : ∀ i, i < m → p i = q i := by
  intro i hi
  have h1 := bt_bs p m i hm (by omega)
  have h2 := bt_bs q m i hm (by omega)
  rw [h] at h1
  rw [h1] at h2
  simpa [hi] using h2
theorem bs_out {p : Nat → Bool} {m i : Nat} (hm : m ≤ 32) (hi : i < 32) : bt (bs p m) i = (decide (i < m) && p i) := bt_bs p m i hm hi
/-- one of the first m -/
def anyR (p : Nat → Bool) : Nat → Bool
  | 0 => false
  | m + 1 => anyR p m || p m
theorem anyR_iff {p : Nat → Bool} : ∀ {m : Nat}, anyR p m = true ↔ ∃ r, r < m ∧ p r = true
  | 0 => by simp [anyR]
  | m + 1 => by
    rw [anyR, Bool.or_eq_true, anyR_iff (m := m)]
    constructor
    · rintro (⟨r, h1, h2⟩ | h)
      · exact ⟨r, by omega, h2⟩
      · exact ⟨m, by omega, h⟩
    · rintro ⟨r, h1, h2⟩
      by_cases h : r = m
      · subst h; exact Or.inr h2
      · exact Or.inl ⟨r, by omega, h2⟩
theorem anyR_cong {p q : Nat → Bool} : ∀ {m : Nat}, (∀ r, r < m → p r = q r) → anyR p m = anyR q m
  | 0, _ => rfl
  | m + 1, h => by rw [anyR, anyR, anyR_cong (fun r hr => h r (by omega)), h m (by omega)]
/-! WAYS: adj who stands by whom, op who is open, of 16 rooms -/
section WY
variable (adj : Nat → Nat → Bool) (op : Nat → Bool)
/-- who is reached from start with at most so many rooms -/
def wB (start : Nat → Bool) : Nat → Nat → Bool
  | 0, _ => false
  | k + 1, i => op i && (start i || anyR (fun r => wB start k r && adj r i) 16)
variable {adj op}
theorem wB_mono {start : Nat → Bool} : ∀ {k : Nat} {i : Nat}, wB adj op start k i = true → wB adj op start (k + 1) i = true
  | 0, i, h => by cases h
  | k + 1, i, h => by
    unfold wB at h ⊢
    simp only [Bool.and_eq_true, Bool.or_eq_true, anyR_iff] at h ⊢
    refine ⟨h.1, h.2.imp id ?_⟩
    rintro ⟨r, h1, h2, h3⟩
    exact ⟨r, h1, wB_mono h2, h3⟩
theorem wB_le {start : Nat → Bool} {k m i : Nat} (hkm : k ≤ m) (h : wB adj op start k i = true) : wB adj op start m i = true := by
  obtain ⟨d, rfl⟩ := Nat.exists_eq_add_of_le hkm
  clear hkm
  induction d with
  | zero => exact h
  | succ d ih => exact wB_mono ih
theorem wB_op {start : Nat → Bool} {k i : Nat} (h : wB adj op start k i = true) : op i = true := by
  cases k with
  | zero => cases h
  | succ k =>
    unfold wB at h
    simp only [Bool.and_eq_true] at h
    exact h.1
/-- the next layer -/
theorem wB_next {start : Nat → Bool} {k : Nat} (i : Nat) : (op i && anyR (fun r => (wB adj op start (k + 1) r && !wB adj op start k r) && adj r i) 16 && !wB adj op start (k + 1) i) = (wB adj op start (k + 2) i && !wB adj op start (k + 1) i) := by
  cases h : wB adj op start (k + 1) i with
  | true => simp
  | false =>
    simp only [Bool.not_false, Bool.and_true]
    rw [Bool.eq_iff_iff]
    conv => rhs; rw [wB]
    simp only [Bool.and_eq_true, Bool.or_eq_true, anyR_iff, Bool.not_eq_true']
    constructor
    · rintro ⟨h1, r, h2, ⟨h3, h4⟩, h5⟩
      exact ⟨h1, Or.inr ⟨r, h2, h3, h5⟩⟩
    · rintro ⟨h1, h2 | ⟨r, h2, h3, h4⟩⟩
      · exfalso
        have : wB adj op start (k + 1) i = true := by
          unfold wB
          simp [h1, h2]
        rw [h] at this
        cases this
      · refine ⟨h1, r, h2, ⟨h3, ?_⟩, h4⟩
        cases h5 : wB adj op start k r with
        | false => rfl
        | true =>
          exfalso
          have : wB adj op start (k + 1) i = true := by
            unfold wB
            simp only [Bool.and_eq_true, Bool.or_eq_true, anyR_iff]
            exact ⟨h1, Or.inr ⟨r, h2, h5, h4⟩⟩
          rw [h] at this
          cases this
/-- nothing new: nothing new ever -/
theorem wB_fix {start : Nat → Bool} {k : Nat} (h : ∀ i, i < 16 → wB adj op start (k + 1) i = wB adj op start k i) : ∀ m, k ≤ m → ∀ i, i < 16 → wB adj op start m i = wB adj op start k i := by
  intro m hm
  obtain ⟨d, rfl⟩ := Nat.exists_eq_add_of_le hm
  clear hm
  induction d with
  | zero => intro i _; rfl
  | succ d ih =>
    intro i hi
    rw [← h i hi]
    show wB adj op start (k + d + 1) i = _
    unfold wB
    rw [anyR_cong (fun r hr => by rw [ih r hr])]
/-- how many of the first m -/
def cntR (p : Nat → Bool) : Nat → Nat
  | 0 => 0
  | m + 1 => cntR p m + (if p m then 1 else 0)
theorem cntR_le (p : Nat → Bool) : ∀ m, cntR p m ≤ m
  | 0 => Nat.le_refl _
  | m + 1 => by
    rw [cntR]
    have := cntR_le p m
    split <;> omega
theorem cntR_sub {p q : Nat → Bool} : ∀ {m : Nat}, (∀ i, i < m → p i = true → q i = true) → cntR p m ≤ cntR q m
  | 0, _ => Nat.le_refl _
  | m + 1, h => by
    rw [cntR, cntR]
    have h1 := cntR_sub (p := p) (q := q) (m := m) (fun i hi => h i (by omega))
    have h2 := h m (by omega)
    cases hp : p m <;> cases hq : q m <;> simp_all <;> omega
theorem cntR_lt {p q : Nat → Bool} {m j : Nat} (h : ∀ i, i < m → p i = true → q i = true) (hj : j < m) (h1 : p j = false) (h2 : q j = true) : cntR p m < cntR q m := by
  induction m with
  | zero => omega
  | succ m ih =>
    rw [cntR, cntR]
    have h3 := cntR_sub (p := p) (q := q) (m := m) (fun i hi => h i (by omega))
    by_cases e : j = m
    · subst e
      simp [h1, h2]
      omega
    · have := ih (fun i hi => h i (by omega)) (by omega)
      have h4 := h m (by omega)
      cases hp : p m <;> cases hq : q m <;> simp_all <;> omega
/-- while there is something new, as many are there as steps -/
theorem wB_count {start : Nat → Bool} {k : Nat} (h : ∀ j, j < k → ∃ i, i < 16 ∧ wB adj op start (j + 1) i = true ∧ wB adj op start j i = false) : k ≤ cntR (wB adj op start k) 16 := by
  induction k with
  | zero => omega
  | succ k ih =>
    have h1 := ih (fun j hj => h j (by omega))
    obtain ⟨i, h2, h3, h4⟩ := h k (by omega)
    have := cntR_lt (p := wB adj op start k) (q := wB adj op start (k + 1)) (m := 16) (fun i _ h => wB_mono h) h2 h4 h3
    omega
/-- the length of a shortest way, 0: there is none -/
def isLen (B : Nat → Nat → Bool) (room d : Nat) : Prop := (d = 0 ∧ ∀ k, B k room = false) ∨ (0 < d ∧ B d room = true ∧ ∀ j, j < d → B j room = false)
theorem isLen_inj {B : Nat → Nat → Bool} {room d e : Nat} (h1 : isLen B room d) (h2 : isLen B room e) : d = e := by
  rcases h1 with ⟨a1, a2⟩ | ⟨a1, a2, a3⟩ <;> rcases h2 with ⟨b1, b2⟩ | ⟨b1, b2, b3⟩
  · omega
  · rw [a2] at b2; cases b2
  · rw [b2] at a2; cases a2
  · rcases Nat.lt_trichotomy d e with h | h | h
    · rw [b3 d h] at a2; cases a2
    · exact h
    · rw [a3 e h] at b2; cases b2
/-- from one room to another -/
def wW (x : Nat) : Nat → Nat → Bool := wB adj op (fun i => decide (i = x))
theorem wB_any {start : Nat → Bool} (hs : ∀ i, start i = true → i < 16) : ∀ {k i : Nat}, wB adj op start k i = true ↔ ∃ x, start x = true ∧ wB adj op (fun i => decide (i = x)) k i = true
  | 0, i => by simp [wB]
  | k + 1, i => by
    unfold wB
    simp only [Bool.and_eq_true, Bool.or_eq_true, anyR_iff, decide_eq_true_eq]
    constructor
    · rintro ⟨h1, h2 | ⟨r, h2, h3, h4⟩⟩
      · exact ⟨i, h2, h1, Or.inl rfl⟩
      · obtain ⟨x, h5, h6⟩ := (wB_any hs).mp h3
        exact ⟨x, h5, h1, Or.inr ⟨r, h2, h6, h4⟩⟩
    · rintro ⟨x, h0, h1, rfl | ⟨r, h2, h3, h4⟩⟩
      · exact ⟨h1, Or.inl h0⟩
      · exact ⟨h1, Or.inr ⟨r, h2, (wB_any hs).mpr ⟨x, h0, h3⟩, h4⟩⟩
/-- the first step instead of the last -/
theorem wB_first (x y : Nat) (hx : x < 16) (hy : y < 16) : ∀ {k : Nat}, wB adj op (fun i => decide (i = x)) (k + 1) y = true ↔ (op x = true ∧ x = y) ∨ (op x = true ∧ ∃ z, z < 16 ∧ adj x z = true ∧ wB adj op (fun i => decide (i = z)) k y = true)
  | 0 => by
    unfold wB
    simp only [Bool.and_eq_true, Bool.or_eq_true, anyR_iff, decide_eq_true_eq, wB, Bool.false_eq_true, false_and, and_false, exists_false, or_false]
    constructor
    · rintro ⟨h1, rfl⟩; exact ⟨h1, rfl⟩
    · rintro ⟨h1, rfl⟩; exact ⟨h1, rfl⟩
  | k + 1 => by
    rw [wB]
    simp only [Bool.and_eq_true, Bool.or_eq_true, anyR_iff, decide_eq_true_eq]
    constructor
    · rintro ⟨h1, rfl | ⟨r, h2, h3, h4⟩⟩
      · exact Or.inl ⟨h1, rfl⟩
      · rcases (wB_first x r hx h2).mp h3 with ⟨h5, rfl⟩ | ⟨h5, z, h6, h7, h8⟩
        · refine Or.inr ⟨h5, y, hy, h4, ?_⟩
          unfold wB
          simp [h1]
        · refine Or.inr ⟨h5, z, h6, h7, ?_⟩
          rw [wB]
          simp only [Bool.and_eq_true, Bool.or_eq_true, anyR_iff, decide_eq_true_eq]
          exact ⟨h1, Or.inr ⟨r, h2, h8, h4⟩⟩
    · rintro (⟨h1, rfl⟩ | ⟨h1, z, h2, h3, h4⟩)
      · exact ⟨h1, Or.inl rfl⟩
      · rw [wB] at h4
        simp only [Bool.and_eq_true, Bool.or_eq_true, anyR_iff, decide_eq_true_eq] at h4
        obtain ⟨h5, rfl | ⟨r, h6, h7, h8⟩⟩ := h4
        · refine ⟨h5, Or.inr ⟨x, hx, ?_, h3⟩⟩
          unfold wB
          simp [h1]
        · exact ⟨h5, Or.inr ⟨r, h6, (wB_first x r hx h6).mpr (Or.inr ⟨h1, z, h2, h3, h7⟩), h8⟩⟩
theorem wB_sym (hs : ∀ a b, a < 16 → b < 16 → adj a b = adj b a) : ∀ (k x y : Nat), x < 16 → y < 16 → wB adj op (fun i => decide (i = x)) k y = wB adj op (fun i => decide (i = y)) k x
  | 0, _, _, _, _ => rfl
  | k + 1, x, y, hx, hy => by
    rw [Bool.eq_iff_iff, wB_first x y hx hy]
    conv => rhs; rw [wB]
    simp only [Bool.and_eq_true, Bool.or_eq_true, anyR_iff, decide_eq_true_eq]
    constructor
    · rintro (⟨h1, h2⟩ | ⟨h1, z, h2, h3, h4⟩)
      · exact ⟨h1, Or.inl h2⟩
      · exact ⟨h1, Or.inr ⟨z, h2, by rw [← wB_sym hs k z y h2 hy]; exact h4, by rw [hs z x h2 hx]; exact h3⟩⟩
    · rintro ⟨h1, h2 | ⟨z, h2, h3, h4⟩⟩
      · exact Or.inl ⟨h1, h2⟩
      · exact Or.inr ⟨h1, z, h2, by rw [hs x z hx h2]; exact h4, by rw [wB_sym hs k z y h2 hy]; exact h3⟩
/-- from the grounds to the room, or back -/
theorem wB_back {start : Nat → Bool} (hs : ∀ a b, a < 16 → b < 16 → adj a b = adj b a) (h16 : ∀ i, start i = true → i < 16) {room : Nat} (hr : room < 16) (k : Nat) : wB adj op start k room = anyR (fun x => start x && wB adj op (fun i => decide (i = room)) k x) 16 := by
  rw [Bool.eq_iff_iff, wB_any h16, anyR_iff]
  constructor
  · rintro ⟨x, h1, h2⟩
    exact ⟨x, h16 x h1, by rw [h1, ← wB_sym hs k x room (h16 x h1) hr, h2]; rfl⟩
  · rintro ⟨x, h1, h2⟩
    simp only [Bool.and_eq_true] at h2
    exact ⟨x, h2.1, by rw [wB_sym hs k x room h1 hr]; exact h2.2⟩
end WY
end
section
/-! THE REFERENCE: who lets in, what is joined -/
/-- what the numbers of a row are -/
def SI (s : List Int32) (n : Nat) : Prop := (∀ h, h < n → (∃ k, k < 7 ∧ fld s h 0 = nI k) ∧ (fld s h 1 = -1 ∨ ∃ t, t < 8 ∧ fld s h 1 = nI t ∧ (t = h + 1 ∨ t + 1 = h)) ∧ inn (fld s h 2) 8 ∧ isN (fld s h 3) 24 ∧ isN (fld s h 4) 24 ∧ inn (fld s h 5) 8 ∧ isN (fld s h 6) 10 ∧ isN (fld s h 7) n) ∧ (∀ d, d < 14 → ∃ b, s.getD (66 + d) 0 = z01 b) ∧ ∀ k, k < 10 → s.getD (80 + k) 0 = -1 ∨ isN (s.getD (80 + k) 0) n
def hourB (s : List Int32) (h : Nat) (c : Int32) : Bool := if fld s h 3 ≤ fld s h 4 then decide (fld s h 3 ≤ c) && decide (c ≤ fld s h 4) else decide (fld s h 3 ≤ c) || !decide (fld s h 4 < c)
def plainB (s : List Int32) (h f : Nat) (c : Int32) : Bool := bt (fld s h 2) f && hourB s h c
def letB (s : List Int32) (h f : Nat) (c : Int32) : Bool :=
  if h = f then true else if fld s h 0 = 1 then plainB s h f c && decide (c < 20) else if fld s h 0 = 2 then hourB s h c else if fld s h 0 = 3 then true else if fld s h 0 = 4 then (plainB s h f c && decide (c < 20)) || decide (c = 12) else if fld s h 0 = 5 then plainB s h f c && (decide (7 ≤ c) && decide (c ≤ 19)) else if fld s h 0 = 6 then (plainB s h f c && decide (c < 20)) && !bt (fld s h 5) f else plainB s h f c
theorem lle (a b : Int32) : decide (a.toInt64 ≤ b.toInt64) = decide (a ≤ b) := by
  apply decide_eq_decide.mpr
  rw [Int64.le_iff_toInt_le, Int32.le_iff_toInt_le, Int32.toInt_toInt64, Int32.toInt_toInt64]
section M2
variable {X : List Int32} {w : ab_W} {s : List Int32} {n : Nat}
set_option maxRecDepth 100000 in
set_option maxHeartbeats 4000000 in
theorem m_isHour (M : MS w s n) (h : Nat) (hh : h < 8) (c : Int32) : ab_M X kX6_isHour [.ref 54, .int (nI h), .int c] w (some (.int (z01 (hourB s h c)))) w := by
  obtain ⟨vs, hm, -⟩ := id M
  show ab_G X kX6_isHour 0 [some (.ref 54), some (.int (nI h)), some (.int c), none, none] [] w _ _
  iterate 2 refine ab_s rfl ?_
  refine ab_k (y := 3) rfl rfl ?_
  refine ab_cv rfl rfl rfl hm rfl rfl (m_its M h 3 hh (by omega) rfl rfl) ?_
  iterate 3 refine ab_s rfl ?_
  refine ab_k (y := 4) rfl rfl ?_
  refine ab_cv rfl rfl rfl hm rfl rfl (m_its M h 4 hh (by omega) rfl rfl) ?_
  iterate 3 refine ab_s rfl ?_
  refine j2_le rfl rfl (fun h18 => ?_) (fun h18 => ?_)
  · iterate 6 refine ab_s rfl ?_
    refine ab_c rfl (m_in) ?_
    refine ab_rz rfl rfl ?_
    rw [lle, lle]
    unfold hourB
    rw [if_pos h18]
  · iterate 2 refine ab_s rfl ?_
    refine j2_ge rfl rfl (fun h23 => ?_) (fun h23 => ?_)
    · refine ab_k (y := 1) rfl rfl ?_
      refine ab_s rfl ?_
      exact ab_ri rfl (by unfold hourB; rw [if_neg h18]; first | (rw [decide_eq_true h23]; rfl) | (rw [decide_eq_false h23, decide_eq_true h29]; rfl) | (rw [decide_eq_false h23, decide_eq_false h29]; rfl))
    · iterate 2 refine ab_s rfl ?_
      refine j2_gt rfl rfl (fun h29 => ?_) (fun h29 => ?_)
      · refine ab_k (y := 0) rfl rfl ?_
        refine ab_s rfl ?_
        exact ab_ri rfl (by unfold hourB; rw [if_neg h18]; first | (rw [decide_eq_true h23]; rfl) | (rw [decide_eq_false h23, decide_eq_true h29]; rfl) | (rw [decide_eq_false h23, decide_eq_false h29]; rfl))
      · refine ab_k (y := 1) rfl rfl ?_
        refine ab_s rfl ?_
        exact ab_ri rfl (by unfold hourB; rw [if_neg h18]; first | (rw [decide_eq_true h23]; rfl) | (rw [decide_eq_false h23, decide_eq_true h29]; rfl) | (rw [decide_eq_false h23, decide_eq_false h29]; rfl))
set_option maxRecDepth 100000 in
set_option maxHeartbeats 4000000 in
theorem m_letK (M : MS w s n) (I : SI s n) (h f : Nat) (hh : h < n) (hf : f < 8) (hne : ¬ h = f) (c : Int32) (ls : List (Option Value)) (p q : Bool) (hp : p = plainB s h f c) (hq : q = (plainB s h f c && decide (c < 20))) : ab_G X kX6_isLetting 54 [some (.ref 54), some (.int (nI h)), some (.int (nI f)), some (.int c), some (.int (z01 p)), some (.int (z01 q))] [] w (some (.int (z01 (letB s h f c)))) w := by
  obtain ⟨vs, hm, -⟩ := id M
  have hn : n ≤ 8 := M.choose_spec.2.2.2.2.2
  have hh0 := hh
  have hh : h < 8 := by omega
  obtain ⟨k, hk7, hk⟩ := (I.1 h hh0).1
  have hlet : letB s h f c = if fld s h 0 = 1 then q else if fld s h 0 = 2 then hourB s h c else if fld s h 0 = 3 then true else if fld s h 0 = 4 then q || decide (c = 12) else if fld s h 0 = 5 then p && (decide (7 ≤ c) && decide (c ≤ 19)) else if fld s h 0 = 6 then q && !bt (fld s h 5) f else p := by
    unfold letB
    rw [if_neg hne, hp, hq]
  rw [hlet]
  have e1 : ∀ a b : Nat, a < 7 → b < 7 → (nI a = nI b ↔ a = b) := fun a b ha hb => nI_eq (by omega) (by omega)
  clear hlet hp hq
  iterate 2 refine ab_s rfl ?_
  refine ab_k (y := 0) rfl rfl ?_
  refine ab_cv rfl rfl rfl hm rfl rfl (m_its M h 0 hh (by omega) rfl rfl) ?_
  match k, hk7, hk with
  | 0, _, hk =>
      rw [hk]
      rw [if_neg (by decide), if_neg (by decide), if_neg (by decide), if_neg (by decide), if_neg (by decide), if_neg (by decide)]
      skip
      refine ab_swd rfl (by decide) rfl ?_
      refine ab_s rfl ?_
      exact ab_rz rfl rfl (by simp_all)
  | 1, _, hk =>
      rw [hk]
      rw [if_pos (by decide)]
      skip
      refine ab_sw rfl (by decide) rfl rfl ?_
      refine ab_s rfl ?_
      exact ab_rz rfl rfl (by simp_all)
  | 2, _, hk =>
      rw [hk]
      rw [if_neg (by decide), if_pos (by decide)]
      skip
      refine ab_sw rfl (by decide) rfl rfl ?_
      iterate 3 refine ab_s rfl ?_
      refine ab_cv rfl rfl rfl hm rfl rfl (m_isHour M h hh c) ?_
      exact ab_rz rfl rfl (by simp_all)
  | 3, _, hk =>
      rw [hk]
      rw [if_neg (by decide), if_neg (by decide), if_pos (by decide)]
      skip
      refine ab_sw rfl (by decide) rfl rfl ?_
      refine ab_k (y := 1) rfl rfl ?_
      exact ab_ri rfl (by first | (rw [h131, Bool.true_and, h145]; rfl) | simp_all [z01])
  | 4, _, hk =>
      rw [hk]
      rw [if_neg (by decide), if_neg (by decide), if_neg (by decide), if_pos (by decide)]
      skip
      refine ab_sw rfl (by decide) rfl rfl ?_
      refine ab_s rfl ?_
      refine z1_ne rfl rfl (fun h114 => ?_) (fun h114 => ?_)
      · refine ab_k (y := 1) rfl rfl ?_
        refine ab_s rfl ?_
        exact ab_ri rfl (by first | (rw [h131, Bool.true_and, h145]; rfl) | simp_all [z01])
      · refine ab_s rfl ?_
        refine ab_k (y := 12) rfl rfl ?_
        refine j2_ne rfl rfl (fun h120 => ?_) (fun h120 => ?_)
        · refine ab_k (y := 0) rfl rfl ?_
          exact ab_ri rfl (by first | (rw [h131, Bool.true_and, h145]; rfl) | simp_all [z01])
        · refine ab_k (y := 1) rfl rfl ?_
          refine ab_s rfl ?_
          exact ab_ri rfl (by first | (rw [h131, Bool.true_and, h145]; rfl) | simp_all [z01])
  | 5, _, hk =>
      rw [hk]
      rw [if_neg (by decide), if_neg (by decide), if_neg (by decide), if_neg (by decide), if_pos (by decide)]
      skip
      refine ab_sw rfl (by decide) rfl rfl ?_
      refine ab_s rfl ?_
      refine z1_eq rfl rfl (fun h131 => ?_) (fun h131 => ?_)
      · refine ab_k (y := 0) rfl rfl ?_
        exact ab_ri rfl (by first | (rw [h131, Bool.true_and, h145]; rfl) | simp_all [z01])
      · iterate 4 refine ab_s rfl ?_
        refine ab_c rfl (m_in) ?_
        refine ab_t (congrArg z01 (congr (congrArg and (lle 7 c)) (lle c 19))) ?_
        refine z1_eq rfl rfl (fun h145 => ?_) (fun h145 => ?_)
        · refine ab_k (y := 0) rfl rfl ?_
          exact ab_ri rfl (by first | (rw [h131, Bool.true_and, h145]; rfl) | simp_all [z01])
        · refine ab_k (y := 1) rfl rfl ?_
          refine ab_s rfl ?_
          exact ab_ri rfl (by first | (rw [h131, Bool.true_and, h145]; rfl) | simp_all [z01])
  | 6, _, hk =>
      rw [hk]
      rw [if_neg (by decide), if_neg (by decide), if_neg (by decide), if_neg (by decide), if_neg (by decide), if_pos (by decide)]
      skip
      refine ab_sw rfl (by decide) rfl rfl ?_
      refine ab_s rfl ?_
      refine z1_eq rfl rfl (fun h156 => ?_) (fun h156 => ?_)
      · refine ab_k (y := 0) rfl rfl ?_
        exact ab_ri rfl (by first | (rw [h131, Bool.true_and, h145]; rfl) | simp_all [z01])
      · iterate 2 refine ab_s rfl ?_
        refine ab_k (y := 5) rfl rfl ?_
        refine ab_cv rfl rfl rfl hm rfl rfl (m_its M h 5 hh (by omega) rfl rfl) ?_
        refine ab_s rfl ?_
        refine ab_c rfl (m_has f (by omega)) ?_
        refine z1_ne rfl rfl (fun h169 => ?_) (fun h169 => ?_)
        · refine ab_k (y := 0) rfl rfl ?_
          exact ab_ri rfl (by first | (rw [h131, Bool.true_and, h145]; rfl) | simp_all [z01])
        · refine ab_k (y := 1) rfl rfl ?_
          refine ab_s rfl ?_
          exact ab_ri rfl (by first | (rw [h131, Bool.true_and, h145]; rfl) | simp_all [z01])
set_option maxRecDepth 100000 in
set_option maxHeartbeats 4000000 in
theorem m_isLetting (M : MS w s n) (I : SI s n) (h f : Nat) (hh : h < n) (hf : f < 8) (c : Int32) : ab_M X kX6_isLetting [.ref 54, .int (nI h), .int (nI f), .int c] w (some (.int (z01 (letB s h f c)))) w := by
  obtain ⟨vs, hm, -⟩ := id M
  have hn : n ≤ 8 := M.choose_spec.2.2.2.2.2
  have hh8 : h < 8 := by omega
  show ab_G X kX6_isLetting 0 [some (.ref 54), some (.int (nI h)), some (.int (nI f)), some (.int c), none, none] [] w _ _
  iterate 2 refine ab_s rfl ?_
  refine ab_k (y := 2) rfl rfl ?_
  refine ab_cv rfl rfl rfl hm rfl rfl (m_its M h 2 hh8 (by omega) rfl rfl) ?_
  refine ab_s rfl ?_
  refine ab_c rfl (m_has f (by omega)) ?_
  refine z1_eq rfl rfl (fun h10 => ?_) (fun h10 => ?_)
  · refine ab_k (y := 0) rfl rfl ?_
    iterate 3 refine ab_s rfl ?_
    refine ab_k (y := 0) rfl rfl ?_
    iterate 3 refine ab_s rfl ?_
    refine j2_ne rfl rfl (fun h49 => ?_) (fun h49 => ?_)
    · exact m_letK M I h f hh hf (fun q => h49 (by rw [q])) c [] false false (by simp_all [plainB]) (by simp_all [plainB])
    · refine ab_k (y := 1) rfl rfl ?_
      exact ab_ri rfl (by rw [show letB s h f c = true by unfold letB; rw [if_pos ((nI_eq (by omega) (by omega)).mp h49)]]; rfl)
  · iterate 3 refine ab_s rfl ?_
    refine ab_cv rfl rfl rfl hm rfl rfl (m_isHour M h hh8 c) ?_
    refine z1_eq rfl rfl (fun h19 => ?_) (fun h19 => ?_)
    · refine ab_k (y := 0) rfl rfl ?_
      iterate 3 refine ab_s rfl ?_
      refine ab_k (y := 0) rfl rfl ?_
      iterate 3 refine ab_s rfl ?_
      refine j2_ne rfl rfl (fun h49 => ?_) (fun h49 => ?_)
      · exact m_letK M I h f hh hf (fun q => h49 (by rw [q])) c [] false false (by simp_all [plainB]) (by simp_all [plainB])
      · refine ab_k (y := 1) rfl rfl ?_
        exact ab_ri rfl (by rw [show letB s h f c = true by unfold letB; rw [if_pos ((nI_eq (by omega) (by omega)).mp h49)]]; rfl)
    · refine ab_k (y := 1) rfl rfl ?_
      iterate 5 refine ab_s rfl ?_
      refine ab_k (y := 20) rfl rfl ?_
      refine j2_ge rfl rfl (fun h37 => ?_) (fun h37 => ?_)
      · refine ab_k (y := 0) rfl rfl ?_
        iterate 3 refine ab_s rfl ?_
        refine j2_ne rfl rfl (fun h49 => ?_) (fun h49 => ?_)
        · exact m_letK M I h f hh hf (fun q => h49 (by rw [q])) c [] true false (by simp_all [plainB]) (by simp_all [plainB])
        · refine ab_k (y := 1) rfl rfl ?_
          exact ab_ri rfl (by rw [show letB s h f c = true by unfold letB; rw [if_pos ((nI_eq (by omega) (by omega)).mp h49)]]; rfl)
      · refine ab_k (y := 1) rfl rfl ?_
        iterate 4 refine ab_s rfl ?_
        refine j2_ne rfl rfl (fun h49 => ?_) (fun h49 => ?_)
        · exact m_letK M I h f hh hf (fun q => h49 (by rw [q])) c [] true true (by simp_all [plainB]) (by simp_all [plainB])
        · refine ab_k (y := 1) rfl rfl ?_
          exact ab_ri rfl (by rw [show letB s h f c = true by unfold letB; rw [if_pos ((nI_eq (by omega) (by omega)).mp h49)]]; rfl)
end M2
end
section
/-! ROWS for calls that change the world: ab_H says what holds at the end; loops -/
def ab_H (X : List Int32) (k pc : Nat) (ls : List (Option Value)) (st : List Value) (w : ab_W) (Q : Option Value → ab_W → Prop) : Prop := ∃ v w', ab_G X k pc ls st w v w' ∧ Q v w'
def ab_Q (X : List Int32) (k : Nat) (as : List Value) (w : ab_W) (Q : Option Value → ab_W → Prop) : Prop := ab_H X k 0 (ab_ent (iL (ab_mi k)) as) [] w Q
section RH
variable {X : List Int32} {k k' pc pc' n : Nat} {ls ls' : List (Option Value)} {st st' as : List Value} {w w' w1 w2 : ab_W} {v v1 : Option Value} {Q Q1 : Option Value → ab_W → Prop}
theorem h_s (h : ab_stp X (ab_mi k) pc ls st w = some (.inl (pc', ls', st', w'))) (t : ab_H X k pc' ls' st' w' Q) : ab_H X k pc ls st w Q := by
  obtain ⟨v, w2, h1, h2⟩ := t
  exact ⟨v, w2, ab_s h h1, h2⟩
theorem h_r (h : ab_stp X (ab_mi k) pc ls st w = some (.inr (.inl (v, w2)))) (q : Q v w2) : ab_H X k pc ls st w Q := ⟨v, w2, ab_r h, q⟩
theorem h_c (h : ab_stp X (ab_mi k) pc ls st w = some (.inr (.inr (k', as, (pc', ls', st', w'))))) (a : ab_M X k' as w' v1 w1) (t : ab_H X k pc' ls' (v1.toList ++ st') w1 Q) : ab_H X k pc ls st w Q := by
  obtain ⟨v, w2, h1, h2⟩ := t
  exact ⟨v, w2, ab_c h a h1, h2⟩
theorem hq_c (h : ab_stp X (ab_mi k) pc ls st w = some (.inr (.inr (k', as, (pc', ls', st', w'))))) (a : ab_Q X k' as w' Q1) (t : ∀ v1 w1, Q1 v1 w1 → ab_H X k pc' ls' (v1.toList ++ st') w1 Q) : ab_H X k pc ls st w Q := by
  obtain ⟨v1, w1, h1, h2⟩ := a
  exact h_c h h1 (t v1 w1 h2)
theorem hq_of (a : ab_M X k as w v w2) (q : Q v w2) : ab_Q X k as w Q := ⟨v, w2, a, q⟩
theorem hq_m (a : ab_Q X k as w Q1) (q : ∀ v w2, Q1 v w2 → Q v w2) : ab_Q X k as w Q := by
  obtain ⟨v, w2, h1, h2⟩ := a
  exact ⟨v, w2, h1, q v w2 h2⟩
theorem h_gf {ix ci fi pl r : Nat} {nest : Bool} {vs : List Value} {u : Value} (h : ab_lk (it_ (ab_mi k)) pc = some (.getfield ix, n)) (hl : ab_lk (ab_fl (ic (ab_mi k))) ix = some (ci, fi, nest, pl)) (hc : (Nat.beq ci ci && Nat.blt ci 7) = true) (hw : w[r]? = some (.inl (ci, vs))) (hv : vs[fi]? = some u)
    (t : ab_H X k (pc + 3) ls (u :: st) w Q) : ab_H X k pc ls (.ref r :: st) w Q := by
  obtain ⟨v, w2, h1, h2⟩ := t
  exact ⟨v, w2, ab_gf h hl hc hw hv h1, h2⟩
theorem h_ia {r : Nat} {xs : List Int32} {i : Int32} (j : Nat) (h : ab_lk (it_ (ab_mi k)) pc = some (.iaload, n)) (hw : w[r]? = some (.inr xs)) (hm : xs.length < 2 ^ 31) (hi : i = nI j) (hj : j < xs.length)
    (t : ab_H X k (pc + 1) ls (.int (xs.getD j 0) :: st) w Q) : ab_H X k pc ls (.int i :: .ref r :: st) w Q := by
  obtain ⟨v, w2, h1, h2⟩ := t
  exact ⟨v, w2, ab_ia j h hw hm hi hj h1, h2⟩
theorem h_ix {q : Nat} {xs : List Int32} {i : Int32} (j : Nat) (h : ab_lk (it_ (ab_mi k)) pc = some (.iaload, n)) (hw : ab_xi X q = some xs) (hm : xs.length < 2 ^ 31) (hi : i = nI j) (hj : j < xs.length)
    (t : ab_H X k (pc + 1) ls (.int (xs.getD j 0) :: st) w Q) : ab_H X k pc ls (.int i :: .retAddr q :: st) w Q := by
  obtain ⟨v, w2, h1, h2⟩ := t
  exact ⟨v, w2, ab_ix j h hw hm hi hj h1, h2⟩
theorem h_al {r : Nat} {xs : List Int32} {x : Int32} (h : ab_lk (it_ (ab_mi k)) pc = some (.arraylength, n)) (hw : w[r]? = some (.inr xs)) (hx : nI xs.length = x)
    (t : ab_H X k (pc + 1) ls (.int x :: st) w Q) : ab_H X k pc ls (.ref r :: st) w Q := by
  obtain ⟨v, w2, h1, h2⟩ := t
  exact ⟨v, w2, ab_al h hw hx h1, h2⟩
theorem h_alq {r q : Nat} {xs : List Value} {x : Int32} (h : ab_lk (it_ (ab_mi k)) pc = some (.arraylength, n)) (hw : w[r]? = some (.inl (q, xs))) (hq : (Nat.beq q 7 || Nat.beq q 8) = true) (hx : nI xs.length = x)
    (t : ab_H X k (pc + 1) ls (.int x :: st) w Q) : ab_H X k pc ls (.ref r :: st) w Q := by
  obtain ⟨v, w2, h1, h2⟩ := t
  exact ⟨v, w2, ab_alq h hw hq hx h1, h2⟩
theorem h_aq {r q z : Nat} {xs : List Value} {i : Int32} (j : Nat) (h : ab_lk (it_ (ab_mi k)) pc = some (.aaload, n)) (hw : w[r]? = some (.inl (q, xs))) (hq : (Nat.beq q 7 || Nat.beq q 8) = true) (hm : xs.length < 2 ^ 31) (hi : i = nI j) (hj : xs[j]? = some (.ref z))
    (t : ab_H X k (pc + 1) ls (.ref z :: st) w Q) : ab_H X k pc ls (.int i :: .ref r :: st) w Q := by
  obtain ⟨v, w2, h1, h2⟩ := t
  exact ⟨v, w2, ab_aq j h hw hq hm hi hj h1, h2⟩
theorem wd_set {r : Nat} {c d : ab_E} (hw : w[r]? = some d) : (w.set r c)[r]? = some c := by
  have := (List.getElem?_eq_some_iff.mp hw).1
  rw [List.getElem?_set_self this]
theorem wd_ne {r i : Nat} {c : ab_E} (h : i ≠ r) : (w.set r c)[i]? = w[i]? := List.getElem?_set_ne (fun e => h e.symm)
/-- iastore: what the world is then -/
theorem h_is {r : Nat} {xs : List Int32} {i x : Int32} (j : Nat) (h : ab_lk (it_ (ab_mi k)) pc = some (.iastore, n)) (hw : w[r]? = some (.inr xs)) (hm : xs.length < 2 ^ 31) (hi : i = nI j) (hj : j < xs.length)
    (t : ∀ w1, w1[r]? = some (.inr (xs.set j x)) → (∀ i, i ≠ r → w1[i]? = w[i]?) → ab_H X k (pc + 1) ls st w1 Q) : ab_H X k pc ls (.int x :: .int i :: .ref r :: st) w Q := by
  obtain ⟨v, w2, h1, h2⟩ := t (w.set r (.inr (xs.set j x))) (wd_set hw) (fun i hi => wd_ne hi)
  exact ⟨v, w2, ab_is j h hw hm hi hj h1, h2⟩
theorem h_pf {ix ci fi pl r : Nat} {nest : Bool} {vs : List Value} {u : Value} (h : ab_lk (it_ (ab_mi k)) pc = some (.putfield ix, n)) (hl : ab_lk (ab_fl (ic (ab_mi k))) ix = some (ci, fi, nest, pl)) (hw : w[r]? = some (.inl (ci, vs))) (hc : (Nat.beq ci ci && Nat.blt ci 7 && Nat.blt fi vs.length && ab_fit (ab_cty ci fi) u && (!(ab_T ci fi).2.2.2 || ((iy (ab_mi k)).name == "<init>" && !nest && Nat.beq (ic (ab_mi k)) ci))) = true)
    (t : ∀ w1, w1[r]? = some (.inl (ci, vs.set fi u)) → (∀ i, i ≠ r → w1[i]? = w[i]?) → ab_H X k (pc + 3) ls st w1 Q) : ab_H X k pc ls (u :: .ref r :: st) w Q := by
  obtain ⟨v, w2, h1, h2⟩ := t (w.set r (.inl (ci, vs.set fi u))) (wd_set hw) (fun i hi => wd_ne hi)
  exact ⟨v, w2, ab_pf h hl hw hc h1, h2⟩
/-- branches -/
theorem h_j1 {c : Jvm.ClassFile.Cond} {off : Int} {x : Int32} {t : Nat} (h : ab_lk (it_ (ab_mi k)) pc = some (.ifCond c off, n)) (ht : ab_tg pc off = some t) (kt : ab_cmp c x 0 = true → ab_H X k t ls st w Q) (kf : ab_cmp c x 0 = false → ab_H X k (pc + 3) ls st w Q) : ab_H X k pc ls (.int x :: st) w Q := by
  cases hb : ab_cmp c x 0 with
  | true =>
    obtain ⟨v, w2, h1, h2⟩ := kt hb
    exact ⟨v, w2, ab_j1 h ht (fun _ => h1) (fun e => by rw [hb] at e; cases e), h2⟩
  | false =>
    obtain ⟨v, w2, h1, h2⟩ := kf hb
    exact ⟨v, w2, ab_j1 h ht (fun e => by rw [hb] at e; cases e) (fun _ => h1), h2⟩
theorem h_j2 {c : Jvm.ClassFile.Cond} {off : Int} {x y : Int32} {t : Nat} (h : ab_lk (it_ (ab_mi k)) pc = some (.if_icmp c off, n)) (ht : ab_tg pc off = some t) (kt : ab_cmp c x y = true → ab_H X k t ls st w Q) (kf : ab_cmp c x y = false → ab_H X k (pc + 3) ls st w Q) : ab_H X k pc ls (.int y :: .int x :: st) w Q := by
  cases hb : ab_cmp c x y with
  | true =>
    obtain ⟨v, w2, h1, h2⟩ := kt hb
    exact ⟨v, w2, ab_j2 h ht (fun _ => h1) (fun e => by rw [hb] at e; cases e), h2⟩
  | false =>
    obtain ⟨v, w2, h1, h2⟩ := kf hb
    exact ⟨v, w2, ab_j2 h ht (fun e => by rw [hb] at e; cases e) (fun _ => h1), h2⟩
theorem h1_eq {off : Int} {x : Int32} {t : Nat} (h : ab_lk (it_ (ab_mi k)) pc = some (.ifCond .eq off, n)) (ht : ab_tg pc off = some t) (kt : x = 0 → ab_H X k t ls st w Q) (kf : ¬ x = 0 → ab_H X k (pc + 3) ls st w Q) : ab_H X k pc ls (.int x :: st) w Q :=
  h_j1 h ht (fun e => kt (of_decide_eq_true e)) (fun e => kf (of_decide_eq_false e))
theorem h2_eq {off : Int} {x y : Int32} {t : Nat} (h : ab_lk (it_ (ab_mi k)) pc = some (.if_icmp .eq off, n)) (ht : ab_tg pc off = some t) (kt : x = y → ab_H X k t ls st w Q) (kf : ¬ x = y → ab_H X k (pc + 3) ls st w Q) : ab_H X k pc ls (.int y :: .int x :: st) w Q :=
  h_j2 h ht (fun e => kt (of_decide_eq_true e)) (fun e => kf (of_decide_eq_false e))
theorem h1_ne {off : Int} {x : Int32} {t : Nat} (h : ab_lk (it_ (ab_mi k)) pc = some (.ifCond .ne off, n)) (ht : ab_tg pc off = some t) (kt : ¬ x = 0 → ab_H X k t ls st w Q) (kf : x = 0 → ab_H X k (pc + 3) ls st w Q) : ab_H X k pc ls (.int x :: st) w Q :=
  h_j1 h ht (fun e => kt (of_decide_eq_false (by simpa [ab_cmp] using e))) (fun e => kf (of_decide_eq_true (by simpa [ab_cmp] using e)))
theorem h2_ne {off : Int} {x y : Int32} {t : Nat} (h : ab_lk (it_ (ab_mi k)) pc = some (.if_icmp .ne off, n)) (ht : ab_tg pc off = some t) (kt : ¬ x = y → ab_H X k t ls st w Q) (kf : x = y → ab_H X k (pc + 3) ls st w Q) : ab_H X k pc ls (.int y :: .int x :: st) w Q :=
  h_j2 h ht (fun e => kt (of_decide_eq_false (by simpa [ab_cmp] using e))) (fun e => kf (of_decide_eq_true (by simpa [ab_cmp] using e)))
theorem h1_lt {off : Int} {x : Int32} {t : Nat} (h : ab_lk (it_ (ab_mi k)) pc = some (.ifCond .lt off, n)) (ht : ab_tg pc off = some t) (kt : x < 0 → ab_H X k t ls st w Q) (kf : ¬ x < 0 → ab_H X k (pc + 3) ls st w Q) : ab_H X k pc ls (.int x :: st) w Q :=
  h_j1 h ht (fun e => kt (of_decide_eq_true e)) (fun e => kf (of_decide_eq_false e))
theorem h2_lt {off : Int} {x y : Int32} {t : Nat} (h : ab_lk (it_ (ab_mi k)) pc = some (.if_icmp .lt off, n)) (ht : ab_tg pc off = some t) (kt : x < y → ab_H X k t ls st w Q) (kf : ¬ x < y → ab_H X k (pc + 3) ls st w Q) : ab_H X k pc ls (.int y :: .int x :: st) w Q :=
  h_j2 h ht (fun e => kt (of_decide_eq_true e)) (fun e => kf (of_decide_eq_false e))
theorem h1_ge {off : Int} {x : Int32} {t : Nat} (h : ab_lk (it_ (ab_mi k)) pc = some (.ifCond .ge off, n)) (ht : ab_tg pc off = some t) (kt : 0 ≤ x → ab_H X k t ls st w Q) (kf : ¬ 0 ≤ x → ab_H X k (pc + 3) ls st w Q) : ab_H X k pc ls (.int x :: st) w Q :=
  h_j1 h ht (fun e => kt (of_decide_eq_true e)) (fun e => kf (of_decide_eq_false e))
theorem h2_ge {off : Int} {x y : Int32} {t : Nat} (h : ab_lk (it_ (ab_mi k)) pc = some (.if_icmp .ge off, n)) (ht : ab_tg pc off = some t) (kt : y ≤ x → ab_H X k t ls st w Q) (kf : ¬ y ≤ x → ab_H X k (pc + 3) ls st w Q) : ab_H X k pc ls (.int y :: .int x :: st) w Q :=
  h_j2 h ht (fun e => kt (of_decide_eq_true e)) (fun e => kf (of_decide_eq_false e))
theorem h1_gt {off : Int} {x : Int32} {t : Nat} (h : ab_lk (it_ (ab_mi k)) pc = some (.ifCond .gt off, n)) (ht : ab_tg pc off = some t) (kt : 0 < x → ab_H X k t ls st w Q) (kf : ¬ 0 < x → ab_H X k (pc + 3) ls st w Q) : ab_H X k pc ls (.int x :: st) w Q :=
  h_j1 h ht (fun e => kt (of_decide_eq_true e)) (fun e => kf (of_decide_eq_false e))
theorem h2_gt {off : Int} {x y : Int32} {t : Nat} (h : ab_lk (it_ (ab_mi k)) pc = some (.if_icmp .gt off, n)) (ht : ab_tg pc off = some t) (kt : y < x → ab_H X k t ls st w Q) (kf : ¬ y < x → ab_H X k (pc + 3) ls st w Q) : ab_H X k pc ls (.int y :: .int x :: st) w Q :=
  h_j2 h ht (fun e => kt (of_decide_eq_true e)) (fun e => kf (of_decide_eq_false e))
theorem h1_le {off : Int} {x : Int32} {t : Nat} (h : ab_lk (it_ (ab_mi k)) pc = some (.ifCond .le off, n)) (ht : ab_tg pc off = some t) (kt : x ≤ 0 → ab_H X k t ls st w Q) (kf : ¬ x ≤ 0 → ab_H X k (pc + 3) ls st w Q) : ab_H X k pc ls (.int x :: st) w Q :=
  h_j1 h ht (fun e => kt (of_decide_eq_true e)) (fun e => kf (of_decide_eq_false e))
theorem h2_le {off : Int} {x y : Int32} {t : Nat} (h : ab_lk (it_ (ab_mi k)) pc = some (.if_icmp .le off, n)) (ht : ab_tg pc off = some t) (kt : x ≤ y → ab_H X k t ls st w Q) (kf : ¬ x ≤ y → ab_H X k (pc + 3) ls st w Q) : ab_H X k pc ls (.int y :: .int x :: st) w Q :=
  h_j2 h ht (fun e => kt (of_decide_eq_true e)) (fun e => kf (of_decide_eq_false e))
theorem hz_eq {off : Int} {b : Bool} {t : Nat} (h : ab_lk (it_ (ab_mi k)) pc = some (.ifCond .eq off, n)) (ht : ab_tg pc off = some t) (kt : b = false → ab_H X k t ls st w Q) (kf : b = true → ab_H X k (pc + 3) ls st w Q) : ab_H X k pc ls (.int (z01 b) :: st) w Q :=
  h1_eq h ht (fun e => kt (z01_0 e)) (fun e => kf (z01_n0 e))
theorem hz_ne {off : Int} {b : Bool} {t : Nat} (h : ab_lk (it_ (ab_mi k)) pc = some (.ifCond .ne off, n)) (ht : ab_tg pc off = some t) (kt : b = true → ab_H X k t ls st w Q) (kf : b = false → ab_H X k (pc + 3) ls st w Q) : ab_H X k pc ls (.int (z01 b) :: st) w Q :=
  h1_ne h ht (fun e => kt (z01_n0 e)) (fun e => kf (z01_0 e))
theorem h_k {x y : Int32} {pc' : Nat} (h : ab_stp X (ab_mi k) pc ls st w = some (.inl (pc', ls, .int x :: st, w))) (e : x = y) (t : ab_H X k pc' ls (.int y :: st) w Q) : ab_H X k pc ls st w Q := h_s h (e ▸ t)
theorem h_t {x y : Int32} (e : x = y) (t : ab_H X k pc ls (.int y :: st) w Q) : ab_H X k pc ls (.int x :: st) w Q := e ▸ t
theorem h_ri {x y : Int32} {w' : ab_W} (h : ab_stp X (ab_mi k) pc ls [.int x] w = some (.inr (.inl (some (.int x), w')))) (e : x = y) (q : Q (some (.int y)) w') : ab_H X k pc ls [.int x] w Q := by
  subst e
  exact h_r h q
theorem h_rz {b : Bool} (h : ab_lk (it_ (ab_mi k)) pc = some (.ireturn, n)) (hr : ir (ab_mi k) = some .boolean) (q : Q (some (.int (z01 b))) w) : ab_H X k pc ls [.int (z01 b)] w Q := ⟨_, _, ab_rz h hr rfl, q⟩
theorem h_ii {i j : Nat} {x : Int32} (h : ab_lk (it_ (ab_mi k)) pc = some (.iinc i 1, n)) (hl : ls[i]? = some (some (.int x))) (hx : x = nI j) (t : ab_H X k (pc + 3) (ls.set i (some (.int (nI (j + 1))))) st w Q) : ab_H X k pc ls st w Q := by
  obtain ⟨v, w2, h1, h2⟩ := t
  exact ⟨v, w2, ab_ii h hl hx h1, h2⟩
theorem h_sw {d lo hi : Int} {offs : Array Int} {x : Int32} {off : Int} {t : Nat} (h : ab_lk (it_ (ab_mi k)) pc = some (.tableswitch d lo hi offs, n)) (hx : (decide (x.toInt < lo) || decide (hi < x.toInt)) = false) (ho : offs.toList[(x.toInt - lo).toNat]? = some off) (ht : ab_tg pc off = some t) (kk : ab_H X k t ls st w Q) : ab_H X k pc ls (.int x :: st) w Q := by
  obtain ⟨v, w2, h1, h2⟩ := kk
  exact ⟨v, w2, ab_sw h hx ho ht h1, h2⟩
theorem h_swd {d lo hi : Int} {offs : Array Int} {x : Int32} {t : Nat} (h : ab_lk (it_ (ab_mi k)) pc = some (.tableswitch d lo hi offs, n)) (hx : (decide (x.toInt < lo) || decide (hi < x.toInt)) = true) (ht : ab_tg pc d = some t) (kk : ab_H X k t ls st w Q) : ab_H X k pc ls (.int x :: st) w Q := by
  obtain ⟨v, w2, h1, h2⟩ := kk
  exact ⟨v, w2, ab_swd h hx ht h1, h2⟩
theorem hq_v {ix k' r ci pl : Nat} {nest : Bool} {vs as : List Value} (h : ab_lk (it_ (ab_mi k)) pc = some (.invokevirtual ix, n)) (hl : ab_lk (ab_me (ic (ab_mi k))) ix = some (k', nest, pl)) (hr : (st.take (in_ (ab_mi k'))).reverse = .ref r :: as) (hw : w[r]? = some (.inl (ci, vs)))
    (hc : (Nat.ble (in_ (ab_mi k')) st.length && Nat.blt (ih_ (ab_mi k')) (ih_ (ab_mi k)) && Nat.ble (iL (ab_mi k')) 13 && decide (((st.drop (in_ (ab_mi k'))).map Value.category).sum ≤ 8) && decide ((lg_sl (st.take (in_ (ab_mi k'))).reverse).length ≤ iL (ab_mi k'))) = true)
    (hcc : (Nat.beq ci (ic (ab_mi k')) && Nat.blt ci 7 && !is_ (ab_mi k') && !((iy (ab_mi k')).name == "<init>")) = true)
    (a : ab_Q X k' (.ref r :: as) w Q1) (t : ∀ v1 w1, Q1 v1 w1 → ab_H X k (pc + 3) ls (v1.toList ++ st.drop (in_ (ab_mi k'))) w1 Q) : ab_H X k pc ls st w Q := by
  obtain ⟨v1, w1, h1, h2⟩ := a
  obtain ⟨v, w2, h3, h4⟩ := t v1 w1 h2
  exact ⟨v, w2, ab_cv h hl hr hw hc hcc h1 h3, h4⟩
theorem h_cv {ix k' r ci pl : Nat} {nest : Bool} {vs as : List Value} (h : ab_lk (it_ (ab_mi k)) pc = some (.invokevirtual ix, n)) (hl : ab_lk (ab_me (ic (ab_mi k))) ix = some (k', nest, pl)) (hr : (st.take (in_ (ab_mi k'))).reverse = .ref r :: as) (hw : w[r]? = some (.inl (ci, vs)))
    (hc : (Nat.ble (in_ (ab_mi k')) st.length && Nat.blt (ih_ (ab_mi k')) (ih_ (ab_mi k)) && Nat.ble (iL (ab_mi k')) 13 && decide (((st.drop (in_ (ab_mi k'))).map Value.category).sum ≤ 8) && decide ((lg_sl (st.take (in_ (ab_mi k'))).reverse).length ≤ iL (ab_mi k'))) = true)
    (hcc : (Nat.beq ci (ic (ab_mi k')) && Nat.blt ci 7 && !is_ (ab_mi k') && !((iy (ab_mi k')).name == "<init>")) = true)
    (a : ab_M X k' (.ref r :: as) w v1 w1) (t : ab_H X k (pc + 3) ls (v1.toList ++ st.drop (in_ (ab_mi k'))) w1 Q) : ab_H X k pc ls st w Q := by
  obtain ⟨v, w2, h3, h4⟩ := t
  exact ⟨v, w2, ab_cv h hl hr hw hc hcc a h3, h4⟩
/-- a loop that counts -/
theorem g_loop (N : Nat) (J : Nat → List (Option Value) → Prop) (step : ∀ i ls, i < N → J i ls → (∀ ls', J (i + 1) ls' → ab_G X k pc ls' st w v w2) → ab_G X k pc ls st w v w2) (ex : ∀ ls, J N ls → ab_G X k pc ls st w v w2) : ∀ d i ls, i + d = N → J i ls → ab_G X k pc ls st w v w2
  | 0, i, ls, h, hj => ex ls (by rw [← h]; exact hj)
  | d + 1, i, ls, h, hj => step i ls (by omega) hj (fun ls' hj' => g_loop N J step ex d (i + 1) ls' (by omega) hj')
theorem g_loop0 (N : Nat) (J : Nat → List (Option Value) → Prop) (h0 : J 0 ls) (step : ∀ i ls, i < N → J i ls → (∀ ls', J (i + 1) ls' → ab_G X k pc ls' st w v w2) → ab_G X k pc ls st w v w2) (ex : ∀ ls, J N ls → ab_G X k pc ls st w v w2) : ab_G X k pc ls st w v w2 :=
  g_loop N J step ex N 0 ls (by omega) h0
theorem h_loop (N : Nat) (J : Nat → List (Option Value) → ab_W → Prop) (step : ∀ i ls w, i < N → J i ls w → (∀ ls' w', J (i + 1) ls' w' → ab_H X k pc ls' st w' Q) → ab_H X k pc ls st w Q) (ex : ∀ ls w, J N ls w → ab_H X k pc ls st w Q) : ∀ d i ls w, i + d = N → J i ls w → ab_H X k pc ls st w Q
  | 0, i, ls, w, h, hj => ex ls w (by rw [← h]; exact hj)
  | d + 1, i, ls, w, h, hj => step i ls w (by omega) hj (fun ls' w' hj' => h_loop N J step ex d (i + 1) ls' w' (by omega) hj')
theorem h_loop0 (N : Nat) (J : Nat → List (Option Value) → ab_W → Prop) (h0 : J 0 ls w) (step : ∀ i ls w, i < N → J i ls w → (∀ ls' w', J (i + 1) ls' w' → ab_H X k pc ls' st w' Q) → ab_H X k pc ls st w Q) (ex : ∀ ls w, J N ls w → ab_H X k pc ls st w Q) : ab_H X k pc ls st w Q :=
  h_loop N J step ex N 0 ls w (by omega) h0
end RH
end
section
/-! THE REFERENCE: sets of houses and rooms, who stands by whom -/
def wakeV (s : List Int32) (h : Nat) (c : Int32) : Int32 := if fld s h 0 = 3 then 0 else if fld s h 0 = 5 then (if 21 < c ∨ c < 6 then fld s h 6 else 0) + 1 else (if 21 < c ∨ c < 6 then fld s h 6 else 0)
def dB (s : List Int32) (d : Nat) : Bool := decide (s.getD (66 + d) 0 = 1)
def gB (n i : Nat) : Bool := decide (i % 2 = 0) && decide (i / 2 < n)
def opB (s : List Int32) (n f : Nat) (c : Int32) (r : Nat) : Bool := decide (r / 2 < n) && letB s (r / 2) f c
/-- a stair of g joins r and q -/
def stB (s : List Int32) (n g r q : Nat) : Bool := (decide (r = 2 * g) && (decide (q % 2 = 1) && decide (q / 2 < n) && decide (fld s g 1 = nI (q / 2)))) || (decide (q = 2 * g) && (decide (r % 2 = 1) && decide (r / 2 < n) && decide (fld s g 1 = nI (r / 2))))
def adjB (s : List Int32) (n r q : Nat) : Bool := decide (r < 2 * n) && decide (q < 2 * n) && ((decide (q + 2 = r) && dB s q) || (decide (q = r + 2) && dB s r) || anyR (fun g => stB s n g r q) n)
theorem adjB_sym (s : List Int32) (n r q : Nat) : adjB s n r q = adjB s n q r := by
  have h : ∀ g, stB s n g r q = stB s n g q r := fun g => by unfold stB; rw [Bool.or_comm]
  unfold adjB
  rw [anyR_cong (fun g _ => h g), Bool.and_comm (decide (r < 2 * n))]
  have e : ∀ a b : Nat, decide (a = b + 2) = decide (b + 2 = a) := fun a b => decide_eq_decide.mpr ⟨fun h => h.symm, fun h => h.symm⟩
  rw [e q r, e r q]
  congr 1
  rw [Bool.or_comm (decide (q + 2 = r) && dB s q)]
theorem fld_l (s : List Int32) (h k : Nat) : fld s h k = s.getD (2 + 8 * h + k) 0 := rfl
section M3
variable {X : List Int32} {w : ab_W} {s : List Int32} {n : Nat}
set_option maxRecDepth 100000 in
set_option maxHeartbeats 4000000 in
theorem m_lettingSet (M : MS w s n) (I : SI s n) (f : Nat) (hf : f < 8) (c : Int32) : ab_M X kX6_lettingSet [.ref 54, .int (nI f), .int c] w (some (.int (bs (fun h => letB s h f c) n))) w := by
  obtain ⟨vs, hm, hv, hs, hl, h0, hn⟩ := id M
  show ab_G X kX6_lettingSet 0 [some (.ref 54), some (.int (nI f)), some (.int c), none, none] [] w _ _
  refine ab_k (y := 0) rfl rfl ?_
  refine ab_s rfl ?_
  refine ab_k (y := 0) rfl rfl ?_
  refine ab_s rfl ?_
  refine g_loop0 n (fun i ls => ls = [some (.ref 54), some (.int (nI f)), some (.int c), some (.int (bs (fun h => letB s h f c) i)), some (.int (nI i))]) rfl (fun i ls hi hJ ih => ?_) (fun ls hJ => ?_)
  · obtain rfl := hJ
    iterate 2 refine ab_s rfl ?_
    refine ab_gf rfl rfl rfl hm hv ?_
    refine ab_k (y := 0) rfl rfl ?_
    refine ab_ia 0 rfl hs (by omega) rfl (by omega) ?_
    refine ab_t h0 ?_
    refine j2_ge rfl rfl (fun h13 => absurd h13 (nI_ge hi (by omega))) (fun h13 => ?_)
    iterate 5 refine ab_s rfl ?_
    refine ab_cv rfl rfl rfl hm rfl rfl (m_isLetting M I i f hi hf c) ?_
    refine z1_eq rfl rfl (fun h25 => ?_) (fun h25 => ?_)
    · refine ab_k (y := 0) rfl rfl ?_
      iterate 2 refine ab_s rfl ?_
      refine ab_ii rfl rfl rfl ?_
      refine ab_s rfl ?_
      exact ih _ (by first | (rw [← bs_succ_t (p := (fun h => letB s h f c)) h25]; rfl) | (rw [← bs_succ_f0 (p := (fun h => letB s h f c)) h25]; rfl))
    · refine ab_k (y := 1) rfl rfl ?_
      iterate 5 refine ab_s rfl ?_
      refine ab_ii rfl rfl rfl ?_
      refine ab_s rfl ?_
      exact ih _ (by first | (rw [← bs_succ_t (p := (fun h => letB s h f c)) h25]; rfl) | (rw [← bs_succ_f0 (p := (fun h => letB s h f c)) h25]; rfl))
  · obtain rfl := hJ
    iterate 2 refine ab_s rfl ?_
    refine ab_gf rfl rfl rfl hm hv ?_
    refine ab_k (y := 0) rfl rfl ?_
    refine ab_ia 0 rfl hs (by omega) rfl (by omega) ?_
    refine ab_t h0 ?_
    refine j2_ge rfl rfl (fun h13 => ?_) (fun h13 => absurd (nI_le (Nat.le_refl _) (by omega)) h13)
    refine ab_s rfl ?_
    exact ab_ri rfl rfl
theorem bs_or3 {p q : Nat → Bool} {m j : Nat} (hm : m ≤ 32) (hj : j + 1 < m) (h : ∀ i, i < m → q i = (p i || (decide (i = j) || decide (i = j + 1)))) : bs p m ||| (3 : Int32) <<< (nI j &&& 31) = bs q m := by
  apply b_ext
  intro i hi
  rw [b_or, bt_bs _ _ _ hm hi, bt_bs _ _ _ hm hi, b_shl j (by omega) 3 hi]
  have h3 : bt 3 (i - j) = (decide (i - j = 0) || decide (i - j = 1)) := (by decide +kernel : ∀ i, i < 32 → bt 3 i = (decide (i = 0) || decide (i = 1))) (i - j) (by omega)
  rw [h3]
  have e : (decide (j ≤ i) && (decide (i - j = 0) || decide (i - j = 1))) = (decide (i = j) || decide (i = j + 1)) := by
    rw [Bool.eq_iff_iff]
    simp only [Bool.and_eq_true, Bool.or_eq_true, decide_eq_true_eq]
    omega
  rw [e]
  by_cases h1 : i < m
  · rw [h i h1]
    simp [h1]
  · have a1 : ¬ i = j := by omega
    have a2 : ¬ i = j + 1 := by omega
    simp [h1, a1, a2]
set_option maxRecDepth 100000 in
set_option maxHeartbeats 4000000 in
theorem m_wakes (M : MS w s n) (h : Nat) (hh : h < 8) (c : Int32) : ab_M X kX6_wakes [.ref 54, .int (nI h), .int c] w (some (.int (wakeV s h c))) w := by
  obtain ⟨vs, hm, hv, hs, hl, h0, hn⟩ := id M
  show ab_G X kX6_wakes 0 [some (.ref 54), some (.int (nI h)), some (.int c), none, none] [] w _ _
  iterate 2 refine ab_s rfl ?_
  refine ab_k (y := 0) rfl rfl ?_
  refine ab_cv rfl rfl rfl hm rfl rfl (m_its M h 0 hh (by omega) rfl rfl) ?_
  iterate 2 refine ab_s rfl ?_
  refine ab_k (y := 21) rfl rfl ?_
  refine j2_gt rfl rfl (fun h10 => ?_) (fun h10 => ?_)
  · iterate 2 refine ab_s rfl ?_
    refine ab_k (y := 6) rfl rfl ?_
    refine ab_cv rfl rfl rfl hm rfl rfl (m_its M h 6 hh (by omega) rfl rfl) ?_
    iterate 3 refine ab_s rfl ?_
    refine ab_k (y := 3) rfl rfl ?_
    refine j2_ne rfl rfl (fun h34 => ?_) (fun h34 => ?_)
    · refine ab_s rfl ?_
      refine ab_k (y := 5) rfl rfl ?_
      refine j2_ne rfl rfl (fun h43 => ?_) (fun h43 => ?_)
      · refine ab_s rfl ?_
        exact ab_ri rfl (by unfold wakeV; first | (rw [if_neg (show ¬ (21 < c ∨ c < 6) from fun q => q.elim h10 (fun q => by rw [lt_iff] at q; rw [le_iff] at h16; omega))]; simp_all) | simp_all)
      · refine ab_s rfl ?_
        refine ab_k (y := 1) rfl rfl ?_
        iterate 2 refine ab_s rfl ?_
        exact ab_ri rfl (by unfold wakeV; first | (rw [if_neg (show ¬ (21 < c ∨ c < 6) from fun q => q.elim h10 (fun q => by rw [lt_iff] at q; rw [le_iff] at h16; omega))]; simp_all) | simp_all)
    · refine ab_k (y := 0) rfl rfl ?_
      refine ab_s rfl ?_
      exact ab_ri rfl (by unfold wakeV; first | (rw [if_neg (show ¬ (21 < c ∨ c < 6) from fun q => q.elim h10 (fun q => by rw [lt_iff] at q; rw [le_iff] at h16; omega))]; simp_all) | simp_all)
  · refine ab_s rfl ?_
    refine ab_k (y := 6) rfl rfl ?_
    refine j2_ge rfl rfl (fun h16 => ?_) (fun h16 => ?_)
    · refine ab_k (y := 0) rfl rfl ?_
      iterate 2 refine ab_s rfl ?_
      refine ab_k (y := 3) rfl rfl ?_
      refine j2_ne rfl rfl (fun h34 => ?_) (fun h34 => ?_)
      · refine ab_s rfl ?_
        refine ab_k (y := 5) rfl rfl ?_
        refine j2_ne rfl rfl (fun h43 => ?_) (fun h43 => ?_)
        · refine ab_s rfl ?_
          exact ab_ri rfl (by unfold wakeV; first | (rw [if_neg (show ¬ (21 < c ∨ c < 6) from fun q => q.elim h10 (fun q => by rw [lt_iff] at q; rw [le_iff] at h16; omega))]; simp_all) | simp_all)
        · refine ab_s rfl ?_
          refine ab_k (y := 1) rfl rfl ?_
          iterate 2 refine ab_s rfl ?_
          exact ab_ri rfl (by unfold wakeV; first | (rw [if_neg (show ¬ (21 < c ∨ c < 6) from fun q => q.elim h10 (fun q => by rw [lt_iff] at q; rw [le_iff] at h16; omega))]; simp_all) | simp_all)
      · refine ab_k (y := 0) rfl rfl ?_
        refine ab_s rfl ?_
        exact ab_ri rfl (by unfold wakeV; first | (rw [if_neg (show ¬ (21 < c ∨ c < 6) from fun q => q.elim h10 (fun q => by rw [lt_iff] at q; rw [le_iff] at h16; omega))]; simp_all) | simp_all)
    · iterate 2 refine ab_s rfl ?_
      refine ab_k (y := 6) rfl rfl ?_
      refine ab_cv rfl rfl rfl hm rfl rfl (m_its M h 6 hh (by omega) rfl rfl) ?_
      iterate 3 refine ab_s rfl ?_
      refine ab_k (y := 3) rfl rfl ?_
      refine j2_ne rfl rfl (fun h34 => ?_) (fun h34 => ?_)
      · refine ab_s rfl ?_
        refine ab_k (y := 5) rfl rfl ?_
        refine j2_ne rfl rfl (fun h43 => ?_) (fun h43 => ?_)
        · refine ab_s rfl ?_
          exact ab_ri rfl (by unfold wakeV; first | (rw [if_neg (show ¬ (21 < c ∨ c < 6) from fun q => q.elim h10 (fun q => by rw [lt_iff] at q; rw [le_iff] at h16; omega))]; simp_all) | simp_all)
        · refine ab_s rfl ?_
          refine ab_k (y := 1) rfl rfl ?_
          iterate 2 refine ab_s rfl ?_
          exact ab_ri rfl (by unfold wakeV; first | (rw [if_neg (show ¬ (21 < c ∨ c < 6) from fun q => q.elim h10 (fun q => by rw [lt_iff] at q; rw [le_iff] at h16; omega))]; simp_all) | simp_all)
      · refine ab_k (y := 0) rfl rfl ?_
        refine ab_s rfl ?_
        exact ab_ri rfl (by unfold wakeV; first | (rw [if_neg (show ¬ (21 < c ∨ c < 6) from fun q => q.elim h10 (fun q => by rw [lt_iff] at q; rw [le_iff] at h16; omega))]; simp_all) | simp_all)
set_option maxRecDepth 100000 in
set_option maxHeartbeats 4000000 in
theorem m_grounds (M : MS w s n)  : ab_M X kX6_grounds [.ref 54] w (some (.int (bs (gB n) 16))) w := by
  obtain ⟨vs, hm, hv, hs, hl, h0, hn⟩ := id M
  show ab_G X kX6_grounds 0 [some (.ref 54), none, none] [] w _ _
  refine ab_k (y := 0) rfl rfl ?_
  refine ab_s rfl ?_
  refine ab_k (y := 0) rfl rfl ?_
  refine ab_s rfl ?_
  refine g_loop0 n (fun i ls => ls = [some (.ref 54), some (.int (bs (gB i) 16)), some (.int (nI i))]) rfl (fun i ls hi hJ ih => ?_) (fun ls hJ => ?_)
  · obtain rfl := hJ
    iterate 2 refine ab_s rfl ?_
    refine ab_gf rfl rfl rfl hm hv ?_
    refine ab_k (y := 0) rfl rfl ?_
    refine ab_ia 0 rfl hs (by omega) rfl (by omega) ?_
    refine ab_t h0 ?_
    refine j2_ge rfl rfl (fun h11 => absurd h11 (nI_ge hi (by omega))) (fun h11 => ?_)
    refine ab_s rfl ?_
    refine ab_k (y := 1) rfl rfl ?_
    refine ab_k (y := 2) rfl rfl ?_
    refine ab_s rfl ?_
    refine ab_s rfl ?_
    refine ab_t (pk_mul 2 i) ?_
    iterate 3 refine ab_s rfl ?_
    refine ab_ii rfl rfl rfl ?_
    refine ab_s rfl ?_
    exact ih _ (by rw [← bs_or1 (p := gB i) (q := gB (i + 1)) (m := 16) (j := 2 * i) (by omega) (by omega) (fun r hr => by unfold gB; rw [Bool.eq_iff_iff]; simp only [Bool.and_eq_true, Bool.or_eq_true, decide_eq_true_eq]; omega)]; rfl)
  · obtain rfl := hJ
    iterate 2 refine ab_s rfl ?_
    refine ab_gf rfl rfl rfl hm hv ?_
    refine ab_k (y := 0) rfl rfl ?_
    refine ab_ia 0 rfl hs (by omega) rfl (by omega) ?_
    refine ab_t h0 ?_
    refine j2_ge rfl rfl (fun h11 => ?_) (fun h11 => absurd (nI_le (Nat.le_refl _) (by omega)) h11)
    refine ab_s rfl ?_
    exact ab_ri rfl rfl
theorem opB_t {i r : Nat} {f : Nat} {c : Int32} (h : letB s i f c = true) : opB s (i + 1) f c r = (opB s i f c r || (decide (r = 2 * i) || decide (r = 2 * i + 1))) := by
  unfold opB
  by_cases h1 : r / 2 = i
  · have : r = 2 * i ∨ r = 2 * i + 1 := by omega
    rw [h1, h]
    rcases this with e | e <;> simp [e]
  · have a1 : ¬ r = 2 * i := by omega
    have a2 : ¬ r = 2 * i + 1 := by omega
    have a3 : (r / 2 < i + 1) = (r / 2 < i) := propext ⟨fun _ => by omega, fun _ => by omega⟩
    simp [a1, a2, a3]
theorem opB_f {i r : Nat} {f : Nat} {c : Int32} (h : letB s i f c = false) : opB s (i + 1) f c r = opB s i f c r := by
  unfold opB
  by_cases h1 : r / 2 = i
  · rw [h1, h]; simp
  · have a3 : (r / 2 < i + 1) = (r / 2 < i) := propext ⟨fun _ => by omega, fun _ => by omega⟩
    simp [a3]
set_option maxRecDepth 100000 in
set_option maxHeartbeats 4000000 in
theorem m_openRooms (M : MS w s n) (I : SI s n) (f : Nat) (hf : f < 8) (c : Int32) : ab_M X kX6_openRooms [.ref 54, .int (nI f), .int c] w (some (.int (bs (opB s n f c) 16))) w := by
  obtain ⟨vs, hm, hv, hs, hl, h0, hn⟩ := id M
  show ab_G X kX6_openRooms 0 [some (.ref 54), some (.int (nI f)), some (.int c), none, none] [] w _ _
  refine ab_k (y := 0) rfl rfl ?_
  refine ab_s rfl ?_
  refine ab_k (y := 0) rfl rfl ?_
  refine ab_s rfl ?_
  refine g_loop0 n (fun i ls => ls = [some (.ref 54), some (.int (nI f)), some (.int c), some (.int (bs (opB s i f c) 16)), some (.int (nI i))]) (by rw [show bs (opB s 0 f c) 16 = 0 from (bs_zero (by omega)).mpr (fun r _ => by simp [opB])]; rfl) (fun i ls hi hJ ih => ?_) (fun ls hJ => ?_)
  · obtain rfl := hJ
    iterate 2 refine ab_s rfl ?_
    refine ab_gf rfl rfl rfl hm hv ?_
    refine ab_k (y := 0) rfl rfl ?_
    refine ab_ia 0 rfl hs (by omega) rfl (by omega) ?_
    refine ab_t h0 ?_
    refine j2_ge rfl rfl (fun h13 => absurd h13 (nI_ge hi (by omega))) (fun h13 => ?_)
    iterate 5 refine ab_s rfl ?_
    refine ab_cv rfl rfl rfl hm rfl rfl (m_isLetting M I i f hi hf c) ?_
    refine z1_eq rfl rfl (fun h25 => ?_) (fun h25 => ?_)
    · refine ab_k (y := 0) rfl rfl ?_
      iterate 2 refine ab_s rfl ?_
      refine ab_ii rfl rfl rfl ?_
      refine ab_s rfl ?_
      exact ih _ (by first | (rw [← bs_or3 (p := opB s i f c) (q := opB s (i + 1) f c) (m := 16) (j := 2 * i) (by omega) (by omega) (fun r _ => opB_t h25)]; rfl) | (rw [bs_cong (p := opB s (i + 1) f c) (q := opB s i f c) (fun r _ => opB_f h25), or_0]; rfl))
    · refine ab_k (y := 3) rfl rfl ?_
      refine ab_k (y := 2) rfl rfl ?_
      refine ab_s rfl ?_
      refine ab_s rfl ?_
      refine ab_t (pk_mul 2 i) ?_
      iterate 4 refine ab_s rfl ?_
      refine ab_ii rfl rfl rfl ?_
      refine ab_s rfl ?_
      exact ih _ (by first | (rw [← bs_or3 (p := opB s i f c) (q := opB s (i + 1) f c) (m := 16) (j := 2 * i) (by omega) (by omega) (fun r _ => opB_t h25)]; rfl) | (rw [bs_cong (p := opB s (i + 1) f c) (q := opB s i f c) (fun r _ => opB_f h25), or_0]; rfl))
  · obtain rfl := hJ
    iterate 2 refine ab_s rfl ?_
    refine ab_gf rfl rfl rfl hm hv ?_
    refine ab_k (y := 0) rfl rfl ?_
    refine ab_ia 0 rfl hs (by omega) rfl (by omega) ?_
    refine ab_t h0 ?_
    refine j2_ge rfl rfl (fun h13 => ?_) (fun h13 => absurd (nI_le (Nat.le_refl _) (by omega)) h13)
    refine ab_s rfl ?_
    exact ab_ri rfl rfl
end M3
end
section
/-! THE REFERENCE: who stands by a room -/
theorem stB_m1 {s : List Int32} {n i r q : Nat} (hr : r < 16) (hq : q < 16) (h : fld s i 1 = -1) : stB s n i r q = false := by
  have e : ∀ k, k < 16 → ¬ (-1 : Int32) = nI k := by decide
  unfold stB
  rw [h, decide_eq_false (e (q / 2) (by omega)), decide_eq_false (e (r / 2) (by omega))]
  simp
theorem stB_t {s : List Int32} {n i r q t : Nat} (hr : r < 16) (hq : q < 16) (ht : t < 8) (h : fld s i 1 = nI t) : stB s n i r q = (decide (r = 2 * i ∧ q = 2 * t + 1 ∧ t < n) || decide (q = 2 * i ∧ r = 2 * t + 1 ∧ t < n)) := by
  unfold stB
  rw [h, Bool.eq_iff_iff]
  simp only [Bool.and_eq_true, Bool.or_eq_true, decide_eq_true_eq, nI_eq (show t < 2 ^ 31 by omega) (show q / 2 < 2 ^ 31 by omega), nI_eq (show t < 2 ^ 31 by omega) (show r / 2 < 2 ^ 31 by omega)]
  omega
section M4
variable {X : List Int32} {w : ab_W} {s : List Int32} {n : Nat}
theorem any_t {B : Nat → Bool} {F : Nat → Nat → Bool} {i j : Nat} (hj : j < 16) (h : ∀ q, q < 16 → F i q = decide (q = j)) : bs (fun q => B q || anyR (fun g => F g q) i) 16 ||| (1 : Int32) <<< (nI j &&& 31) = bs (fun q => B q || anyR (fun g => F g q) (i + 1)) 16 :=
  bs_or1 (by omega) hj (fun q hq => by rw [anyR, h q hq, Bool.or_assoc])
theorem any_f {B : Nat → Bool} {F : Nat → Nat → Bool} {i : Nat} (h : ∀ q, q < 16 → F i q = false) : bs (fun q => B q || anyR (fun g => F g q) i) 16 = bs (fun q => B q || anyR (fun g => F g q) (i + 1)) 16 :=
  bs_cong (fun q hq => by rw [anyR, h q hq, Bool.or_false])
set_option maxRecDepth 100000 in
set_option maxHeartbeats 4000000 in
theorem m_j830 (M : MS w s n) (I : SI s n) (h : Nat) (hh : h < n) (B : Nat → Bool) (xs : Int32) (hx : xs = bs B 16) : ab_G X kX6_joinedTo 83 [some (.ref 54), some (.int (nI (2 * h))), some (.int (nI h)), some (.int 0), some (.int xs), none, none] [] w (some (.int (bs (fun q => B q || anyR (fun g => stB s n g (2 * h) q) n) 16))) w := by
  obtain ⟨vs, hm, hv, hs, hl, h0, hn⟩ := id M
  refine ab_k (y := 0) rfl rfl ?_
  refine ab_s rfl ?_
  refine g_loop0 n (fun i ls => ∃ x, ls = [some (.ref 54), some (.int (nI (2 * h))), some (.int (nI h)), some (.int 0), some (.int (bs (fun q => B q || anyR (fun g => stB s n g (2 * h) q) i) 16)), some (.int (nI i)), x]) ⟨none, by rw [hx, show bs B 16 = bs (fun q => B q || anyR (fun g => stB s n g (2 * h) q) 0) 16 from bs_cong (fun q _ => by rw [anyR, Bool.or_false])]; rfl⟩ (fun i ls hi hJ ih => ?_) (fun ls hJ => ?_)
  · obtain ⟨x, rfl⟩ := hJ
    have m1N : ¬ isN (-1 : Int32) n := by
      rw [isN_iff (by omega)]
      intro q
      exact absurd q.1 (by decide)
    rcases (I.1 i hi).2.1 with ht | ⟨t, ht8, ht, htt⟩
    · skip
      iterate 2 refine ab_s rfl ?_
      refine ab_gf rfl rfl rfl hm hv ?_
      refine ab_k (y := 0) rfl rfl ?_
      refine ab_ia 0 rfl hs (by omega) rfl (by omega) ?_
      refine ab_t h0 ?_
      refine j2_ge rfl rfl (fun h94 => absurd h94 (nI_ge hi (by omega))) (fun h94 => ?_)
      iterate 2 refine ab_s rfl ?_
      refine ab_k (y := 1) rfl rfl ?_
      refine ab_cv rfl rfl rfl hm rfl rfl (m_its M i 1 (by omega) (by omega) rfl rfl) ?_
      refine ab_t ht ?_
      iterate 3 refine ab_s rfl ?_
      refine ab_cv rfl rfl rfl hm rfl rfl (m_isHouse0 M (fun q => absurd q m1N)) ?_
      refine ab_s rfl ?_
      refine ab_ii rfl rfl rfl ?_
      refine ab_s rfl ?_
      exact ih _ ⟨_, by rw [← any_f (B := B) (F := (fun g q => stB s n g (2 * h) q)) (i := i) (fun q hq => stB_m1 (by omega) hq ht)]; rfl⟩
    by_cases htn : t < n
    · skip
      iterate 2 refine ab_s rfl ?_
      refine ab_gf rfl rfl rfl hm hv ?_
      refine ab_k (y := 0) rfl rfl ?_
      refine ab_ia 0 rfl hs (by omega) rfl (by omega) ?_
      refine ab_t h0 ?_
      refine j2_ge rfl rfl (fun h94 => absurd h94 (nI_ge hi (by omega))) (fun h94 => ?_)
      iterate 2 refine ab_s rfl ?_
      refine ab_k (y := 1) rfl rfl ?_
      refine ab_cv rfl rfl rfl hm rfl rfl (m_its M i 1 (by omega) (by omega) rfl rfl) ?_
      refine ab_t ht ?_
      iterate 3 refine ab_s rfl ?_
      refine ab_cv rfl rfl rfl hm rfl rfl (m_isHouse1 M ⟨t, htn, rfl⟩) ?_
      iterate 6 refine ab_s rfl ?_
      refine j2_ne rfl rfl (fun h124 => ?_) (fun h124 => ?_)
      · refine ab_k (y := 0) rfl rfl ?_
        iterate 4 refine ab_s rfl ?_
        refine ab_k (y := 1) rfl rfl ?_
        refine ab_s rfl ?_
        refine ab_k (y := 0) rfl rfl ?_
        iterate 2 refine ab_s rfl ?_
        refine ab_ii rfl rfl rfl ?_
        refine ab_s rfl ?_
        try rw [nI_eq (by omega) (by omega)] at h124
        exact ih _ ⟨_, by first | (rw [or_0, any_t (B := B) (F := (fun g q => stB s n g (2 * h) q)) (i := i) (j := (2 * t + 1)) (by omega) (fun q hq => by rw [stB_t (by omega) hq ht8 ht, Bool.eq_iff_iff]; simp only [Bool.or_eq_true, decide_eq_true_eq]; omega)]; rfl) | (rw [or_0, or_0, any_f (B := B) (F := (fun g q => stB s n g (2 * h) q)) (i := i) (fun q hq => by rw [stB_t (by omega) hq ht8 ht, Bool.eq_false_iff]; simp only [ne_eq, Bool.or_eq_true, decide_eq_true_eq]; omega)]; rfl)⟩
      · refine ab_k (y := 1) rfl rfl ?_
        refine ab_k (y := 2) rfl rfl ?_
        refine ab_s rfl ?_
        refine ab_s rfl ?_
        refine ab_t (pk_mul 2 t) ?_
        refine ab_k (y := 1) rfl rfl ?_
        refine ab_s rfl ?_
        refine ab_t (nI_1 (2 * t)) ?_
        iterate 6 refine ab_s rfl ?_
        refine ab_k (y := 1) rfl rfl ?_
        refine ab_s rfl ?_
        refine ab_k (y := 0) rfl rfl ?_
        iterate 2 refine ab_s rfl ?_
        refine ab_ii rfl rfl rfl ?_
        refine ab_s rfl ?_
        try rw [nI_eq (by omega) (by omega)] at h124
        exact ih _ ⟨_, by first | (rw [or_0, any_t (B := B) (F := (fun g q => stB s n g (2 * h) q)) (i := i) (j := (2 * t + 1)) (by omega) (fun q hq => by rw [stB_t (by omega) hq ht8 ht, Bool.eq_iff_iff]; simp only [Bool.or_eq_true, decide_eq_true_eq]; omega)]; rfl) | (rw [or_0, or_0, any_f (B := B) (F := (fun g q => stB s n g (2 * h) q)) (i := i) (fun q hq => by rw [stB_t (by omega) hq ht8 ht, Bool.eq_false_iff]; simp only [ne_eq, Bool.or_eq_true, decide_eq_true_eq]; omega)]; rfl)⟩
    · skip
      iterate 2 refine ab_s rfl ?_
      refine ab_gf rfl rfl rfl hm hv ?_
      refine ab_k (y := 0) rfl rfl ?_
      refine ab_ia 0 rfl hs (by omega) rfl (by omega) ?_
      refine ab_t h0 ?_
      refine j2_ge rfl rfl (fun h94 => absurd h94 (nI_ge hi (by omega))) (fun h94 => ?_)
      iterate 2 refine ab_s rfl ?_
      refine ab_k (y := 1) rfl rfl ?_
      refine ab_cv rfl rfl rfl hm rfl rfl (m_its M i 1 (by omega) (by omega) rfl rfl) ?_
      refine ab_t ht ?_
      iterate 3 refine ab_s rfl ?_
      refine ab_cv rfl rfl rfl hm rfl rfl (m_isHouse0 M (fun q => absurd ((isN_iff (by omega)).mp q) (by rw [nI_toInt (by omega)]; omega))) ?_
      refine ab_s rfl ?_
      refine ab_ii rfl rfl rfl ?_
      refine ab_s rfl ?_
      exact ih _ ⟨_, by rw [← any_f (B := B) (F := (fun g q => stB s n g (2 * h) q)) (i := i) (fun q hq => by rw [stB_t (by omega) hq ht8 ht, Bool.eq_false_iff]; simp only [ne_eq, Bool.or_eq_true, decide_eq_true_eq]; omega)]; rfl⟩
  · obtain ⟨x, rfl⟩ := hJ
    iterate 2 refine ab_s rfl ?_
    refine ab_gf rfl rfl rfl hm hv ?_
    refine ab_k (y := 0) rfl rfl ?_
    refine ab_ia 0 rfl hs (by omega) rfl (by omega) ?_
    refine ab_t h0 ?_
    refine j2_ge rfl rfl (fun h94 => ?_) (fun h94 => absurd (nI_le (Nat.le_refl _) (by omega)) h94)
    refine ab_s rfl ?_
    exact ab_ri rfl rfl
set_option maxRecDepth 100000 in
set_option maxHeartbeats 4000000 in
theorem m_j831 (M : MS w s n) (I : SI s n) (h : Nat) (hh : h < n) (B : Nat → Bool) (xs : Int32) (hx : xs = bs B 16) : ab_G X kX6_joinedTo 83 [some (.ref 54), some (.int (nI (2 * h + 1))), some (.int (nI h)), some (.int 1), some (.int xs), none, none] [] w (some (.int (bs (fun q => B q || anyR (fun g => stB s n g (2 * h + 1) q) n) 16))) w := by
  obtain ⟨vs, hm, hv, hs, hl, h0, hn⟩ := id M
  refine ab_k (y := 0) rfl rfl ?_
  refine ab_s rfl ?_
  refine g_loop0 n (fun i ls => ∃ x, ls = [some (.ref 54), some (.int (nI (2 * h + 1))), some (.int (nI h)), some (.int 1), some (.int (bs (fun q => B q || anyR (fun g => stB s n g (2 * h + 1) q) i) 16)), some (.int (nI i)), x]) ⟨none, by rw [hx, show bs B 16 = bs (fun q => B q || anyR (fun g => stB s n g (2 * h + 1) q) 0) 16 from bs_cong (fun q _ => by rw [anyR, Bool.or_false])]; rfl⟩ (fun i ls hi hJ ih => ?_) (fun ls hJ => ?_)
  · obtain ⟨x, rfl⟩ := hJ
    have m1N : ¬ isN (-1 : Int32) n := by
      rw [isN_iff (by omega)]
      intro q
      exact absurd q.1 (by decide)
    rcases (I.1 i hi).2.1 with ht | ⟨t, ht8, ht, htt⟩
    · skip
      iterate 2 refine ab_s rfl ?_
      refine ab_gf rfl rfl rfl hm hv ?_
      refine ab_k (y := 0) rfl rfl ?_
      refine ab_ia 0 rfl hs (by omega) rfl (by omega) ?_
      refine ab_t h0 ?_
      refine j2_ge rfl rfl (fun h94 => absurd h94 (nI_ge hi (by omega))) (fun h94 => ?_)
      iterate 2 refine ab_s rfl ?_
      refine ab_k (y := 1) rfl rfl ?_
      refine ab_cv rfl rfl rfl hm rfl rfl (m_its M i 1 (by omega) (by omega) rfl rfl) ?_
      refine ab_t ht ?_
      iterate 3 refine ab_s rfl ?_
      refine ab_cv rfl rfl rfl hm rfl rfl (m_isHouse0 M (fun q => absurd q m1N)) ?_
      refine ab_s rfl ?_
      refine ab_ii rfl rfl rfl ?_
      refine ab_s rfl ?_
      exact ih _ ⟨_, by rw [← any_f (B := B) (F := (fun g q => stB s n g (2 * h + 1) q)) (i := i) (fun q hq => stB_m1 (by omega) hq ht)]; rfl⟩
    by_cases htn : t < n
    · skip
      iterate 2 refine ab_s rfl ?_
      refine ab_gf rfl rfl rfl hm hv ?_
      refine ab_k (y := 0) rfl rfl ?_
      refine ab_ia 0 rfl hs (by omega) rfl (by omega) ?_
      refine ab_t h0 ?_
      refine j2_ge rfl rfl (fun h94 => absurd h94 (nI_ge hi (by omega))) (fun h94 => ?_)
      iterate 2 refine ab_s rfl ?_
      refine ab_k (y := 1) rfl rfl ?_
      refine ab_cv rfl rfl rfl hm rfl rfl (m_its M i 1 (by omega) (by omega) rfl rfl) ?_
      refine ab_t ht ?_
      iterate 3 refine ab_s rfl ?_
      refine ab_cv rfl rfl rfl hm rfl rfl (m_isHouse1 M ⟨t, htn, rfl⟩) ?_
      iterate 4 refine ab_s rfl ?_
      refine ab_k (y := 0) rfl rfl ?_
      iterate 4 refine ab_s rfl ?_
      refine ab_k (y := 1) rfl rfl ?_
      iterate 3 refine ab_s rfl ?_
      refine j2_ne rfl rfl (fun h152 => ?_) (fun h152 => ?_)
      · refine ab_k (y := 0) rfl rfl ?_
        iterate 2 refine ab_s rfl ?_
        refine ab_ii rfl rfl rfl ?_
        refine ab_s rfl ?_
        try rw [nI_eq (by omega) (by omega)] at h152
        exact ih _ ⟨_, by first | (rw [or_0, any_t (B := B) (F := (fun g q => stB s n g (2 * h + 1) q)) (i := i) (j := (2 * i)) (by omega) (fun q hq => by rw [stB_t (by omega) hq ht8 ht, Bool.eq_iff_iff]; simp only [Bool.or_eq_true, decide_eq_true_eq]; omega)]; rfl) | (rw [or_0, or_0, any_f (B := B) (F := (fun g q => stB s n g (2 * h + 1) q)) (i := i) (fun q hq => by rw [stB_t (by omega) hq ht8 ht, Bool.eq_false_iff]; simp only [ne_eq, Bool.or_eq_true, decide_eq_true_eq]; omega)]; rfl)⟩
      · refine ab_k (y := 1) rfl rfl ?_
        refine ab_k (y := 2) rfl rfl ?_
        refine ab_s rfl ?_
        refine ab_s rfl ?_
        refine ab_t (pk_mul 2 i) ?_
        iterate 4 refine ab_s rfl ?_
        refine ab_ii rfl rfl rfl ?_
        refine ab_s rfl ?_
        try rw [nI_eq (by omega) (by omega)] at h152
        exact ih _ ⟨_, by first | (rw [or_0, any_t (B := B) (F := (fun g q => stB s n g (2 * h + 1) q)) (i := i) (j := (2 * i)) (by omega) (fun q hq => by rw [stB_t (by omega) hq ht8 ht, Bool.eq_iff_iff]; simp only [Bool.or_eq_true, decide_eq_true_eq]; omega)]; rfl) | (rw [or_0, or_0, any_f (B := B) (F := (fun g q => stB s n g (2 * h + 1) q)) (i := i) (fun q hq => by rw [stB_t (by omega) hq ht8 ht, Bool.eq_false_iff]; simp only [ne_eq, Bool.or_eq_true, decide_eq_true_eq]; omega)]; rfl)⟩
    · skip
      iterate 2 refine ab_s rfl ?_
      refine ab_gf rfl rfl rfl hm hv ?_
      refine ab_k (y := 0) rfl rfl ?_
      refine ab_ia 0 rfl hs (by omega) rfl (by omega) ?_
      refine ab_t h0 ?_
      refine j2_ge rfl rfl (fun h94 => absurd h94 (nI_ge hi (by omega))) (fun h94 => ?_)
      iterate 2 refine ab_s rfl ?_
      refine ab_k (y := 1) rfl rfl ?_
      refine ab_cv rfl rfl rfl hm rfl rfl (m_its M i 1 (by omega) (by omega) rfl rfl) ?_
      refine ab_t ht ?_
      iterate 3 refine ab_s rfl ?_
      refine ab_cv rfl rfl rfl hm rfl rfl (m_isHouse0 M (fun q => absurd ((isN_iff (by omega)).mp q) (by rw [nI_toInt (by omega)]; omega))) ?_
      refine ab_s rfl ?_
      refine ab_ii rfl rfl rfl ?_
      refine ab_s rfl ?_
      exact ih _ ⟨_, by rw [← any_f (B := B) (F := (fun g q => stB s n g (2 * h + 1) q)) (i := i) (fun q hq => by rw [stB_t (by omega) hq ht8 ht, Bool.eq_false_iff]; simp only [ne_eq, Bool.or_eq_true, decide_eq_true_eq]; omega)]; rfl⟩
  · obtain ⟨x, rfl⟩ := hJ
    iterate 2 refine ab_s rfl ?_
    refine ab_gf rfl rfl rfl hm hv ?_
    refine ab_k (y := 0) rfl rfl ?_
    refine ab_ia 0 rfl hs (by omega) rfl (by omega) ?_
    refine ab_t h0 ?_
    refine j2_ge rfl rfl (fun h94 => ?_) (fun h94 => absurd (nI_le (Nat.le_refl _) (by omega)) h94)
    refine ab_s rfl ?_
    exact ab_ri rfl rfl
end M4
end
section
/-! THE REFERENCE: joinedTo, joinedAll -/
section M5
variable {X : List Int32} {w : ab_W} {s : List Int32} {n : Nat}
theorem j44i : ∀ h, h < 8 → ∀ u, u < 2 → (66 + (2 : Int32) * nI h + nI u) = nI (66 + (2 * h + u)) := by decide +kernel
theorem j11i : ∀ h, h < 8 → ∀ u, u < 2 → 0 < h → (66 + (2 : Int32) * nI h - 2 + nI u) = nI (64 + (2 * h + u)) := by decide +kernel
theorem dd {s : List Int32} {r : Nat} {b : Bool} (hb : dB s (r - 2) = b) (q : Nat) : (decide (q + 2 = r) && dB s q) = (decide (q + 2 = r) && b) := by
  by_cases e : q + 2 = r
  · subst e
    rw [show q + 2 - 2 = q by omega] at hb
    rw [hb]
  · rw [decide_eq_false e]
    rfl
theorem dd_f {s : List Int32} {r : Nat} (hb : dB s (r - 2) = false) : (0 : Int32) = bs (fun q => decide (q + 2 = r) && dB s q) 16 :=
  ((bs_zero (by omega)).mpr (fun q _ => by rw [dd hb, Bool.and_false])).symm
theorem dd_t {s : List Int32} {r : Nat} (hr : r < 16) (h2 : 2 ≤ r) (hb : dB s (r - 2) = true) : (0 : Int32) ||| (1 : Int32) <<< (nI (r - 2) &&& 31) = bs (fun q => decide (q + 2 = r) && dB s q) 16 := by
  rw [← (bs_zero (p := fun _ => false) (m := 16) (by omega)).mpr (fun _ _ => rfl)]
  exact bs_or1 (by omega) (by omega) (fun q _ => by rw [dd hb, Bool.and_true, Bool.false_or]; exact decide_eq_decide.mpr (by omega))
theorem adjB_e {s : List Int32} {n r q : Nat} (hr : r < 2 * n) (hn : n ≤ 8) (hq : q < 16) (I : SI s n) : adjB s n r q = ((decide (q + 2 = r) && dB s q) || (decide (q = r + 2 ∧ r + 2 < 2 * n) && dB s r) || anyR (fun g => stB s n g r q) n) := by
  by_cases h : q < 2 * n
  · unfold adjB
    rw [decide_eq_true hr, decide_eq_true h]
    simp only [Bool.true_and]
    rw [show decide (q = r + 2 ∧ r + 2 < 2 * n) = decide (q = r + 2) from decide_eq_decide.mpr (by omega)]
  · unfold adjB
    rw [decide_eq_false h, Bool.and_false, Bool.false_and]
    have h1 : ¬ q + 2 = r := by omega
    have h2 : ¬ (q = r + 2 ∧ r + 2 < 2 * n) := by omega
    have h3 : anyR (fun g => stB s n g r q) n = false := by
      rw [Bool.eq_false_iff, ne_eq, anyR_iff]
      rintro ⟨g, hg, h4⟩
      rcases (I.1 g hg).2.1 with ht | ⟨t, ht8, ht, -⟩
      · rw [stB_m1 (by omega) hq ht] at h4; cases h4
      · rw [stB_t (by omega) hq ht8 ht] at h4
        simp only [Bool.or_eq_true, decide_eq_true_eq] at h4
        omega
    rw [h3, decide_eq_false h1, decide_eq_false h2]
    rfl
set_option maxRecDepth 100000 in
set_option maxHeartbeats 4000000 in
theorem m_j44 (M : MS w s n) (I : SI s n) (h u : Nat) (hh : h < n) (hu : u < 2) (B : Nat → Bool) (xs : Int32) (hx : xs = bs B 16) : ab_G X kX6_joinedTo 44 [some (.ref 54), some (.int (nI (2 * h + u))), some (.int (nI h)), some (.int (nI u)), some (.int xs), none, none] [] w (some (.int (bs (fun q => (B q || (decide (q = 2 * h + u + 2 ∧ 2 * h + u + 2 < 2 * n) && dB s (2 * h + u))) || anyR (fun g => stB s n g (2 * h + u) q) n) 16))) w := by
  obtain ⟨vs, hm, hv, hs, hl, h0, hn⟩ := id M
  have j83 : ∀ (B : Nat → Bool) (xs : Int32), xs = bs B 16 → ab_G X kX6_joinedTo 83 [some (.ref 54), some (.int (nI (2 * h + u))), some (.int (nI h)), some (.int (nI u)), some (.int xs), none, none] [] w (some (.int (bs (fun q => B q || anyR (fun g => stB s n g (2 * h + u) q) n) 16))) w := by
    intro B xs hx
    match u, hu with
    | 0, _ => exact m_j830 M I h hh B xs hx
    | 1, _ => exact m_j831 M I h hh B xs hx
  refine ab_s rfl ?_
  refine ab_k (y := 1) rfl rfl ?_
  refine ab_s rfl ?_
  refine ab_t (nI_1 h) ?_
  refine ab_s rfl ?_
  refine ab_gf rfl rfl rfl hm hv ?_
  refine ab_k (y := 0) rfl rfl ?_
  refine ab_ia 0 rfl hs (by omega) rfl (by omega) ?_
  refine ab_t h0 ?_
  refine j2_ge rfl rfl (fun h53 => ?_) (fun h53 => ?_)
  · refine j83 _ _ ?_
    try rw [nI_leI (by omega) (by omega)] at h53
    rw [hx]
    first | exact bs_cong (fun q _ => by rw [decide_eq_false (show ¬ (q = 2 * h + u + 2 ∧ 2 * h + u + 2 < 2 * n) by omega), Bool.false_and, Bool.or_false]) | exact bs_cong (fun q _ => by rw [show dB s (2 * h + u) = false from decide_eq_false h70, Bool.and_false, Bool.or_false]) | exact bs_or1 (by omega) (by omega) (fun q _ => by rw [show dB s (2 * h + u) = true from decide_eq_true h70, Bool.and_true, show decide (q = 2 * h + u + 2 ∧ 2 * h + u + 2 < 2 * n) = decide (q = 2 * h + u + 2) from decide_eq_decide.mpr (by omega)])
  · refine ab_s rfl ?_
    refine ab_gf rfl rfl rfl hm hv ?_
    refine ab_k (y := 66) rfl rfl ?_
    refine ab_k (y := 2) rfl rfl ?_
    iterate 5 refine ab_s rfl ?_
    refine ab_ia (66 + (2 * h + u)) rfl hs (by omega) (j44i h (by omega) u hu) (by omega) ?_
    refine ab_k (y := 1) rfl rfl ?_
    refine j2_ne rfl rfl (fun h70 => ?_) (fun h70 => ?_)
    · refine j83 _ _ ?_
      try rw [nI_leI (by omega) (by omega)] at h53
      rw [hx]
      first | exact bs_cong (fun q _ => by rw [decide_eq_false (show ¬ (q = 2 * h + u + 2 ∧ 2 * h + u + 2 < 2 * n) by omega), Bool.false_and, Bool.or_false]) | exact bs_cong (fun q _ => by rw [show dB s (2 * h + u) = false from decide_eq_false h70, Bool.and_false, Bool.or_false]) | exact bs_or1 (by omega) (by omega) (fun q _ => by rw [show dB s (2 * h + u) = true from decide_eq_true h70, Bool.and_true, show decide (q = 2 * h + u + 2 ∧ 2 * h + u + 2 < 2 * n) = decide (q = 2 * h + u + 2) from decide_eq_decide.mpr (by omega)])
    · refine ab_s rfl ?_
      refine ab_k (y := 1) rfl rfl ?_
      refine ab_s rfl ?_
      refine ab_k (y := 2) rfl rfl ?_
      refine ab_s rfl ?_
      refine ab_t (nI_add (2 * h + u) 2) ?_
      iterate 3 refine ab_s rfl ?_
      refine j83 _ _ ?_
      try rw [nI_leI (by omega) (by omega)] at h53
      rw [hx]
      first | exact bs_cong (fun q _ => by rw [decide_eq_false (show ¬ (q = 2 * h + u + 2 ∧ 2 * h + u + 2 < 2 * n) by omega), Bool.false_and, Bool.or_false]) | exact bs_cong (fun q _ => by rw [show dB s (2 * h + u) = false from decide_eq_false h70, Bool.and_false, Bool.or_false]) | exact bs_or1 (by omega) (by omega) (fun q _ => by rw [show dB s (2 * h + u) = true from decide_eq_true h70, Bool.and_true, show decide (q = 2 * h + u + 2 ∧ 2 * h + u + 2 < 2 * n) = decide (q = 2 * h + u + 2) from decide_eq_decide.mpr (by omega)])
set_option maxRecDepth 100000 in
set_option maxHeartbeats 4000000 in
theorem m_joinedTo (M : MS w s n) (I : SI s n) (r : Nat) (hr : r < 2 * n) : ab_M X kX6_joinedTo [.ref 54, .int (nI r)] w (some (.int (bs (adjB s n r) 16))) w := by
  obtain ⟨vs, hm, hv, hs, hl, h0, hn⟩ := id M
  obtain ⟨h, u, hu, rfl⟩ : ∃ h u, u < 2 ∧ r = 2 * h + u := ⟨r / 2, r % 2, by omega, by omega⟩
  rw [bs_cong (p := adjB s n (2 * h + u)) (fun q hq => adjB_e hr hn hq I)]
  have hh : h < n := by omega
  have hw : dB s (2 * h + u - 2) = decide (s.getD (64 + (2 * h + u)) 0 = 1) ∨ h = 0 := by
    by_cases h1 : h = 0
    · exact Or.inr h1
    · refine Or.inl ?_
      unfold dB
      rw [show 66 + (2 * h + u - 2) = 64 + (2 * h + u) by omega]
  show ab_G X kX6_joinedTo 0 [some (.ref 54), some (.int (nI (2 * h + u))), none, none, none, none, none] [] w _ _
  refine ab_s rfl ?_
  refine ab_k (y := 2) rfl rfl ?_
  refine ab_s rfl ?_
  refine ab_t (show nI (2 * h + u) / 2 = nI h from (pk_div (a := 2 * h + u) (d := 2) (by omega) (by omega) (by omega)).trans (congrArg nI (by omega))) ?_
  iterate 2 refine ab_s rfl ?_
  refine ab_k (y := 2) rfl rfl ?_
  refine ab_s rfl ?_
  refine ab_t (show nI (2 * h + u) - nI (2 * h + u) / 2 * 2 = nI u from (pk_rem (a := 2 * h + u) (d := 2) (by omega) (by omega) (by omega)).trans (congrArg nI (by omega))) ?_
  refine ab_s rfl ?_
  refine ab_k (y := 0) rfl rfl ?_
  iterate 2 refine ab_s rfl ?_
  refine j1_le rfl rfl (fun h12 => ?_) (fun h12 => ?_)
  · refine m_j44 M I h u hh hu (fun q => decide (q + 2 = 2 * h + u) && dB s q) _ ?_
    rw [show (0 : Int32) = nI 0 from rfl, nI_leI (by omega) (by omega)] at h12
    first | exact ((bs_zero (by omega)).mpr (fun q _ => by rw [decide_eq_false (show ¬ q + 2 = 2 * h + u by omega)]; rfl)).symm | exact dd_f (by rw [hw.resolve_right (by omega)]; exact decide_eq_false h31) | exact dd_t (by omega) (by omega) (by rw [hw.resolve_right (by omega)]; exact decide_eq_true h31)
  · refine ab_s rfl ?_
    refine ab_gf rfl rfl rfl hm hv ?_
    refine ab_k (y := 66) rfl rfl ?_
    refine ab_k (y := 2) rfl rfl ?_
    iterate 3 refine ab_s rfl ?_
    refine ab_k (y := 2) rfl rfl ?_
    iterate 3 refine ab_s rfl ?_
    refine ab_ia (64 + (2 * h + u)) rfl hs (by omega) (j11i h (by omega) u hu (by rw [show (0 : Int32) = nI 0 from rfl, nI_leI (by omega) (by omega)] at h12; omega)) (by omega) ?_
    refine ab_k (y := 1) rfl rfl ?_
    refine j2_ne rfl rfl (fun h31 => ?_) (fun h31 => ?_)
    · refine m_j44 M I h u hh hu (fun q => decide (q + 2 = 2 * h + u) && dB s q) _ ?_
      rw [show (0 : Int32) = nI 0 from rfl, nI_leI (by omega) (by omega)] at h12
      first | exact ((bs_zero (by omega)).mpr (fun q _ => by rw [decide_eq_false (show ¬ q + 2 = 2 * h + u by omega)]; rfl)).symm | exact dd_f (by rw [hw.resolve_right (by omega)]; exact decide_eq_false h31) | exact dd_t (by omega) (by omega) (by rw [hw.resolve_right (by omega)]; exact decide_eq_true h31)
    · refine ab_s rfl ?_
      refine ab_k (y := 1) rfl rfl ?_
      refine ab_s rfl ?_
      refine ab_k (y := 2) rfl rfl ?_
      refine ab_s rfl ?_
      refine ab_t (pk_sub (a := 2 * h + u) (b := 2) (by rw [show (0 : Int32) = nI 0 from rfl, nI_leI (by omega) (by omega)] at h12; omega)) ?_
      iterate 3 refine ab_s rfl ?_
      refine m_j44 M I h u hh hu (fun q => decide (q + 2 = 2 * h + u) && dB s q) _ ?_
      rw [show (0 : Int32) = nI 0 from rfl, nI_leI (by omega) (by omega)] at h12
      first | exact ((bs_zero (by omega)).mpr (fun q _ => by rw [decide_eq_false (show ¬ q + 2 = 2 * h + u by omega)]; rfl)).symm | exact dd_f (by rw [hw.resolve_right (by omega)]; exact decide_eq_false h31) | exact dd_t (by omega) (by omega) (by rw [hw.resolve_right (by omega)]; exact decide_eq_true h31)
set_option maxRecDepth 100000 in
set_option maxHeartbeats 4000000 in
theorem m_joinedAll (M : MS w s n) (I : SI s n) (p : Nat → Bool) (hp : ∀ r, r < 16 → p r = true → r < 2 * n) : ab_M X kX6_joinedAll [.ref 54, .int (bs p 16)] w (some (.int (bs (fun q => anyR (fun r => p r && adjB s n r q) 16) 16))) w := by
  obtain ⟨vs, hm, hv, hs, hl, h0, hn⟩ := id M
  show ab_G X kX6_joinedAll 0 [some (.ref 54), some (.int (bs p 16)), none, none] [] w _ _
  refine ab_k (y := 0) rfl rfl ?_
  refine ab_s rfl ?_
  refine ab_k (y := 0) rfl rfl ?_
  refine ab_s rfl ?_
  refine g_loop0 16 (fun i ls => ls = [some (.ref 54), some (.int (bs p 16)), some (.int (bs (fun q => anyR (fun r => p r && adjB s n r q) i) 16)), some (.int (nI i))]) (by rw [show bs (fun q => anyR (fun r => p r && adjB s n r q) 0) 16 = 0 from (bs_zero (by omega)).mpr (fun _ _ => rfl)]; rfl) (fun i ls hi hJ ih => ?_) (fun ls hJ => ?_)
  · subst hJ
    have hb : bt (bs p 16) i = p i := by rw [bt_bs _ _ _ (by omega) (by omega), decide_eq_true hi, Bool.true_and]
    refine ab_s rfl ?_
    refine ab_k (y := 16) rfl rfl ?_
    refine j2_ge rfl rfl (fun h7 => absurd h7 (nI_ge (b := 16) hi (by omega))) (fun h7 => ?_)
    iterate 3 refine ab_s rfl ?_
    refine ab_c rfl (m_has i (by omega)) ?_
    refine z1_eq rfl rfl (fun h16 => ?_) (fun h16 => ?_)
    · refine ab_k (y := 0) rfl rfl ?_
      iterate 2 refine ab_s rfl ?_
      refine ab_ii rfl rfl rfl ?_
      refine ab_s rfl ?_
      exact ih _ (by first | (rw [bs_cong (p := fun q => anyR (fun r => p r && adjB s n r q) (i + 1)) (q := fun q => anyR (fun r => p r && adjB s n r q) i || adjB s n i q) (fun q _ => by rw [anyR, hb.symm.trans h16, Bool.true_and]), ← bs_or (p := fun q => anyR (fun r => p r && adjB s n r q) i) (q := adjB s n i) (m := 16) (by omega)]; rfl) | (rw [or_0, bs_cong (p := fun q => anyR (fun r => p r && adjB s n r q) i) (q := fun q => anyR (fun r => p r && adjB s n r q) (i + 1)) (fun q _ => by rw [anyR, hb.symm.trans h16, Bool.false_and, Bool.or_false])]; rfl))
    · iterate 2 refine ab_s rfl ?_
      refine ab_cv rfl rfl rfl hm rfl rfl (m_joinedTo M I i (hp i hi (hb.symm.trans h16))) ?_
      iterate 3 refine ab_s rfl ?_
      refine ab_ii rfl rfl rfl ?_
      refine ab_s rfl ?_
      exact ih _ (by first | (rw [bs_cong (p := fun q => anyR (fun r => p r && adjB s n r q) (i + 1)) (q := fun q => anyR (fun r => p r && adjB s n r q) i || adjB s n i q) (fun q _ => by rw [anyR, hb.symm.trans h16, Bool.true_and]), ← bs_or (p := fun q => anyR (fun r => p r && adjB s n r q) i) (q := adjB s n i) (m := 16) (by omega)]; rfl) | (rw [or_0, bs_cong (p := fun q => anyR (fun r => p r && adjB s n r q) i) (q := fun q => anyR (fun r => p r && adjB s n r q) (i + 1)) (fun q _ => by rw [anyR, hb.symm.trans h16, Bool.false_and, Bool.or_false])]; rfl))
  · subst hJ
    refine ab_s rfl ?_
    refine ab_k (y := 16) rfl rfl ?_
    refine j2_ge rfl rfl (fun h7 => ?_) (fun h7 => absurd (nI_le (a := 16) (b := 16) (Nat.le_refl _) (by omega)) h7)
    refine ab_s rfl ?_
    exact ab_ri rfl rfl
end M5
end
section
/-! THE REFERENCE: lengths of ways -/
section WL
variable {adj : Nat → Nat → Bool} {op st : Nat → Bool}
theorem wB_16 {m : Nat} (hm : 16 ≤ m) {i : Nat} (hi : i < 16) : wB adj op st m i = wB adj op st 16 i := by
  by_cases h : ∀ j, j < 17 → ∃ i, i < 16 ∧ wB adj op st (j + 1) i = true ∧ wB adj op st j i = false
  · have h1 := wB_count h
    have h2 := cntR_le (wB adj op st 17) 16
    omega
  · obtain ⟨j, h1⟩ := Classical.not_forall.mp h
    obtain ⟨h2, h3⟩ := Classical.not_imp.mp h1
    have h4 : ∀ i, i < 16 → wB adj op st (j + 1) i = wB adj op st j i := by
      intro i hi
      cases h5 : wB adj op st j i with
      | true => exact wB_mono h5
      | false =>
        cases h6 : wB adj op st (j + 1) i with
        | false => rfl
        | true => exact absurd ⟨i, hi, h6, h5⟩ h3
    rw [wB_fix h4 m (by omega) i hi, wB_fix h4 16 (by omega) i hi]
def lenR (B : Nat → Nat → Bool) (room : Nat) : Nat → Nat
  | 0 => 0
  | m + 1 => if lenR B room m = 0 then (if B (m + 1) room then m + 1 else 0) else lenR B room m
theorem lenR_spec (B : Nat → Nat → Bool) (room : Nat) : ∀ m, (lenR B room m = 0 ∧ ∀ d, 1 ≤ d → d ≤ m → B d room = false) ∨ (1 ≤ lenR B room m ∧ lenR B room m ≤ m ∧ B (lenR B room m) room = true ∧ ∀ j, 1 ≤ j → j < lenR B room m → B j room = false)
  | 0 => Or.inl ⟨rfl, fun d _ _ => by omega⟩
  | m + 1 => by
    rcases lenR_spec B room m with ⟨h1, h2⟩ | ⟨h1, h2, h3, h4⟩
    · rw [lenR, if_pos h1]
      cases hb : B (m + 1) room with
      | true =>
        rw [if_pos rfl]
        exact Or.inr ⟨by omega, Nat.le_refl _, hb, fun j h5 h6 => h2 j h5 (by omega)⟩
      | false =>
        rw [if_neg (by decide)]
        refine Or.inl ⟨rfl, fun d h5 h6 => ?_⟩
        by_cases e : d = m + 1
        · rw [e, hb]
        · exact h2 d h5 (by omega)
    · rw [lenR, if_neg (by omega)]
      exact Or.inr ⟨h1, by omega, h3, h4⟩
def wayL (adj : Nat → Nat → Bool) (op st : Nat → Bool) (room : Nat) : Nat := lenR (wB adj op st) room 16
theorem wayL_len {room : Nat} (hr : room < 16) : isLen (wB adj op st) room (wayL adj op st room) := by
  rcases lenR_spec (wB adj op st) room 16 with ⟨h1, h2⟩ | ⟨h1, h2, h3, h4⟩
  · refine Or.inl ⟨h1, fun k => ?_⟩
    have hk : ∀ d, d ≤ 16 → wB adj op st d room = false := fun d hd => by
      by_cases e : d = 0
      · rw [e]; rfl
      · exact h2 d (by omega) hd
    by_cases hk16 : k ≤ 16
    · exact hk k hk16
    · rw [wB_16 (by omega) hr]
      exact hk 16 (by omega)
  · refine Or.inr ⟨h1, h3, fun j hj => ?_⟩
    by_cases e : j = 0
    · rw [e]; rfl
    · exact h4 j (by omega) hj
theorem wayL_le (room : Nat) : wayL adj op st room ≤ 16 := by
  rcases lenR_spec (wB adj op st) room 16 with ⟨h1, _⟩ | ⟨_, h2, _⟩
  · show lenR _ _ _ ≤ 16
    omega
  · exact h2
theorem len_a {k room : Nat} (hr : room < 16) (h : bs (fun i => wB adj op st (k + 1) i && !wB adj op st k i) 16 = 0) (hb : bt (bs (wB adj op st k) 16) room = false) : 0 = wayL adj op st room := by
  rw [bt_bs _ _ _ (by omega) (by omega), decide_eq_true hr, Bool.true_and] at hb
  rw [bs_zero (by omega)] at h
  refine isLen_inj (Or.inl ⟨rfl, fun m => ?_⟩) (wayL_len hr)
  have h4 : ∀ i, i < 16 → wB adj op st (k + 1) i = wB adj op st k i := by
    intro i hi
    have h5 := h i hi
    cases h6 : wB adj op st k i with
    | true => exact wB_mono h6
    | false => simpa [h6] using h5
  by_cases hm : k ≤ m
  · rw [wB_fix h4 m hm room hr, hb]
  · cases h6 : wB adj op st m room with
    | false => rfl
    | true => rw [wB_le (by omega) h6] at hb; cases hb
theorem len_b {k room : Nat} (hr : room < 16) (hk : ∀ j, j < k → wB adj op st j room = false) (hb : bt (bs (wB adj op st k) 16) room = true) : k = wayL adj op st room := by
  rw [bt_bs _ _ _ (by omega) (by omega), decide_eq_true hr, Bool.true_and] at hb
  refine isLen_inj (Or.inr ⟨?_, hb, hk⟩) (wayL_len hr)
  by_cases e : k = 0
  · subst e; cases hb
  · omega
theorem len_set {k : Nat} : bs (wB adj op st k) 16 ||| bs (fun i => wB adj op st (k + 1) i && !wB adj op st k i) 16 = bs (wB adj op st (k + 1)) 16 := by
  rw [bs_or (by omega)]
  refine bs_cong (fun i _ => ?_)
  cases h : wB adj op st k i with
  | true => rw [wB_mono h]; rfl
  | false => simp
theorem len_more {k : Nat} : bs (fun i => anyR (fun r => (wB adj op st (k + 1) r && !wB adj op st k r) && adj r i) 16 && op i) 16 &&& (bs (wB adj op st (k + 1)) 16 ^^^ (-1)) = bs (fun i => wB adj op st (k + 2) i && !wB adj op st (k + 1) i) 16 := by
  rw [bs_diff (by omega)]
  refine bs_cong (fun i _ => ?_)
  rw [← wB_next, Bool.and_comm (op i)]
theorem len_more0 : bs st 16 &&& bs op 16 = bs (fun i => wB adj op st 1 i && !wB adj op st 0 i) 16 := by
  rw [bs_and (by omega)]
  refine bs_cong (fun i _ => ?_)
  have h : anyR (fun r => wB adj op st 0 r && adj r i) 16 = false := by
    rw [Bool.eq_false_iff, ne_eq, anyR_iff]
    rintro ⟨r, _, h⟩
    cases h
  rw [show wB adj op st 1 i = (op i && (st i || anyR (fun r => wB adj op st 0 r && adj r i) 16)) from rfl, h, show wB adj op st 0 i = false from rfl, Bool.or_false, Bool.and_comm]
  simp
theorem len_new {k : Nat} (h : ¬ bs (fun i => wB adj op st (k + 1) i && !wB adj op st k i) 16 = 0) : ∃ i, i < 16 ∧ wB adj op st (k + 1) i = true ∧ wB adj op st k i = false := by
  rw [bs_zero (by omega)] at h
  obtain ⟨i, h1⟩ := Classical.not_forall.mp h
  obtain ⟨h2, h3⟩ := Classical.not_imp.mp h1
  refine ⟨i, h2, ?_⟩
  cases h4 : wB adj op st (k + 1) i <;> cases h5 : wB adj op st k i <;> simp_all
theorem len_17 (h : ∀ j, j < 17 → ∃ i, i < 16 ∧ wB adj op st (j + 1) i = true ∧ wB adj op st j i = false) : False := by
  have h1 := wB_count h
  have h2 := cntR_le (wB adj op st 17) 16
  omega
theorem len_r {k : Nat} (h : bs (fun i => wB adj op st (k + 1) i && !wB adj op st k i) 16 = 0) (hk : k < 17) : bs (wB adj op st k) 16 = bs (wB adj op st 16) 16 := by
  rw [bs_zero (by omega)] at h
  have h4 : ∀ i, i < 16 → wB adj op st (k + 1) i = wB adj op st k i := by
    intro i hi
    have h5 := h i hi
    cases h6 : wB adj op st k i with
    | true => exact wB_mono h6
    | false => simpa [h6] using h5
  exact bs_cong (fun i hi => (wB_fix h4 16 (by omega) i hi).symm)
end WL
def bedN (s : List Int32) (f : Nat) : Nat := (fld s f 7).toInt.toNat
theorem bedN_e {s : List Int32} {n f : Nat} (I : SI s n) (hn : n ≤ 8) (hf : f < n) : fld s f 7 = nI (bedN s f) ∧ bedN s f < n := by
  obtain ⟨b, h1, h2⟩ := (I.1 f hf).2.2.2.2.2.2.2
  have : bedN s f = b := by
    unfold bedN
    rw [h2, nI_toInt (by omega)]
    rfl
  rw [this]
  exact ⟨h2, h1⟩
def homeN (s : List Int32) (f : Nat) : Nat := 2 * bedN s f + 1
/-- the LENGTH of the shortest WAY home, 0: none -/
def wayF (s : List Int32) (n f : Nat) (c : Int32) : Nat := wayL (adjB s n) (opB s n f c) (gB n) (homeN s f)
def offB (s : List Int32) (n f : Nat) (c : Int32) : Bool := decide (wayF s n f c = 0)
section M6
variable {X : List Int32} {w : ab_W} {s : List Int32} {n : Nat}
set_option maxRecDepth 100000 in
set_option maxHeartbeats 4000000 in
theorem m_lengthOf (M : MS w s n) (I : SI s n) (st op : Nat → Bool) (hop : ∀ r, r < 16 → op r = true → r < 2 * n) (room : Nat) (hr : room < 16) : ab_M X kX6_lengthOf [.ref 54, .int (bs st 16), .int (nI room), .int (bs op 16)] w (some (.int (nI (wayL (adjB s n) op st room)))) w := by
  obtain ⟨vs, hm, hv, hs, hl, h0, hn⟩ := id M
  show ab_G X kX6_lengthOf 0 [some (.ref 54), some (.int (bs st 16)), some (.int (nI room)), some (.int (bs op 16)), none, none, none] [] w _ _
  refine ab_k (y := 0) rfl rfl ?_
  iterate 3 refine ab_s rfl ?_
  refine ab_s rfl ?_
  refine ab_t (len_more0 (adj := adjB s n)) ?_
  refine ab_s rfl ?_
  refine ab_k (y := 0) rfl rfl ?_
  refine ab_s rfl ?_
  refine g_loop0 17 (fun k ls => ls = [some (.ref 54), some (.int (bs st 16)), some (.int (nI room)), some (.int (bs op 16)), some (.int (bs (wB (adjB s n) op st k) 16)), some (.int (bs (fun i => wB (adjB s n) op st (k + 1) i && !wB (adjB s n) op st k i) 16)), some (.int (nI k))] ∧ (∀ j, j < k → ∃ i, i < 16 ∧ wB (adjB s n) op st (j + 1) i = true ∧ wB (adjB s n) op st j i = false) ∧ (∀ j, j < k → wB (adjB s n) op st j room = false)) ⟨by rw [show bs (wB (adjB s n) op st 0) 16 = 0 from (bs_zero (by omega)).mpr (fun _ _ => rfl)]; rfl, fun j hj => absurd hj (by omega), fun j hj => absurd hj (by omega)⟩ (fun k ls hk hJ ih => ?_) (fun ls hJ => (len_17 hJ.2.1).elim)
  obtain ⟨rfl, hj1, hj2⟩ := hJ
  refine ab_s rfl ?_
  refine j1_eq rfl rfl (fun h13 => ?_) (fun h13 => ?_)
  · iterate 2 refine ab_s rfl ?_
    refine ab_c rfl (m_has room (by omega)) ?_
    refine z1_eq rfl rfl (fun h59 => ?_) (fun h59 => ?_)
    · refine ab_k (y := 0) rfl rfl ?_
      exact ab_ri rfl (by first | exact congrArg nI (len_a hr h13 h59) | exact congrArg nI (len_b hr hj2 h59) | (rw [h22] at h59; cases h59))
    · iterate 2 refine ab_s rfl ?_
      exact ab_ri rfl (by first | exact congrArg nI (len_a hr h13 h59) | exact congrArg nI (len_b hr hj2 h59) | (rw [h22] at h59; cases h59))
  · iterate 2 refine ab_s rfl ?_
    refine ab_c rfl (m_has room (by omega)) ?_
    refine z1_ne rfl rfl (fun h22 => ?_) (fun h22 => ?_)
    · iterate 2 refine ab_s rfl ?_
      refine ab_c rfl (m_has room (by omega)) ?_
      refine z1_eq rfl rfl (fun h59 => ?_) (fun h59 => ?_)
      · refine ab_k (y := 0) rfl rfl ?_
        exact ab_ri rfl (by first | exact congrArg nI (len_a hr h13 h59) | exact congrArg nI (len_b hr hj2 h59) | (rw [h22] at h59; cases h59))
      · iterate 2 refine ab_s rfl ?_
        exact ab_ri rfl (by first | exact congrArg nI (len_a hr h13 h59) | exact congrArg nI (len_b hr hj2 h59) | (rw [h22] at h59; cases h59))
    · iterate 2 refine ab_s rfl ?_
      refine ab_s rfl ?_
      refine ab_t len_set ?_
      iterate 3 refine ab_s rfl ?_
      refine ab_cv rfl rfl rfl hm rfl rfl (m_joinedAll M I (fun i => wB (adjB s n) op st (k + 1) i && !wB (adjB s n) op st k i) (fun r hr h => by simp only [Bool.and_eq_true] at h; exact hop r hr (wB_op h.1))) ?_
      refine ab_s rfl ?_
      refine ab_s rfl ?_
      refine ab_t (bs_and (by omega)) ?_
      refine ab_s rfl ?_
      refine ab_k (y := (-1)) rfl rfl ?_
      refine ab_s rfl ?_
      refine ab_s rfl ?_
      refine ab_t len_more ?_
      refine ab_s rfl ?_
      refine ab_ii rfl rfl rfl ?_
      refine ab_s rfl ?_
      have hb : wB (adjB s n) op st k room = false := by
        rw [bt_bs _ _ _ (by omega) (by omega), decide_eq_true hr, Bool.true_and] at h22
        exact h22
      refine ih _ ⟨rfl, fun j hj => ?_, fun j hj => ?_⟩
      · by_cases e : j = k
        · rw [e]; exact len_new h13
        · exact hj1 j (by omega)
      · by_cases e : j = k
        · rw [e]; exact hb
        · exact hj2 j (by omega)
set_option maxRecDepth 100000 in
set_option maxHeartbeats 4000000 in
theorem m_homeOf (M : MS w s n) (I : SI s n) (f : Nat) (hf : f < n) : ab_M X kX6_homeOf [.ref 54, .int (nI f)] w (some (.int (nI (homeN s f)))) w := by
  obtain ⟨vs, hm, hv, hs, hl, h0, hn⟩ := id M
  obtain ⟨hb, -⟩ := bedN_e I hn hf
  show ab_G X kX6_homeOf 0 [some (.ref 54), some (.int (nI f))] [] w _ _
  refine ab_k (y := 2) rfl rfl ?_
  iterate 2 refine ab_s rfl ?_
  refine ab_k (y := 7) rfl rfl ?_
  refine ab_cv rfl rfl rfl hm rfl rfl (m_its M f 7 (by omega) (by omega) rfl rfl) ?_
  refine ab_t hb ?_
  refine ab_s rfl ?_
  refine ab_t (pk_mul 2 (bedN s f)) ?_
  refine ab_k (y := 1) rfl rfl ?_
  refine ab_s rfl ?_
  refine ab_t (nI_1 (2 * bedN s f)) ?_
  exact ab_ri rfl rfl
set_option maxRecDepth 100000 in
set_option maxHeartbeats 4000000 in
theorem opB_lt {f r : Nat} {c : Int32} (h : opB s n f c r = true) : r < 2 * n := by
  unfold opB at h
  simp only [Bool.and_eq_true, decide_eq_true_eq] at h
  omega
theorem homeN_lt (I : SI s n) (hn : n ≤ 8) {f : Nat} (hf : f < n) : homeN s f < 2 * n := by
  have := (bedN_e I hn hf).2
  unfold homeN
  omega
theorem m_wayHome (M : MS w s n) (I : SI s n) (f : Nat) (hf : f < n) (c : Int32) : ab_M X kX6_wayHome [.ref 54, .int (nI f), .int c] w (some (.int (nI (wayF s n f c)))) w := by
  obtain ⟨vs, hm, hv, hs, hl, h0, hn⟩ := id M
  have hh := homeN_lt I hn hf
  show ab_G X kX6_wayHome 0 [some (.ref 54), some (.int (nI f)), some (.int c)] [] w _ _
  iterate 2 refine ab_s rfl ?_
  refine ab_cv rfl rfl rfl hm rfl rfl (m_grounds M) ?_
  iterate 2 refine ab_s rfl ?_
  refine ab_cv rfl rfl rfl hm rfl rfl (m_homeOf M I f hf) ?_
  iterate 3 refine ab_s rfl ?_
  refine ab_cv rfl rfl rfl hm rfl rfl (m_openRooms M I f (by omega) c) ?_
  refine ab_cv rfl rfl rfl hm rfl rfl (m_lengthOf M I (gB n) (opB s n f c) (fun r _ h => opB_lt h) (homeN s f) (by omega)) ?_
  exact ab_ri rfl rfl
set_option maxRecDepth 100000 in
set_option maxHeartbeats 4000000 in
theorem m_isOff (M : MS w s n) (I : SI s n) (f : Nat) (hf : f < n) (c : Int32) : ab_M X kX6_isOff [.ref 54, .int (nI f), .int c] w (some (.int (z01 (offB s n f c)))) w := by
  obtain ⟨vs, hm, hv, hs, hl, h0, hn⟩ := id M
  have hw : wayF s n f c ≤ 16 := wayL_le _
  show ab_G X kX6_isOff 0 [some (.ref 54), some (.int (nI f)), some (.int c)] [] w _ _
  iterate 3 refine ab_s rfl ?_
  refine ab_cv rfl rfl rfl hm rfl rfl (m_wayHome M I f hf c) ?_
  refine j1_ne rfl rfl (fun h6 => ?_) (fun h6 => ?_)
  · refine ab_k (y := 0) rfl rfl ?_
    rw [show (0 : Int32) = nI 0 from rfl, nI_eq (by omega) (by omega)] at h6
    exact ab_ri rfl (by unfold offB; first | (rw [decide_eq_true h6]; rfl) | (rw [decide_eq_false h6]; rfl))
  · refine ab_k (y := 1) rfl rfl ?_
    refine ab_s rfl ?_
    rw [show (0 : Int32) = nI 0 from rfl, nI_eq (by omega) (by omega)] at h6
    exact ab_ri rfl (by unfold offB; first | (rw [decide_eq_true h6]; rfl) | (rw [decide_eq_false h6]; rfl))
set_option maxRecDepth 100000 in
set_option maxHeartbeats 4000000 in
theorem m_offSet (M : MS w s n) (I : SI s n) (c : Int32) : ab_M X kX6_offSet [.ref 54, .int c] w (some (.int (bs (fun f => offB s n f c) n))) w := by
  obtain ⟨vs, hm, hv, hs, hl, h0, hn⟩ := id M
  show ab_G X kX6_offSet 0 [some (.ref 54), some (.int c), none, none] [] w _ _
  refine ab_k (y := 0) rfl rfl ?_
  refine ab_s rfl ?_
  refine ab_k (y := 0) rfl rfl ?_
  refine ab_s rfl ?_
  refine g_loop0 n (fun i ls => ls = [some (.ref 54), some (.int c), some (.int (bs (fun f => offB s n f c) i)), some (.int (nI i))]) rfl (fun i ls hi hJ ih => ?_) (fun ls hJ => ?_)
  · subst hJ
    iterate 2 refine ab_s rfl ?_
    refine ab_gf rfl rfl rfl hm hv ?_
    refine ab_k (y := 0) rfl rfl ?_
    refine ab_ia 0 rfl hs (by omega) rfl (by omega) ?_
    refine ab_t h0 ?_
    refine j2_ge rfl rfl (fun h11 => absurd h11 (nI_ge  hi (by omega))) (fun h11 => ?_)
    iterate 4 refine ab_s rfl ?_
    refine ab_cv rfl rfl rfl hm rfl rfl (m_isOff M I i hi c) ?_
    refine z1_eq rfl rfl (fun h21 => ?_) (fun h21 => ?_)
    · refine ab_k (y := 0) rfl rfl ?_
      iterate 2 refine ab_s rfl ?_
      refine ab_ii rfl rfl rfl ?_
      refine ab_s rfl ?_
      exact ih _ (by first | (rw [← bs_succ_t (p := (fun f => offB s n f c)) h21]; rfl) | (rw [← bs_succ_f0 (p := (fun f => offB s n f c)) h21]; rfl))
    · refine ab_k (y := 1) rfl rfl ?_
      iterate 5 refine ab_s rfl ?_
      refine ab_ii rfl rfl rfl ?_
      refine ab_s rfl ?_
      exact ih _ (by first | (rw [← bs_succ_t (p := (fun f => offB s n f c)) h21]; rfl) | (rw [← bs_succ_f0 (p := (fun f => offB s n f c)) h21]; rfl))
  · subst hJ
    iterate 2 refine ab_s rfl ?_
    refine ab_gf rfl rfl rfl hm hv ?_
    refine ab_k (y := 0) rfl rfl ?_
    refine ab_ia 0 rfl hs (by omega) rfl (by omega) ?_
    refine ab_t h0 ?_
    refine j2_ge rfl rfl (fun h11 => ?_) (fun h11 => absurd (nI_le  (Nat.le_refl _) (by omega)) h11)
    refine ab_s rfl ?_
    exact ab_ri rfl rfl
set_option maxRecDepth 100000 in
set_option maxHeartbeats 4000000 in
theorem m_offHours (M : MS w s n) (I : SI s n) (f : Nat) (hf : f < n) : ab_M X kX6_offHours [.ref 54, .int (nI f)] w (some (.int (bs (fun c => offB s n f (nI c)) 24))) w := by
  obtain ⟨vs, hm, hv, hs, hl, h0, hn⟩ := id M
  show ab_G X kX6_offHours 0 [some (.ref 54), some (.int (nI f)), none, none] [] w _ _
  refine ab_k (y := 0) rfl rfl ?_
  refine ab_s rfl ?_
  refine ab_k (y := 0) rfl rfl ?_
  refine ab_s rfl ?_
  refine g_loop0 24 (fun i ls => ls = [some (.ref 54), some (.int (nI f)), some (.int (bs (fun c => offB s n f (nI c)) i)), some (.int (nI i))]) rfl (fun i ls hi hJ ih => ?_) (fun ls hJ => ?_)
  · subst hJ
    refine ab_s rfl ?_
    refine ab_k (y := 24) rfl rfl ?_
    refine j2_ge rfl rfl (fun h7 => absurd h7 (nI_ge (b := 24) hi (by omega))) (fun h7 => ?_)
    iterate 4 refine ab_s rfl ?_
    refine ab_cv rfl rfl rfl hm rfl rfl (m_isOff M I f hf (nI i)) ?_
    refine z1_eq rfl rfl (fun h17 => ?_) (fun h17 => ?_)
    · refine ab_k (y := 0) rfl rfl ?_
      iterate 2 refine ab_s rfl ?_
      refine ab_ii rfl rfl rfl ?_
      refine ab_s rfl ?_
      exact ih _ (by first | (rw [← bs_succ_t (p := (fun c => offB s n f (nI c))) h17]; rfl) | (rw [← bs_succ_f0 (p := (fun c => offB s n f (nI c))) h17]; rfl))
    · refine ab_k (y := 1) rfl rfl ?_
      iterate 5 refine ab_s rfl ?_
      refine ab_ii rfl rfl rfl ?_
      refine ab_s rfl ?_
      exact ih _ (by first | (rw [← bs_succ_t (p := (fun c => offB s n f (nI c))) h17]; rfl) | (rw [← bs_succ_f0 (p := (fun c => offB s n f (nI c))) h17]; rfl))
  · subst hJ
    refine ab_s rfl ?_
    refine ab_k (y := 24) rfl rfl ?_
    refine j2_ge rfl rfl (fun h7 => ?_) (fun h7 => absurd (nI_le (a := 24) (b := 24) (Nat.le_refl _) (by omega)) h7)
    refine ab_s rfl ?_
    exact ab_ri rfl rfl
set_option maxRecDepth 100000 in
set_option maxHeartbeats 4000000 in
theorem m_reached (M : MS w s n) (I : SI s n) (f : Nat) (hf : f < n) (c : Int32) : ab_M X kX6_reached [.ref 54, .int (nI f), .int c] w (some (.int (bs (wB (adjB s n) (opB s n f c) (gB n) 16) 16))) w := by
  obtain ⟨vs, hm, hv, hs, hl, h0, hn⟩ := id M
  show ab_G X kX6_reached 0 [some (.ref 54), some (.int (nI f)), some (.int c), none, none, none] [] w _ _
  iterate 3 refine ab_s rfl ?_
  refine ab_cv rfl rfl rfl hm rfl rfl (m_openRooms M I f (by omega) c) ?_
  refine ab_s rfl ?_
  refine ab_k (y := 0) rfl rfl ?_
  iterate 2 refine ab_s rfl ?_
  refine ab_cv rfl rfl rfl hm rfl rfl (m_grounds M) ?_
  refine ab_s rfl ?_
  refine ab_s rfl ?_
  refine ab_t (len_more0 (adj := adjB s n)) ?_
  refine ab_s rfl ?_
  refine g_loop0 17 (fun k ls => ls = [some (.ref 54), some (.int (nI f)), some (.int c), some (.int (bs (opB s n f c) 16)), some (.int (bs (wB (adjB s n) (opB s n f c) (gB n) k) 16)), some (.int (bs (fun i => wB (adjB s n) (opB s n f c) (gB n) (k + 1) i && !wB (adjB s n) (opB s n f c) (gB n) k i) 16))] ∧ (∀ j, j < k → ∃ i, i < 16 ∧ wB (adjB s n) (opB s n f c) (gB n) (j + 1) i = true ∧ wB (adjB s n) (opB s n f c) (gB n) j i = false)) ⟨by rw [show bs (wB (adjB s n) (opB s n f c) (gB n) 0) 16 = 0 from (bs_zero (by omega)).mpr (fun _ _ => rfl)]; rfl, fun j hj => absurd hj (by omega)⟩ (fun k ls hk hJ ih => ?_) (fun ls hJ => (len_17 hJ.2).elim)
  obtain ⟨rfl, hj1⟩ := hJ
  refine ab_s rfl ?_
  refine j1_eq rfl rfl (fun h20 => ?_) (fun h20 => ?_)
  · refine ab_s rfl ?_
    exact ab_ri rfl (len_r h20 hk)
  · iterate 2 refine ab_s rfl ?_
    refine ab_s rfl ?_
    refine ab_t len_set ?_
    iterate 3 refine ab_s rfl ?_
    refine ab_cv rfl rfl rfl hm rfl rfl (m_joinedAll M I (fun i => wB (adjB s n) (opB s n f c) (gB n) (k + 1) i && !wB (adjB s n) (opB s n f c) (gB n) k i) (fun r hr h => by simp only [Bool.and_eq_true] at h; exact opB_lt (wB_op h.1))) ?_
    refine ab_s rfl ?_
    refine ab_s rfl ?_
    refine ab_t (bs_and (by omega)) ?_
    refine ab_s rfl ?_
    refine ab_k (y := (-1)) rfl rfl ?_
    refine ab_s rfl ?_
    refine ab_s rfl ?_
    refine ab_t len_more ?_
    iterate 2 refine ab_s rfl ?_
    refine ih _ ⟨rfl, fun j hj => ?_⟩
    by_cases e : j = k
    · rw [e]; exact len_new h20
    · exact hj1 j (by omega)
end M6
end
section
/-! THE REFERENCE: what it keeps, its findings -/
def inN (x : Int32) (n : Nat) : Bool := decide (0 ≤ x.toInt ∧ x.toInt < n)
theorem inN_iff {x : Int32} {n : Nat} (hn : n < 2 ^ 31) : inN x n = true ↔ isN x n := by
  unfold inN
  rw [isN_iff hn, decide_eq_true_eq]
theorem inN_t {x : Int32} {n : Nat} (hn : n < 2 ^ 31) (h : inN x n = true) : ∃ j, j < n ∧ x = nI j := (inN_iff hn).mp h
theorem inN_n {j n : Nat} (hn : n < 2 ^ 31) (h : j < n) : inN (nI j) n = true := (inN_iff hn).mpr ⟨j, h, rfl⟩
theorem inN_f {x : Int32} {n : Nat} (hn : n < 2 ^ 31) (h : inN x n = false) : ¬ isN x n := fun q => by rw [← inN_iff hn, h] at q; cases q
def mObj (kp : Bool) (tn : Nat) (fr to vl : Int32) (wr : Bool) : List Value := [.ref 55, .ref 56, .ref 57, .ref 58, .int (z01 kp), .ref 59, .ref 60, .int (nI tn), .int fr, .int to, .int vl, .int (z01 wr), .ref 61, .ref 62, .ref 63, .ref 64]
/-- the reference's object and all that it keeps -/
def MW (w : ab_W) (s : List Int32) (n : Nat) (st ks : List Int32) (kp : Bool) (tp : List Int32) (tn : Nat) (bo so nu : List Int32) : Prop :=
  ∃ oth nz mv fr to vl wr, w[54]? = some (.inl (6, mObj kp tn fr to vl wr)) ∧ w[55]? = some (.inr s) ∧ w[56]? = some (.inr ks) ∧ w[57]? = some (.inr oth) ∧ w[58]? = some (.inr st) ∧ w[59]? = some (.inr nz) ∧ w[60]? = some (.inr tp) ∧ w[61]? = some (.inr bo) ∧ w[62]? = some (.inr so) ∧ w[63]? = some (.inr nu) ∧ w[64]? = some (.inr mv) ∧ (s.length = 90 ∧ ks.length = 90 ∧ oth.length = 90 ∧ st.length = 7 ∧ nz.length = 16 ∧ tp.length = 120 ∧ bo.length = 4 ∧ so.length = 4 ∧ nu.length = 160 ∧ mv.length = 40) ∧ s.getD 0 0 = nI n ∧ n ≤ 8 ∧ tn ≤ 120
/-- what a call of the reference tells and leaves -/
def MP (w : ab_W) (r : Int32) (s : List Int32) (n : Nat) (st ks : List Int32) (kp : Bool) (tp : List Int32) (tn : Nat) (bo so nu : List Int32) (v : Option Value) (w' : ab_W) : Prop :=
  v = some (.int r) ∧ MW w' s n st ks kp tp tn bo so nu ∧ ∀ i, i < 54 → w'[i]? = w[i]?
def bump (st : List Int32) (f : Nat) : List Int32 := st.set f (st.getD f 0 + 1)
section M7
variable {X : List Int32} {w : ab_W} {s : List Int32} {n : Nat} {st ks : List Int32} {kp : Bool} {tp : List Int32} {tn : Nat} {bo so nu : List Int32}
theorem MW.ms (R : MW w s n st ks kp tp tn bo so nu) : MS w s n := by
  obtain ⟨oth, nz, mv, fr, to, vl, wr, a54, a55, a56, a57, a58, a59, a60, a61, a62, a63, a64, l, h0, hn, ht⟩ := R
  exact ⟨_, a54, rfl, a55, l.1, h0, hn⟩
theorem MW.n8 (R : MW w s n st ks kp tp tn bo so nu) : n ≤ 8 := by
  obtain ⟨oth, nz, mv, fr, to, vl, wr, a54, a55, a56, a57, a58, a59, a60, a61, a62, a63, a64, l, h0, hn, ht⟩ := R
  exact hn
theorem MW.st58 (R : MW w s n st ks kp tp tn bo so nu) {w1 : ab_W} {st1 : List Int32} (h : w1[58]? = some (.inr st1)) (hl : st1.length = 7) (hf : ∀ i, i ≠ 58 → w1[i]? = w[i]?) : MW w1 s n st1 ks kp tp tn bo so nu := by
  obtain ⟨oth, nz, mv, fr, to, vl, wr, a54, a55, a56, a57, a58, a59, a60, a61, a62, a63, a64, l, h0, hn, ht⟩ := R
  exact ⟨oth, nz, mv, fr, to, vl, wr, by rw [hf _ (by decide)]; exact a54, by rw [hf _ (by decide)]; exact a55, by rw [hf _ (by decide)]; exact a56, by rw [hf _ (by decide)]; exact a57, h, by rw [hf _ (by decide)]; exact a59, by rw [hf _ (by decide)]; exact a60, by rw [hf _ (by decide)]; exact a61, by rw [hf _ (by decide)]; exact a62, by rw [hf _ (by decide)]; exact a63, by rw [hf _ (by decide)]; exact a64, ⟨l.1, l.2.1, l.2.2.1, hl, l.2.2.2.2⟩, h0, hn, ht⟩
theorem MW.s55 (R : MW w s n st ks kp tp tn bo so nu) {w1 : ab_W} {s1 : List Int32} {n1 : Nat} (h : w1[55]? = some (.inr s1)) (hl : s1.length = 90) (h1 : s1.getD 0 0 = nI n1) (h8 : n1 ≤ 8) (hf : ∀ i, i ≠ 55 → w1[i]? = w[i]?) : MW w1 s1 n1 st ks kp tp tn bo so nu := by
  obtain ⟨oth, nz, mv, fr, to, vl, wr, a54, a55, a56, a57, a58, a59, a60, a61, a62, a63, a64, l, h0, hn, ht⟩ := R
  exact ⟨oth, nz, mv, fr, to, vl, wr, by rw [hf _ (by decide)]; exact a54, h, by rw [hf _ (by decide)]; exact a56, by rw [hf _ (by decide)]; exact a57, by rw [hf _ (by decide)]; exact a58, by rw [hf _ (by decide)]; exact a59, by rw [hf _ (by decide)]; exact a60, by rw [hf _ (by decide)]; exact a61, by rw [hf _ (by decide)]; exact a62, by rw [hf _ (by decide)]; exact a63, by rw [hf _ (by decide)]; exact a64, ⟨hl, l.2⟩, h1, h8, ht⟩
theorem MP.same (R : MW w s n st ks kp tp tn bo so nu) (r : Int32) : MP w r s n st ks kp tp tn bo so nu (some (.int r)) w := ⟨rfl, R, fun _ _ => rfl⟩
theorem m_isHouse (M : MS w s n) (x : Int32) : ab_M X kX6_isHouse [.ref 54, .int x] w (some (.int (z01 (inN x n)))) w := by
  have hn : n ≤ 8 := M.choose_spec.2.2.2.2.2
  cases h : inN x n with
  | true => exact m_isHouse1 M ((inN_iff (by omega)).mp h)
  | false => exact m_isHouse0 M (inN_f (by omega) h)
theorem m_isRoom (M : MS w s n) (x : Int32) : ab_M X kX6_isRoom [.ref 54, .int x] w (some (.int (z01 (inN x (2 * n))))) w := by
  have hn : n ≤ 8 := M.choose_spec.2.2.2.2.2
  cases h : inN x (2 * n) with
  | true => exact m_isRoom1 M ((inN_iff (by omega)).mp h)
  | false => exact m_isRoom0 M (inN_f (by omega) h)
theorem m_isClock (x : Int32) : ab_M X kX6_isClock [.int x] w (some (.int (z01 (inN x 24)))) w := by
  cases h : inN x 24 with
  | true => exact m_isClock1 ((inN_iff (by omega)).mp h)
  | false => exact m_isClock0 (inN_f (by omega) h)
theorem m_isAsk (M : MS w s n) (x c : Int32) : ab_M X kX6_isAsk [.ref 54, .int x, .int c] w (some (.int (z01 (inN x n && inN c 24)))) w := by
  have hn : n ≤ 8 := M.choose_spec.2.2.2.2.2
  cases h : inN x n && inN c 24 with
  | true =>
    rw [Bool.and_eq_true, inN_iff (by omega), inN_iff (by omega)] at h
    exact m_isAsk1 M h.1 h.2
  | false => exact m_isAsk0 M (fun q => by rw [← inN_iff (by omega), ← inN_iff (by omega), ← Bool.and_eq_true, h] at q; cases q)
theorem m_inZ (x : Int32) {b c : Int64} {m : Nat} (hb : b.toInt = 0) (hc : c.toInt = (m : Int) - 1) : ab_M X kX6_in [.long x.toInt64, .long b, .long c] w (some (.int (z01 (inN x m)))) w := by
  unfold inN
  by_cases h : 0 ≤ x.toInt ∧ x.toInt < m
  · rw [decide_eq_true h]
    exact m_in1 hb hc (by omega)
  · rw [decide_eq_false h]
    exact m_in0 hb hc (by omega)
theorem m_ones_s : ∀ m, m < 256 → ¬ m = 0 → (nI m &&& (nI m - 1) = nI (m &&& (m - 1)) ∧ (m &&& (m - 1)) < 256) ∧ cntR (bt (nI m)) 8 = cntR (bt (nI (m &&& (m - 1)))) 8 + 1 := by decide +kernel
set_option maxRecDepth 100000 in
set_option maxHeartbeats 4000000 in
theorem m_ones (m : Nat) (hm : m < 256) : ab_M X kX6_ones [.int (nI m)] w (some (.int (nI (cntR (bt (nI m)) 8)))) w := by
  show ab_G X kX6_ones 0 [some (.int (nI m)), none, none] [] w _ _
  refine ab_k (y := 0) rfl rfl ?_
  iterate 3 refine ab_s rfl ?_
  refine g_loop0 9 (fun i ls => ∃ k, k < 256 ∧ i + cntR (bt (nI k)) 8 = cntR (bt (nI m)) 8 ∧ ls = [some (.int (nI m)), some (.int (nI i)), some (.int (nI k))]) ⟨m, hm, by omega, rfl⟩ (fun i ls hi hJ ih => ?_) (fun ls hJ => ?_)
  · obtain ⟨k, hk, hc, rfl⟩ := hJ
    refine ab_s rfl ?_
    refine j1_eq rfl rfl (fun h5 => ?_) (fun h5 => ?_)
    · refine ab_s rfl ?_
      rw [h5, show cntR (bt 0) 8 = 0 from by decide +kernel] at hc
      exact ab_ri rfl (congrArg nI (by omega))
    · refine ab_ii rfl rfl rfl ?_
      iterate 2 refine ab_s rfl ?_
      refine ab_k (y := 1) rfl rfl ?_
      iterate 4 refine ab_s rfl ?_
      have hk0 : ¬ k = 0 := fun q => h5 (by rw [q]; rfl)
      obtain ⟨⟨e1, e2⟩, e3⟩ := m_ones_s k hk hk0
      exact ih _ ⟨k &&& (k - 1), e2, by omega, by rw [← e1]; rfl⟩
  · obtain ⟨k, hk, hc, rfl⟩ := hJ
    have := cntR_le (bt (nI m)) 8
    omega
set_option maxRecDepth 100000 in
set_option maxHeartbeats 4000000 in
theorem m_lowest (x : Int32) (k : Nat) (hk : k < 32) (h1 : bt x k = true) (h2 : ∀ j, j < k → bt x j = false) : ab_M X kX6_lowest [.int x] w (some (.int (nI k))) w := by
  show ab_G X kX6_lowest 0 [some (.int x), none] [] w _ _
  refine ab_k (y := 0) rfl rfl ?_
  refine ab_s rfl ?_
  refine g_loop0 k (fun i ls => ls = [some (.int x), some (.int (nI i))]) rfl (fun i ls hi hJ ih => ?_) (fun ls hJ => ?_)
  · subst hJ
    iterate 2 refine ab_s rfl ?_
    refine ab_c rfl (m_has i (by omega)) ?_
    refine z1_ne rfl rfl (fun h7 => absurd h7 (by rw [h2 i hi]; decide)) (fun h7 => ?_)
    refine ab_ii rfl rfl rfl ?_
    refine ab_s rfl ?_
    exact ih _ rfl
  · subst hJ
    iterate 2 refine ab_s rfl ?_
    refine ab_c rfl (m_has k (by omega)) ?_
    refine z1_ne rfl rfl (fun h7 => ?_) (fun h7 => absurd h7 (by rw [h1]; decide))
    refine ab_s rfl ?_
    exact ab_ri rfl rfl
set_option maxRecDepth 100000 in
set_option maxHeartbeats 4000000 in
theorem m_finds (R : MW w s n st ks kp tp tn bo so nu) (f : Nat) (hf : f < 7) (x : Int32) (hx : -1000001 - x = nI f) : ab_Q X kX6_finds [.ref 54, .int x] w (MP w x s n (bump st f) ks kp tp tn bo so nu) := by
  have R0 := R
  obtain ⟨oth, nz, mv, fr, to, vl, wr, a54, a55, a56, a57, a58, a59, a60, a61, a62, a63, a64, l, h0, hn, ht⟩ := R
  show ab_H X kX6_finds 0 [some (.ref 54), some (.int x)] [] w _
  refine h_s rfl ?_
  refine h_gf rfl rfl rfl a54 rfl ?_
  iterate 4 refine h_s rfl ?_
  refine h_ia f rfl a58 (by omega) hx (by omega) ?_
  refine h_k (y := 1) rfl rfl ?_
  refine h_s rfl ?_
  refine h_is f rfl a58 (by omega) hx (by omega) (fun w1 e1 f1 => ?_)
  refine h_s rfl ?_
  exact h_ri rfl rfl ⟨rfl, R0.st58 e1 ((List.length_set ..).trans l.2.2.2.1) f1, fun i hi => f1 i (by omega)⟩
end M7
end
section
/-! THE REFERENCE: calls that only tell, 1 -/
section M8
variable {X : List Int32} {w : ab_W} {s : List Int32} {n : Nat} {st ks : List Int32} {kp : Bool} {tp : List Int32} {tn : Nat} {bo so nu : List Int32}
set_option maxRecDepth 100000 in
set_option maxHeartbeats 4000000 in
theorem m_of_b (R : MW w s n st ks kp tp tn bo so nu) (a b : Int32) (hb : (inN a n && inN b 8) = false)  : ab_Q X kX6_of [.ref 54, .int a, .int b] w (MP w (-1000001) s n (bump st 0) ks kp tp tn bo so nu) := by
  have M := R.ms
  have R0 := R
  obtain ⟨oth, nz, mv, fr, to, vl, wr, a54, a55, a56, a57, a58, a59, a60, a61, a62, a63, a64, l, h0, hn, ht⟩ := R
  show ab_H X kX6_of 0 [some (.ref 54), some (.int a), some (.int b)] [] w _
  iterate 2 refine h_s rfl ?_
  refine h_cv rfl rfl rfl a54 rfl rfl (m_isHouse M _) ?_
  refine hz_eq rfl rfl (fun h5 => ?_) (fun h5 => ?_)
  · iterate 2 refine h_s rfl ?_
    refine hq_v rfl rfl rfl a54 rfl rfl (m_finds R0 0 (by omega) _ (by decide)) (fun v1 w1 q1 => ?_)
    obtain ⟨rfl, q2, q3⟩ := q1
    exact h_ri rfl rfl ⟨rfl, q2, q3⟩
  · iterate 4 refine h_s rfl ?_
    refine h_c rfl (m_inZ (m := 8) _ rfl rfl) ?_
    refine hz_eq rfl rfl (fun h17 => ?_) (fun h17 => ?_)
    · iterate 2 refine h_s rfl ?_
      refine hq_v rfl rfl rfl a54 rfl rfl (m_finds R0 0 (by omega) _ (by decide)) (fun v1 w1 q1 => ?_)
      obtain ⟨rfl, q2, q3⟩ := q1
      exact h_ri rfl rfl ⟨rfl, q2, q3⟩
    · exact absurd hb (by simp [h5, h17])
set_option maxRecDepth 100000 in
set_option maxHeartbeats 4000000 in
theorem m_lets_b (R : MW w s n st ks kp tp tn bo so nu) (a b c : Int32) (hb : (inN a n && (inN b n && inN c 24)) = false)  : ab_Q X kX6_lets [.ref 54, .int a, .int b, .int c] w (MP w (-1000001) s n (bump st 0) ks kp tp tn bo so nu) := by
  have M := R.ms
  have R0 := R
  obtain ⟨oth, nz, mv, fr, to, vl, wr, a54, a55, a56, a57, a58, a59, a60, a61, a62, a63, a64, l, h0, hn, ht⟩ := R
  show ab_H X kX6_lets 0 [some (.ref 54), some (.int a), some (.int b), some (.int c)] [] w _
  iterate 2 refine h_s rfl ?_
  refine h_cv rfl rfl rfl a54 rfl rfl (m_isHouse M _) ?_
  refine hz_eq rfl rfl (fun h5 => ?_) (fun h5 => ?_)
  · iterate 2 refine h_s rfl ?_
    refine hq_v rfl rfl rfl a54 rfl rfl (m_finds R0 0 (by omega) _ (by decide)) (fun v1 w1 q1 => ?_)
    obtain ⟨rfl, q2, q3⟩ := q1
    exact h_ri rfl rfl ⟨rfl, q2, q3⟩
  · iterate 3 refine h_s rfl ?_
    refine h_cv rfl rfl rfl a54 rfl rfl (m_isAsk M _ _) ?_
    refine hz_ne rfl rfl (fun h14 => ?_) (fun h14 => ?_)
    · exact absurd hb (by simp [h5, h14])
    · iterate 2 refine h_s rfl ?_
      refine hq_v rfl rfl rfl a54 rfl rfl (m_finds R0 0 (by omega) _ (by decide)) (fun v1 w1 q1 => ?_)
      obtain ⟨rfl, q2, q3⟩ := q1
      exact h_ri rfl rfl ⟨rfl, q2, q3⟩
set_option maxRecDepth 100000 in
set_option maxHeartbeats 4000000 in
theorem m_letting_b (R : MW w s n st ks kp tp tn bo so nu) (a b : Int32) (hb : (inN a n && inN b 24) = false)  : ab_Q X kX6_letting [.ref 54, .int a, .int b] w (MP w (-1000001) s n (bump st 0) ks kp tp tn bo so nu) := by
  have M := R.ms
  have R0 := R
  obtain ⟨oth, nz, mv, fr, to, vl, wr, a54, a55, a56, a57, a58, a59, a60, a61, a62, a63, a64, l, h0, hn, ht⟩ := R
  show ab_H X kX6_letting 0 [some (.ref 54), some (.int a), some (.int b)] [] w _
  iterate 3 refine h_s rfl ?_
  refine h_cv rfl rfl rfl a54 rfl rfl (m_isAsk M _ _) ?_
  refine hz_eq rfl rfl (fun h6 => ?_) (fun h6 => ?_)
  · iterate 2 refine h_s rfl ?_
    refine hq_v rfl rfl rfl a54 rfl rfl (m_finds R0 0 (by omega) _ (by decide)) (fun v1 w1 q1 => ?_)
    obtain ⟨rfl, q2, q3⟩ := q1
    exact h_ri rfl rfl ⟨rfl, q2, q3⟩
  · exact absurd hb (by simp [h6])
set_option maxRecDepth 100000 in
set_option maxHeartbeats 4000000 in
theorem m_joined_b (R : MW w s n st ks kp tp tn bo so nu) (a : Int32) (hb : (inN a (2 * n)) = false)  : ab_Q X kX6_joined [.ref 54, .int a] w (MP w (-1000001) s n (bump st 0) ks kp tp tn bo so nu) := by
  have M := R.ms
  have R0 := R
  obtain ⟨oth, nz, mv, fr, to, vl, wr, a54, a55, a56, a57, a58, a59, a60, a61, a62, a63, a64, l, h0, hn, ht⟩ := R
  show ab_H X kX6_joined 0 [some (.ref 54), some (.int a)] [] w _
  iterate 2 refine h_s rfl ?_
  refine h_cv rfl rfl rfl a54 rfl rfl (m_isRoom M _) ?_
  refine hz_eq rfl rfl (fun h5 => ?_) (fun h5 => ?_)
  · iterate 2 refine h_s rfl ?_
    refine hq_v rfl rfl rfl a54 rfl rfl (m_finds R0 0 (by omega) _ (by decide)) (fun v1 w1 q1 => ?_)
    obtain ⟨rfl, q2, q3⟩ := q1
    exact h_ri rfl rfl ⟨rfl, q2, q3⟩
  · exact absurd hb (by simp [h5])
set_option maxRecDepth 100000 in
set_option maxHeartbeats 4000000 in
theorem m_way_b (R : MW w s n st ks kp tp tn bo so nu) (a b c : Int32) (hb : ((inN a n && inN c 24) && inN b (2 * n)) = false)  : ab_Q X kX6_way [.ref 54, .int a, .int b, .int c] w (MP w (-1000001) s n (bump st 0) ks kp tp tn bo so nu) := by
  have M := R.ms
  have R0 := R
  obtain ⟨oth, nz, mv, fr, to, vl, wr, a54, a55, a56, a57, a58, a59, a60, a61, a62, a63, a64, l, h0, hn, ht⟩ := R
  show ab_H X kX6_way 0 [some (.ref 54), some (.int a), some (.int b), some (.int c), none] [] w _
  iterate 3 refine h_s rfl ?_
  refine h_cv rfl rfl rfl a54 rfl rfl (m_isAsk M _ _) ?_
  refine hz_eq rfl rfl (fun h6 => ?_) (fun h6 => ?_)
  · iterate 2 refine h_s rfl ?_
    refine hq_v rfl rfl rfl a54 rfl rfl (m_finds R0 0 (by omega) _ (by decide)) (fun v1 w1 q1 => ?_)
    obtain ⟨rfl, q2, q3⟩ := q1
    exact h_ri rfl rfl ⟨rfl, q2, q3⟩
  · iterate 2 refine h_s rfl ?_
    refine h_cv rfl rfl rfl a54 rfl rfl (m_isRoom M _) ?_
    refine hz_ne rfl rfl (fun h14 => ?_) (fun h14 => ?_)
    · exact absurd hb (by simp [h6, h14])
    · iterate 2 refine h_s rfl ?_
      refine hq_v rfl rfl rfl a54 rfl rfl (m_finds R0 0 (by omega) _ (by decide)) (fun v1 w1 q1 => ?_)
      obtain ⟨rfl, q2, q3⟩ := q1
      exact h_ri rfl rfl ⟨rfl, q2, q3⟩
set_option maxRecDepth 100000 in
set_option maxHeartbeats 4000000 in
theorem m_reach_b (R : MW w s n st ks kp tp tn bo so nu) (a b : Int32) (hb : (inN a n && inN b 24) = false)  : ab_Q X kX6_reach [.ref 54, .int a, .int b] w (MP w (-1000001) s n (bump st 0) ks kp tp tn bo so nu) := by
  have M := R.ms
  have R0 := R
  obtain ⟨oth, nz, mv, fr, to, vl, wr, a54, a55, a56, a57, a58, a59, a60, a61, a62, a63, a64, l, h0, hn, ht⟩ := R
  show ab_H X kX6_reach 0 [some (.ref 54), some (.int a), some (.int b)] [] w _
  iterate 3 refine h_s rfl ?_
  refine h_cv rfl rfl rfl a54 rfl rfl (m_isAsk M _ _) ?_
  refine hz_eq rfl rfl (fun h6 => ?_) (fun h6 => ?_)
  · iterate 2 refine h_s rfl ?_
    refine hq_v rfl rfl rfl a54 rfl rfl (m_finds R0 0 (by omega) _ (by decide)) (fun v1 w1 q1 => ?_)
    obtain ⟨rfl, q2, q3⟩ := q1
    exact h_ri rfl rfl ⟨rfl, q2, q3⟩
  · exact absurd hb (by simp [h6])
set_option maxRecDepth 100000 in
set_option maxHeartbeats 4000000 in
theorem m_off_b (R : MW w s n st ks kp tp tn bo so nu) (a : Int32) (hb : (inN a 24) = false)  : ab_Q X kX6_off [.ref 54, .int a] w (MP w (-1000001) s n (bump st 0) ks kp tp tn bo so nu) := by
  have M := R.ms
  have R0 := R
  obtain ⟨oth, nz, mv, fr, to, vl, wr, a54, a55, a56, a57, a58, a59, a60, a61, a62, a63, a64, l, h0, hn, ht⟩ := R
  show ab_H X kX6_off 0 [some (.ref 54), some (.int a)] [] w _
  refine h_s rfl ?_
  refine h_c rfl (m_isClock _) ?_
  refine hz_eq rfl rfl (fun h4 => ?_) (fun h4 => ?_)
  · iterate 2 refine h_s rfl ?_
    refine hq_v rfl rfl rfl a54 rfl rfl (m_finds R0 0 (by omega) _ (by decide)) (fun v1 w1 q1 => ?_)
    obtain ⟨rfl, q2, q3⟩ := q1
    exact h_ri rfl rfl ⟨rfl, q2, q3⟩
  · exact absurd hb (by simp [h4])
set_option maxRecDepth 100000 in
set_option maxHeartbeats 4000000 in
theorem m_hours_b (R : MW w s n st ks kp tp tn bo so nu) (a : Int32) (hb : (inN a n) = false)  : ab_Q X kX6_hours [.ref 54, .int a] w (MP w (-1000001) s n (bump st 0) ks kp tp tn bo so nu) := by
  have M := R.ms
  have R0 := R
  obtain ⟨oth, nz, mv, fr, to, vl, wr, a54, a55, a56, a57, a58, a59, a60, a61, a62, a63, a64, l, h0, hn, ht⟩ := R
  show ab_H X kX6_hours 0 [some (.ref 54), some (.int a)] [] w _
  iterate 2 refine h_s rfl ?_
  refine h_cv rfl rfl rfl a54 rfl rfl (m_isHouse M _) ?_
  refine hz_eq rfl rfl (fun h5 => ?_) (fun h5 => ?_)
  · iterate 2 refine h_s rfl ?_
    refine hq_v rfl rfl rfl a54 rfl rfl (m_finds R0 0 (by omega) _ (by decide)) (fun v1 w1 q1 => ?_)
    obtain ⟨rfl, q2, q3⟩ := q1
    exact h_ri rfl rfl ⟨rfl, q2, q3⟩
  · exact absurd hb (by simp [h5])
set_option maxRecDepth 100000 in
set_option maxHeartbeats 4000000 in
theorem m_latest_b (R : MW w s n st ks kp tp tn bo so nu) (a : Int32) (hb : (inN a n) = false)  : ab_Q X kX6_latest [.ref 54, .int a] w (MP w (-1000001) s n (bump st 0) ks kp tp tn bo so nu) := by
  have M := R.ms
  have R0 := R
  obtain ⟨oth, nz, mv, fr, to, vl, wr, a54, a55, a56, a57, a58, a59, a60, a61, a62, a63, a64, l, h0, hn, ht⟩ := R
  show ab_H X kX6_latest 0 [some (.ref 54), some (.int a), none, none] [] w _
  iterate 2 refine h_s rfl ?_
  refine h_cv rfl rfl rfl a54 rfl rfl (m_isHouse M _) ?_
  refine hz_ne rfl rfl (fun h5 => ?_) (fun h5 => ?_)
  · exact absurd hb (by simp [h5])
  · iterate 2 refine h_s rfl ?_
    refine hq_v rfl rfl rfl a54 rfl rfl (m_finds R0 0 (by omega) _ (by decide)) (fun v1 w1 q1 => ?_)
    obtain ⟨rfl, q2, q3⟩ := q1
    exact h_ri rfl rfl ⟨rfl, q2, q3⟩
set_option maxRecDepth 100000 in
set_option maxHeartbeats 4000000 in
theorem m_best_b (R : MW w s n st ks kp tp tn bo so nu) (a : Int32) (hb : (inN a n) = false)  : ab_Q X kX6_best [.ref 54, .int a] w (MP w (-1000001) s n (bump st 0) ks kp tp tn bo so nu) := by
  have M := R.ms
  have R0 := R
  obtain ⟨oth, nz, mv, fr, to, vl, wr, a54, a55, a56, a57, a58, a59, a60, a61, a62, a63, a64, l, h0, hn, ht⟩ := R
  show ab_H X kX6_best 0 [some (.ref 54), some (.int a), none, none, none, none] [] w _
  iterate 2 refine h_s rfl ?_
  refine h_cv rfl rfl rfl a54 rfl rfl (m_isHouse M _) ?_
  refine hz_ne rfl rfl (fun h5 => ?_) (fun h5 => ?_)
  · exact absurd hb (by simp [h5])
  · iterate 2 refine h_s rfl ?_
    refine hq_v rfl rfl rfl a54 rfl rfl (m_finds R0 0 (by omega) _ (by decide)) (fun v1 w1 q1 => ?_)
    obtain ⟨rfl, q2, q3⟩ := q1
    exact h_ri rfl rfl ⟨rfl, q2, q3⟩
set_option maxRecDepth 100000 in
set_option maxHeartbeats 4000000 in
theorem m_beds_b (R : MW w s n st ks kp tp tn bo so nu) (a : Int32) (hb : (inN a n) = false)  : ab_Q X kX6_beds [.ref 54, .int a] w (MP w (-1000001) s n (bump st 0) ks kp tp tn bo so nu) := by
  have M := R.ms
  have R0 := R
  obtain ⟨oth, nz, mv, fr, to, vl, wr, a54, a55, a56, a57, a58, a59, a60, a61, a62, a63, a64, l, h0, hn, ht⟩ := R
  show ab_H X kX6_beds 0 [some (.ref 54), some (.int a), none, none] [] w _
  iterate 2 refine h_s rfl ?_
  refine h_cv rfl rfl rfl a54 rfl rfl (m_isHouse M _) ?_
  refine hz_ne rfl rfl (fun h5 => ?_) (fun h5 => ?_)
  · exact absurd hb (by simp [h5])
  · iterate 2 refine h_s rfl ?_
    refine hq_v rfl rfl rfl a54 rfl rfl (m_finds R0 0 (by omega) _ (by decide)) (fun v1 w1 q1 => ?_)
    obtain ⟨rfl, q2, q3⟩ := q1
    exact h_ri rfl rfl ⟨rfl, q2, q3⟩
set_option maxRecDepth 100000 in
set_option maxHeartbeats 4000000 in
theorem m_ring_b (R : MW w s n st ks kp tp tn bo so nu) (a : Int32) (hb : (inN a n) = false)  : ab_Q X kX6_ring [.ref 54, .int a] w (MP w (-1000001) s n (bump st 0) ks kp tp tn bo so nu) := by
  have M := R.ms
  have R0 := R
  obtain ⟨oth, nz, mv, fr, to, vl, wr, a54, a55, a56, a57, a58, a59, a60, a61, a62, a63, a64, l, h0, hn, ht⟩ := R
  show ab_H X kX6_ring 0 [some (.ref 54), some (.int a), none, none, none, none, none] [] w _
  iterate 2 refine h_s rfl ?_
  refine h_cv rfl rfl rfl a54 rfl rfl (m_isHouse M _) ?_
  refine hz_ne rfl rfl (fun h5 => ?_) (fun h5 => ?_)
  · exact absurd hb (by simp [h5])
  · iterate 2 refine h_s rfl ?_
    refine hq_v rfl rfl rfl a54 rfl rfl (m_finds R0 0 (by omega) _ (by decide)) (fun v1 w1 q1 => ?_)
    obtain ⟨rfl, q2, q3⟩ := q1
    exact h_ri rfl rfl ⟨rfl, q2, q3⟩
set_option maxRecDepth 100000 in
set_option maxHeartbeats 4000000 in
theorem m_step_b (R : MW w s n st ks kp tp tn bo so nu) (a b c : Int32) (hb : ((inN a n && inN b 24) && inN c 16) = false)  : ab_Q X kX6_step [.ref 54, .int a, .int b, .int c] w (MP w (-1000001) s n (bump st 0) ks kp tp tn bo so nu) := by
  have M := R.ms
  have R0 := R
  obtain ⟨oth, nz, mv, fr, to, vl, wr, a54, a55, a56, a57, a58, a59, a60, a61, a62, a63, a64, l, h0, hn, ht⟩ := R
  show ab_H X kX6_step 0 [some (.ref 54), some (.int a), some (.int b), some (.int c), none, none, none, none, none, none] [] w _
  iterate 3 refine h_s rfl ?_
  refine h_cv rfl rfl rfl a54 rfl rfl (m_isAsk M _ _) ?_
  refine hz_eq rfl rfl (fun h6 => ?_) (fun h6 => ?_)
  · iterate 2 refine h_s rfl ?_
    refine hq_v rfl rfl rfl a54 rfl rfl (m_finds R0 0 (by omega) _ (by decide)) (fun v1 w1 q1 => ?_)
    obtain ⟨rfl, q2, q3⟩ := q1
    exact h_ri rfl rfl ⟨rfl, q2, q3⟩
  · iterate 4 refine h_s rfl ?_
    refine h_c rfl (m_inZ (m := 16) _ rfl rfl) ?_
    refine hz_ne rfl rfl (fun h18 => ?_) (fun h18 => ?_)
    · exact absurd hb (by simp [h6, h18])
    · iterate 2 refine h_s rfl ?_
      refine hq_v rfl rfl rfl a54 rfl rfl (m_finds R0 0 (by omega) _ (by decide)) (fun v1 w1 q1 => ?_)
      obtain ⟨rfl, q2, q3⟩ := q1
      exact h_ri rfl rfl ⟨rfl, q2, q3⟩
set_option maxRecDepth 100000 in
set_option maxHeartbeats 4000000 in
theorem m_noise_b (R : MW w s n st ks kp tp tn bo so nu) (a b c : Int32) (hb : ((inN a n && inN c 24) && inN b (2 * n)) = false)  : ab_Q X kX6_noise [.ref 54, .int a, .int b, .int c] w (MP w (-1000001) s n (bump st 0) ks kp tp tn bo so nu) := by
  have M := R.ms
  have R0 := R
  obtain ⟨oth, nz, mv, fr, to, vl, wr, a54, a55, a56, a57, a58, a59, a60, a61, a62, a63, a64, l, h0, hn, ht⟩ := R
  show ab_H X kX6_noise 0 [some (.ref 54), some (.int a), some (.int b), some (.int c)] [] w _
  iterate 3 refine h_s rfl ?_
  refine h_cv rfl rfl rfl a54 rfl rfl (m_isAsk M _ _) ?_
  refine hz_eq rfl rfl (fun h6 => ?_) (fun h6 => ?_)
  · iterate 2 refine h_s rfl ?_
    refine hq_v rfl rfl rfl a54 rfl rfl (m_finds R0 0 (by omega) _ (by decide)) (fun v1 w1 q1 => ?_)
    obtain ⟨rfl, q2, q3⟩ := q1
    exact h_ri rfl rfl ⟨rfl, q2, q3⟩
  · iterate 2 refine h_s rfl ?_
    refine h_cv rfl rfl rfl a54 rfl rfl (m_isRoom M _) ?_
    refine hz_ne rfl rfl (fun h14 => ?_) (fun h14 => ?_)
    · exact absurd hb (by simp [h6, h14])
    · iterate 2 refine h_s rfl ?_
      refine hq_v rfl rfl rfl a54 rfl rfl (m_finds R0 0 (by omega) _ (by decide)) (fun v1 w1 q1 => ?_)
      obtain ⟨rfl, q2, q3⟩ := q1
      exact h_ri rfl rfl ⟨rfl, q2, q3⟩
set_option maxRecDepth 100000 in
set_option maxHeartbeats 4000000 in
theorem m_house_b (R : MW w s n st ks kp tp tn bo so nu) (a : Int32) (hb : (inN a 7) = false)  : ab_Q X kX6_house [.ref 54, .int a] w (MP w (-1000001) s n (bump st 0) ks kp tp tn bo so nu) := by
  have M := R.ms
  have R0 := R
  obtain ⟨oth, nz, mv, fr, to, vl, wr, a54, a55, a56, a57, a58, a59, a60, a61, a62, a63, a64, l, h0, hn, ht⟩ := R
  show ab_H X kX6_house 0 [some (.ref 54), some (.int a)] [] w _
  iterate 4 refine h_s rfl ?_
  refine h_c rfl (m_inZ (m := 7) _ rfl rfl) ?_
  refine hz_ne rfl rfl (fun h9 => ?_) (fun h9 => ?_)
  · exact absurd hb (by simp [h9])
  · iterate 2 refine h_s rfl ?_
    refine hq_v rfl rfl rfl a54 rfl rfl (m_finds R0 0 (by omega) _ (by decide)) (fun v1 w1 q1 => ?_)
    obtain ⟨rfl, q2, q3⟩ := q1
    exact h_ri rfl rfl ⟨rfl, q2, q3⟩
set_option maxRecDepth 100000 in
set_option maxHeartbeats 4000000 in
theorem m_name_b (R : MW w s n st ks kp tp tn bo so nu) (a b c : Int32) (z : Bool) (hb : (inN a n && inN b 2 && inN c 8) = false)  : ab_Q X kX6_name [.ref 54, .int a, .int b, .int c, .int (z01 z)] w (MP w (-1000001) s n (bump st 0) ks kp tp tn bo so nu) := by
  have M := R.ms
  have R0 := R
  obtain ⟨oth, nz, mv, fr, to, vl, wr, a54, a55, a56, a57, a58, a59, a60, a61, a62, a63, a64, l, h0, hn, ht⟩ := R
  show ab_H X kX6_name 0 [some (.ref 54), some (.int a), some (.int b), some (.int c), some (.int (z01 z)), none, none] [] w _
  iterate 2 refine h_s rfl ?_
  refine h_cv rfl rfl rfl a54 rfl rfl (m_isHouse M _) ?_
  refine hz_eq rfl rfl (fun h5 => ?_) (fun h5 => ?_)
  · iterate 2 refine h_s rfl ?_
    refine hq_v rfl rfl rfl a54 rfl rfl (m_finds R0 0 (by omega) _ (by decide)) (fun v1 w1 q1 => ?_)
    obtain ⟨rfl, q2, q3⟩ := q1
    exact h_ri rfl rfl ⟨rfl, q2, q3⟩
  · iterate 4 refine h_s rfl ?_
    refine h_c rfl (m_inZ (m := 2) _ rfl rfl) ?_
    refine hz_eq rfl rfl (fun h15 => ?_) (fun h15 => ?_)
    · iterate 2 refine h_s rfl ?_
      refine hq_v rfl rfl rfl a54 rfl rfl (m_finds R0 0 (by omega) _ (by decide)) (fun v1 w1 q1 => ?_)
      obtain ⟨rfl, q2, q3⟩ := q1
      exact h_ri rfl rfl ⟨rfl, q2, q3⟩
    · iterate 4 refine h_s rfl ?_
      refine h_c rfl (m_inZ (m := 8) _ rfl rfl) ?_
      refine hz_ne rfl rfl (fun h27 => ?_) (fun h27 => ?_)
      · exact absurd hb (by simp [h5, h15, h27])
      · iterate 2 refine h_s rfl ?_
        refine hq_v rfl rfl rfl a54 rfl rfl (m_finds R0 0 (by omega) _ (by decide)) (fun v1 w1 q1 => ?_)
        obtain ⟨rfl, q2, q3⟩ := q1
        exact h_ri rfl rfl ⟨rfl, q2, q3⟩
set_option maxRecDepth 100000 in
set_option maxHeartbeats 4000000 in
theorem m_door_b (R : MW w s n st ks kp tp tn bo so nu) (a : Int32) (z : Bool) (hb : (inN a 14) = false)  : ab_Q X kX6_door [.ref 54, .int a, .int (z01 z)] w (MP w (-1000001) s n (bump st 0) ks kp tp tn bo so nu) := by
  have M := R.ms
  have R0 := R
  obtain ⟨oth, nz, mv, fr, to, vl, wr, a54, a55, a56, a57, a58, a59, a60, a61, a62, a63, a64, l, h0, hn, ht⟩ := R
  show ab_H X kX6_door 0 [some (.ref 54), some (.int a), some (.int (z01 z)), none] [] w _
  iterate 4 refine h_s rfl ?_
  refine h_c rfl (m_inZ (m := 14) _ rfl rfl) ?_
  refine hz_ne rfl rfl (fun h9 => ?_) (fun h9 => ?_)
  · exact absurd hb (by simp [h9])
  · iterate 2 refine h_s rfl ?_
    refine hq_v rfl rfl rfl a54 rfl rfl (m_finds R0 0 (by omega) _ (by decide)) (fun v1 w1 q1 => ?_)
    obtain ⟨rfl, q2, q3⟩ := q1
    exact h_ri rfl rfl ⟨rfl, q2, q3⟩
set_option maxRecDepth 100000 in
set_option maxHeartbeats 4000000 in
theorem m_open_b (R : MW w s n st ks kp tp tn bo so nu) (a : Int32) (hb : (inN a 24) = false)  : ab_Q X kX6_open [.ref 54, .int a] w (MP w (-1000001) s n (bump st 0) ks kp tp tn bo so nu) := by
  have M := R.ms
  have R0 := R
  obtain ⟨oth, nz, mv, fr, to, vl, wr, a54, a55, a56, a57, a58, a59, a60, a61, a62, a63, a64, l, h0, hn, ht⟩ := R
  show ab_H X kX6_open 0 [some (.ref 54), some (.int a), none, none, none, none] [] w _
  refine h_s rfl ?_
  refine h_c rfl (m_isClock _) ?_
  refine hz_ne rfl rfl (fun h4 => ?_) (fun h4 => ?_)
  · exact absurd hb (by simp [h4])
  · iterate 2 refine h_s rfl ?_
    refine hq_v rfl rfl rfl a54 rfl rfl (m_finds R0 0 (by omega) _ (by decide)) (fun v1 w1 q1 => ?_)
    obtain ⟨rfl, q2, q3⟩ := q1
    exact h_ri rfl rfl ⟨rfl, q2, q3⟩
set_option maxRecDepth 100000 in
set_option maxHeartbeats 4000000 in
theorem m_worth_b (R : MW w s n st ks kp tp tn bo so nu) (a b : Int32) (hb : (inN a n && inN b 24) = false)  : ab_Q X kX6_worth [.ref 54, .int a, .int b] w (MP w (-1000001) s n (bump st 0) ks kp tp tn bo so nu) := by
  have M := R.ms
  have R0 := R
  obtain ⟨oth, nz, mv, fr, to, vl, wr, a54, a55, a56, a57, a58, a59, a60, a61, a62, a63, a64, l, h0, hn, ht⟩ := R
  show ab_H X kX6_worth 0 [some (.ref 54), some (.int a), some (.int b), none, none, none] [] w _
  iterate 2 refine h_s rfl ?_
  refine h_cv rfl rfl rfl a54 rfl rfl (m_isHouse M _) ?_
  refine hz_eq rfl rfl (fun h5 => ?_) (fun h5 => ?_)
  · iterate 2 refine h_s rfl ?_
    refine hq_v rfl rfl rfl a54 rfl rfl (m_finds R0 0 (by omega) _ (by decide)) (fun v1 w1 q1 => ?_)
    obtain ⟨rfl, q2, q3⟩ := q1
    exact h_ri rfl rfl ⟨rfl, q2, q3⟩
  · refine h_s rfl ?_
    refine h_c rfl (m_isClock _) ?_
    refine hz_ne rfl rfl (fun h12 => ?_) (fun h12 => ?_)
    · exact absurd hb (by simp [h5, h12])
    · iterate 2 refine h_s rfl ?_
      refine hq_v rfl rfl rfl a54 rfl rfl (m_finds R0 0 (by omega) _ (by decide)) (fun v1 w1 q1 => ?_)
      obtain ⟨rfl, q2, q3⟩ := q1
      exact h_ri rfl rfl ⟨rfl, q2, q3⟩
set_option maxRecDepth 100000 in
set_option maxHeartbeats 4000000 in
theorem m_helps_b (R : MW w s n st ks kp tp tn bo so nu) (a b : Int32) (hb : (inN a n && inN b 24) = false)  : ab_Q X kX6_helps [.ref 54, .int a, .int b] w (MP w (-1000001) s n (bump st 0) ks kp tp tn bo so nu) := by
  have M := R.ms
  have R0 := R
  obtain ⟨oth, nz, mv, fr, to, vl, wr, a54, a55, a56, a57, a58, a59, a60, a61, a62, a63, a64, l, h0, hn, ht⟩ := R
  show ab_H X kX6_helps 0 [some (.ref 54), some (.int a), some (.int b), none, none] [] w _
  iterate 3 refine h_s rfl ?_
  refine h_cv rfl rfl rfl a54 rfl rfl (m_isAsk M _ _) ?_
  refine hz_ne rfl rfl (fun h6 => ?_) (fun h6 => ?_)
  · exact absurd hb (by simp [h6])
  · iterate 2 refine h_s rfl ?_
    refine hq_v rfl rfl rfl a54 rfl rfl (m_finds R0 0 (by omega) _ (by decide)) (fun v1 w1 q1 => ?_)
    obtain ⟨rfl, q2, q3⟩ := q1
    exact h_ri rfl rfl ⟨rfl, q2, q3⟩
set_option maxRecDepth 100000 in
set_option maxHeartbeats 4000000 in
theorem m_needs_b (R : MW w s n st ks kp tp tn bo so nu) (a b : Int32) (hb : (inN a n && inN b 24) = false)  : ab_Q X kX6_needs [.ref 54, .int a, .int b] w (MP w (-1000001) s n (bump st 0) ks kp tp tn bo so nu) := by
  have M := R.ms
  have R0 := R
  obtain ⟨oth, nz, mv, fr, to, vl, wr, a54, a55, a56, a57, a58, a59, a60, a61, a62, a63, a64, l, h0, hn, ht⟩ := R
  show ab_H X kX6_needs 0 [some (.ref 54), some (.int a), some (.int b), none] [] w _
  iterate 3 refine h_s rfl ?_
  refine h_cv rfl rfl rfl a54 rfl rfl (m_isAsk M _ _) ?_
  refine hz_ne rfl rfl (fun h6 => ?_) (fun h6 => ?_)
  · exact absurd hb (by simp [h6])
  · iterate 2 refine h_s rfl ?_
    refine hq_v rfl rfl rfl a54 rfl rfl (m_finds R0 0 (by omega) _ (by decide)) (fun v1 w1 q1 => ?_)
    obtain ⟨rfl, q2, q3⟩ := q1
    exact h_ri rfl rfl ⟨rfl, q2, q3⟩
set_option maxRecDepth 100000 in
set_option maxHeartbeats 4000000 in
theorem m_law_b (R : MW w s n st ks kp tp tn bo so nu) (a : Int32) (hb : (inN a 24) = false)  : ab_Q X kX6_law [.ref 54, .int a] w (MP w (-1000001) s n (bump st 0) ks kp tp tn bo so nu) := by
  have M := R.ms
  have R0 := R
  obtain ⟨oth, nz, mv, fr, to, vl, wr, a54, a55, a56, a57, a58, a59, a60, a61, a62, a63, a64, l, h0, hn, ht⟩ := R
  show ab_H X kX6_law 0 [some (.ref 54), some (.int a), none, none, none] [] w _
  refine h_s rfl ?_
  refine h_c rfl (m_isClock _) ?_
  refine hz_ne rfl rfl (fun h4 => ?_) (fun h4 => ?_)
  · exact absurd hb (by simp [h4])
  · iterate 2 refine h_s rfl ?_
    refine hq_v rfl rfl rfl a54 rfl rfl (m_finds R0 0 (by omega) _ (by decide)) (fun v1 w1 q1 => ?_)
    obtain ⟨rfl, q2, q3⟩ := q1
    exact h_ri rfl rfl ⟨rfl, q2, q3⟩
set_option maxRecDepth 100000 in
set_option maxHeartbeats 4000000 in
theorem m_quarrel_b (R : MW w s n st ks kp tp tn bo so nu) (a b c : Int32) (hb : (inN a n && inN b n && !decide (a = b) && inN c 24) = false)  : ab_Q X kX6_quarrel [.ref 54, .int a, .int b, .int c] w (MP w (-1000001) s n (bump st 0) ks kp tp tn bo so nu) := by
  have M := R.ms
  have R0 := R
  obtain ⟨oth, nz, mv, fr, to, vl, wr, a54, a55, a56, a57, a58, a59, a60, a61, a62, a63, a64, l, h0, hn, ht⟩ := R
  show ab_H X kX6_quarrel 0 [some (.ref 54), some (.int a), some (.int b), some (.int c), none, none] [] w _
  iterate 2 refine h_s rfl ?_
  refine h_cv rfl rfl rfl a54 rfl rfl (m_isHouse M _) ?_
  refine hz_eq rfl rfl (fun h5 => ?_) (fun h5 => ?_)
  · iterate 2 refine h_s rfl ?_
    refine hq_v rfl rfl rfl a54 rfl rfl (m_finds R0 0 (by omega) _ (by decide)) (fun v1 w1 q1 => ?_)
    obtain ⟨rfl, q2, q3⟩ := q1
    exact h_ri rfl rfl ⟨rfl, q2, q3⟩
  · iterate 2 refine h_s rfl ?_
    refine h_cv rfl rfl rfl a54 rfl rfl (m_isHouse M _) ?_
    refine hz_eq rfl rfl (fun h13 => ?_) (fun h13 => ?_)
    · iterate 2 refine h_s rfl ?_
      refine hq_v rfl rfl rfl a54 rfl rfl (m_finds R0 0 (by omega) _ (by decide)) (fun v1 w1 q1 => ?_)
      obtain ⟨rfl, q2, q3⟩ := q1
      exact h_ri rfl rfl ⟨rfl, q2, q3⟩
    · iterate 2 refine h_s rfl ?_
      refine h2_eq rfl rfl (fun h18 => ?_) (fun h18 => ?_)
      · iterate 2 refine h_s rfl ?_
        refine hq_v rfl rfl rfl a54 rfl rfl (m_finds R0 0 (by omega) _ (by decide)) (fun v1 w1 q1 => ?_)
        obtain ⟨rfl, q2, q3⟩ := q1
        exact h_ri rfl rfl ⟨rfl, q2, q3⟩
      · refine h_s rfl ?_
        refine h_c rfl (m_isClock _) ?_
        refine hz_ne rfl rfl (fun h25 => ?_) (fun h25 => ?_)
        · exact absurd hb (by simp [h5, h13, h18, h25])
        · iterate 2 refine h_s rfl ?_
          refine hq_v rfl rfl rfl a54 rfl rfl (m_finds R0 0 (by omega) _ (by decide)) (fun v1 w1 q1 => ?_)
          obtain ⟨rfl, q2, q3⟩ := q1
          exact h_ri rfl rfl ⟨rfl, q2, q3⟩
set_option maxRecDepth 100000 in
set_option maxHeartbeats 4000000 in
theorem m_share_b (R : MW w s n st ks kp tp tn bo so nu) (a b c d : Int32) (hb : (inN a n && (inN b n && inN c 24) && inN d 2) = false)  : ab_Q X kX6_share [.ref 54, .int a, .int b, .int c, .int d] w (MP w (-1000001) s n (bump st 0) ks kp tp tn bo so nu) := by
  have M := R.ms
  have R0 := R
  obtain ⟨oth, nz, mv, fr, to, vl, wr, a54, a55, a56, a57, a58, a59, a60, a61, a62, a63, a64, l, h0, hn, ht⟩ := R
  show ab_H X kX6_share 0 [some (.ref 54), some (.int a), some (.int b), some (.int c), some (.int d), none, none, none] [] w _
  iterate 2 refine h_s rfl ?_
  refine h_cv rfl rfl rfl a54 rfl rfl (m_isHouse M _) ?_
  refine hz_eq rfl rfl (fun h5 => ?_) (fun h5 => ?_)
  · iterate 2 refine h_s rfl ?_
    refine hq_v rfl rfl rfl a54 rfl rfl (m_finds R0 0 (by omega) _ (by decide)) (fun v1 w1 q1 => ?_)
    obtain ⟨rfl, q2, q3⟩ := q1
    exact h_ri rfl rfl ⟨rfl, q2, q3⟩
  · iterate 3 refine h_s rfl ?_
    refine h_cv rfl rfl rfl a54 rfl rfl (m_isAsk M _ _) ?_
    refine hz_eq rfl rfl (fun h14 => ?_) (fun h14 => ?_)
    · iterate 2 refine h_s rfl ?_
      refine hq_v rfl rfl rfl a54 rfl rfl (m_finds R0 0 (by omega) _ (by decide)) (fun v1 w1 q1 => ?_)
      obtain ⟨rfl, q2, q3⟩ := q1
      exact h_ri rfl rfl ⟨rfl, q2, q3⟩
    · iterate 4 refine h_s rfl ?_
      refine h_c rfl (m_inZ (m := 2) _ rfl rfl) ?_
      refine hz_ne rfl rfl (fun h25 => ?_) (fun h25 => ?_)
      · exact absurd hb (by simp [h5, h14, h25])
      · iterate 2 refine h_s rfl ?_
        refine hq_v rfl rfl rfl a54 rfl rfl (m_finds R0 0 (by omega) _ (by decide)) (fun v1 w1 q1 => ?_)
        obtain ⟨rfl, q2, q3⟩ := q1
        exact h_ri rfl rfl ⟨rfl, q2, q3⟩
end M8
end
section
/-! THE REFERENCE: calls that only tell, 2 -/
/-- the last of the first m for which p fails, in a row from m - 1 down; -1 if none -/
def lastI (p : Nat → Bool) : Nat → Int32
  | 0 => -1
  | m + 1 => if p m then lastI p m else nI m
/-- the first c with the least positive g, of the first m: where, how much -/
def bestI (g : Nat → Nat) : Nat → Int32 × Nat
  | 0 => (-1, 0)
  | m + 1 => if 0 < g m ∧ ((bestI g m).1 < 0 ∨ g m < (bestI g m).2) then (nI m, g m) else bestI g m
section M9
variable {X : List Int32} {w : ab_W} {s : List Int32} {n : Nat} {st ks : List Int32} {kp : Bool} {tp : List Int32} {tn : Nat} {bo so nu : List Int32}
set_option maxRecDepth 100000 in
set_option maxHeartbeats 4000000 in
theorem m_of_k (R : MW w s n st ks kp tp tn bo so nu) (h k : Nat) (hh : h < n) (hk : k < 8) : ab_Q X kX6_of [.ref 54, .int (nI h), .int (nI k)] w (MP w (fld s h k) s n st ks kp tp tn bo so nu) := by
  have M := R.ms
  have R0 := R
  obtain ⟨oth, nz, mv, fr, to, vl, wr, a54, a55, a56, a57, a58, a59, a60, a61, a62, a63, a64, l, h0, hn, ht⟩ := R
  show ab_H X kX6_of 0 [some (.ref 54), some (.int (nI h)), some (.int (nI k))] [] w _
  iterate 2 refine h_s rfl ?_
  refine h_cv rfl rfl rfl a54 rfl rfl (m_isHouse1 M ⟨h, by omega, rfl⟩) ?_
  iterate 5 refine h_s rfl ?_
  refine h_c rfl (m_in1 (lo := 0) (hi := 7) rfl rfl (by rw [nI_toInt (by omega)]; omega)) ?_
  iterate 4 refine h_s rfl ?_
  refine h_cv rfl rfl rfl a54 rfl rfl (m_its M h k (by omega) hk rfl rfl) ?_
  refine h_s rfl ?_
  exact h_ri rfl rfl (MP.same R0 _)
set_option maxRecDepth 100000 in
set_option maxHeartbeats 4000000 in
theorem m_lets_k (R : MW w s n st ks kp tp tn bo so nu) (I : SI s n) (h f c : Nat) (hh : h < n) (hf : f < n) (hc : c < 24) : ab_Q X kX6_lets [.ref 54, .int (nI h), .int (nI f), .int (nI c)] w (MP w (z01 (letB s h f (nI c))) s n st ks kp tp tn bo so nu) := by
  have M := R.ms
  have R0 := R
  obtain ⟨oth, nz, mv, fr, to, vl, wr, a54, a55, a56, a57, a58, a59, a60, a61, a62, a63, a64, l, h0, hn, ht⟩ := R
  show ab_H X kX6_lets 0 [some (.ref 54), some (.int (nI h)), some (.int (nI f)), some (.int (nI c))] [] w _
  iterate 2 refine h_s rfl ?_
  refine h_cv rfl rfl rfl a54 rfl rfl (m_isHouse1 M ⟨h, by omega, rfl⟩) ?_
  iterate 4 refine h_s rfl ?_
  refine h_cv rfl rfl rfl a54 rfl rfl (m_isAsk1 M ⟨f, by omega, rfl⟩ ⟨c, by omega, rfl⟩) ?_
  iterate 5 refine h_s rfl ?_
  refine h_cv rfl rfl rfl a54 rfl rfl (m_isLetting M I h f hh (by omega) (nI c)) ?_
  refine hz_eq rfl rfl (fun h31 => ?_) (fun h31 => ?_)
  · refine h_k (y := 0) rfl rfl ?_
    exact h_ri rfl (by rw [h31]; rfl) (MP.same R0 _)
  · refine h_k (y := 1) rfl rfl ?_
    refine h_s rfl ?_
    exact h_ri rfl (by rw [h31]; rfl) (MP.same R0 _)
set_option maxRecDepth 100000 in
set_option maxHeartbeats 4000000 in
theorem m_letting_k (R : MW w s n st ks kp tp tn bo so nu) (I : SI s n) (f c : Nat) (hf : f < n) (hc : c < 24) : ab_Q X kX6_letting [.ref 54, .int (nI f), .int (nI c)] w (MP w (bs (fun h => letB s h f (nI c)) n) s n st ks kp tp tn bo so nu) := by
  have M := R.ms
  have R0 := R
  obtain ⟨oth, nz, mv, fr, to, vl, wr, a54, a55, a56, a57, a58, a59, a60, a61, a62, a63, a64, l, h0, hn, ht⟩ := R
  show ab_H X kX6_letting 0 [some (.ref 54), some (.int (nI f)), some (.int (nI c))] [] w _
  iterate 3 refine h_s rfl ?_
  refine h_cv rfl rfl rfl a54 rfl rfl (m_isAsk1 M ⟨f, by omega, rfl⟩ ⟨c, by omega, rfl⟩) ?_
  iterate 4 refine h_s rfl ?_
  refine h_cv rfl rfl rfl a54 rfl rfl (m_lettingSet M I f (by omega) (nI c)) ?_
  refine h_s rfl ?_
  exact h_ri rfl rfl (MP.same R0 _)
set_option maxRecDepth 100000 in
set_option maxHeartbeats 4000000 in
theorem m_joined_k (R : MW w s n st ks kp tp tn bo so nu) (I : SI s n) (r : Nat) (hr : r < 2 * n) : ab_Q X kX6_joined [.ref 54, .int (nI r)] w (MP w (bs (adjB s n r) 16) s n st ks kp tp tn bo so nu) := by
  have M := R.ms
  have R0 := R
  obtain ⟨oth, nz, mv, fr, to, vl, wr, a54, a55, a56, a57, a58, a59, a60, a61, a62, a63, a64, l, h0, hn, ht⟩ := R
  show ab_H X kX6_joined 0 [some (.ref 54), some (.int (nI r))] [] w _
  iterate 2 refine h_s rfl ?_
  refine h_cv rfl rfl rfl a54 rfl rfl (m_isRoom1 M ⟨r, by omega, rfl⟩) ?_
  iterate 3 refine h_s rfl ?_
  refine h_cv rfl rfl rfl a54 rfl rfl (m_joinedTo M I r hr) ?_
  refine h_s rfl ?_
  exact h_ri rfl rfl (MP.same R0 _)
set_option maxRecDepth 100000 in
set_option maxHeartbeats 4000000 in
theorem m_reach_k (R : MW w s n st ks kp tp tn bo so nu) (I : SI s n) (f c : Nat) (hf : f < n) (hc : c < 24) : ab_Q X kX6_reach [.ref 54, .int (nI f), .int (nI c)] w (MP w (bs (wB (adjB s n) (opB s n f (nI c)) (gB n) 16) 16) s n st ks kp tp tn bo so nu) := by
  have M := R.ms
  have R0 := R
  obtain ⟨oth, nz, mv, fr, to, vl, wr, a54, a55, a56, a57, a58, a59, a60, a61, a62, a63, a64, l, h0, hn, ht⟩ := R
  show ab_H X kX6_reach 0 [some (.ref 54), some (.int (nI f)), some (.int (nI c))] [] w _
  iterate 3 refine h_s rfl ?_
  refine h_cv rfl rfl rfl a54 rfl rfl (m_isAsk1 M ⟨f, by omega, rfl⟩ ⟨c, by omega, rfl⟩) ?_
  iterate 4 refine h_s rfl ?_
  refine h_cv rfl rfl rfl a54 rfl rfl (m_reached M I f hf (nI c)) ?_
  refine h_s rfl ?_
  exact h_ri rfl rfl (MP.same R0 _)
set_option maxRecDepth 100000 in
set_option maxHeartbeats 4000000 in
theorem m_off_k (R : MW w s n st ks kp tp tn bo so nu) (I : SI s n) (c : Nat) (hc : c < 24) : ab_Q X kX6_off [.ref 54, .int (nI c)] w (MP w (bs (fun f => offB s n f (nI c)) n) s n st ks kp tp tn bo so nu) := by
  have M := R.ms
  have R0 := R
  obtain ⟨oth, nz, mv, fr, to, vl, wr, a54, a55, a56, a57, a58, a59, a60, a61, a62, a63, a64, l, h0, hn, ht⟩ := R
  show ab_H X kX6_off 0 [some (.ref 54), some (.int (nI c))] [] w _
  refine h_s rfl ?_
  refine h_c rfl (m_isClock1 ⟨c, by omega, rfl⟩) ?_
  iterate 3 refine h_s rfl ?_
  refine h_cv rfl rfl rfl a54 rfl rfl (m_offSet M I (nI c)) ?_
  refine h_s rfl ?_
  exact h_ri rfl rfl (MP.same R0 _)
set_option maxRecDepth 100000 in
set_option maxHeartbeats 4000000 in
theorem m_hours_k (R : MW w s n st ks kp tp tn bo so nu) (I : SI s n) (f : Nat) (hf : f < n) : ab_Q X kX6_hours [.ref 54, .int (nI f)] w (MP w (bs (fun c => offB s n f (nI c)) 24) s n st ks kp tp tn bo so nu) := by
  have M := R.ms
  have R0 := R
  obtain ⟨oth, nz, mv, fr, to, vl, wr, a54, a55, a56, a57, a58, a59, a60, a61, a62, a63, a64, l, h0, hn, ht⟩ := R
  show ab_H X kX6_hours 0 [some (.ref 54), some (.int (nI f))] [] w _
  iterate 2 refine h_s rfl ?_
  refine h_cv rfl rfl rfl a54 rfl rfl (m_isHouse1 M ⟨f, by omega, rfl⟩) ?_
  iterate 3 refine h_s rfl ?_
  refine h_cv rfl rfl rfl a54 rfl rfl (m_offHours M I f hf) ?_
  refine h_s rfl ?_
  exact h_ri rfl rfl (MP.same R0 _)
set_option maxRecDepth 100000 in
set_option maxHeartbeats 4000000 in
theorem m_way_k (R : MW w s n st ks kp tp tn bo so nu) (I : SI s n) (f r c : Nat) (hf : f < n) (hr : r < 2 * n) (hc : c < 24) (L : Nat) (hL : wayL (adjB s n) (opB s n f (nI c)) (gB n) r = L) : ab_Q X kX6_way [.ref 54, .int (nI f), .int (nI r), .int (nI c)] w (fun v w1 => if L = 0 then MP w (-1000004) s n (bump st 3) ks kp tp tn bo so nu v w1 else MP w (nI L) s n st ks kp tp tn bo so nu v w1) := by
  have M := R.ms
  have R0 := R
  obtain ⟨oth, nz, mv, fr, to, vl, wr, a54, a55, a56, a57, a58, a59, a60, a61, a62, a63, a64, l, h0, hn, ht⟩ := R
  show ab_H X kX6_way 0 [some (.ref 54), some (.int (nI f)), some (.int (nI r)), some (.int (nI c)), none] [] w _
  have hw : L ≤ 16 := by rw [← hL]; exact wayL_le _
  iterate 3 refine h_s rfl ?_
  refine h_cv rfl rfl rfl a54 rfl rfl (m_isAsk1 M ⟨f, by omega, rfl⟩ ⟨c, by omega, rfl⟩) ?_
  iterate 3 refine h_s rfl ?_
  refine h_cv rfl rfl rfl a54 rfl rfl (m_isRoom1 M ⟨r, by omega, rfl⟩) ?_
  iterate 3 refine h_s rfl ?_
  refine h_cv rfl rfl rfl a54 rfl rfl (m_grounds M) ?_
  iterate 4 refine h_s rfl ?_
  refine h_cv rfl rfl rfl a54 rfl rfl (m_openRooms M I f (by omega) (nI c)) ?_
  refine h_cv rfl rfl rfl a54 rfl rfl (m_lengthOf M I (gB n) (opB s n f (nI c)) (fun r _ h => opB_lt h) r (by omega)) ?_
  refine h_t (congrArg nI hL) ?_
  iterate 2 refine h_s rfl ?_
  refine h1_ne rfl rfl (fun h43 => ?_) (fun h43 => ?_)
  · refine h_s rfl ?_
    rw [show (0 : Int32) = nI 0 from rfl, nI_eq (by omega) (by omega)] at h43
    exact h_ri rfl rfl (by rw [if_neg h43]; exact MP.same R0 _)
  · iterate 2 refine h_s rfl ?_
    refine hq_v rfl rfl rfl a54 rfl rfl (m_finds R0 3 (by omega) _ (by decide)) (fun v1 w1 q1 => ?_)
    obtain ⟨rfl, q2, q3⟩ := q1
    refine h_s rfl ?_
    rw [show (0 : Int32) = nI 0 from rfl, nI_eq (by omega) (by omega)] at h43
    exact h_ri rfl rfl (by rw [if_pos h43]; exact ⟨rfl, q2, q3⟩)
set_option maxRecDepth 100000 in
set_option maxHeartbeats 4000000 in
theorem m_latest_k (R : MW w s n st ks kp tp tn bo so nu) (I : SI s n) (f : Nat) (hf : f < n) : ab_Q X kX6_latest [.ref 54, .int (nI f)] w (fun v w1 => if lastI (fun c => offB s n f (nI c)) 24 < 0 then MP w (-1000004) s n (bump st 3) ks kp tp tn bo so nu v w1 else MP w (lastI (fun c => offB s n f (nI c)) 24) s n st ks kp tp tn bo so nu v w1) := by
  have M := R.ms
  have R0 := R
  obtain ⟨oth, nz, mv, fr, to, vl, wr, a54, a55, a56, a57, a58, a59, a60, a61, a62, a63, a64, l, h0, hn, ht⟩ := R
  show ab_H X kX6_latest 0 [some (.ref 54), some (.int (nI f)), none, none] [] w _
  generalize hL0 : lastI (fun c => offB s n f (nI c)) 24 = L
  iterate 2 refine h_s rfl ?_
  refine h_cv rfl rfl rfl a54 rfl rfl (m_isHouse1 M ⟨f, by omega, rfl⟩) ?_
  iterate 3 refine h_s rfl ?_
  refine h_cv rfl rfl rfl a54 rfl rfl (m_offHours M I f hf) ?_
  refine h_s rfl ?_
  refine h_k (y := 23) rfl rfl ?_
  refine h_s rfl ?_
  refine h_loop0 25 (fun i ls w1 => w1 = w ∧ i < 25 ∧ ls = [some (.ref 54), some (.int (nI f)), some (.int (bs (fun c => offB s n f (nI c)) 24)), some (.int (if i = 24 then -1 else nI (23 - i)))] ∧ L = lastI (fun c => offB s n f (nI c)) (24 - i)) ⟨rfl, by omega, rfl, hL0.symm⟩ (fun i ls w1 hi hJ ih => ?_) (fun ls w1 hJ => absurd hJ.2.1 (by omega))
  obtain ⟨rfl, hi', rfl, hL⟩ := hJ
  by_cases h24 : i = 24
  · rw [if_pos h24]
    rw [h24] at hL
    iterate 6 refine h_s rfl ?_
    refine hq_v rfl rfl rfl a54 rfl rfl (m_finds R0 3 (by omega) _ (by decide)) (fun v1 w1 q1 => ?_)
    obtain ⟨rfl, q2, q3⟩ := q1
    refine h_s rfl ?_
    exact h_ri rfl rfl (by rw [show L = -1 from hL, if_pos (by decide)]; exact ⟨rfl, q2, q3⟩)
  · rw [if_neg h24]
    rw [show 24 - i = (23 - i) + 1 by omega, lastI] at hL
    have hb : bt (bs (fun c => offB s n f (nI c)) 24) (23 - i) = offB s n f (nI (23 - i)) := by rw [bt_bs _ _ _ (by omega) (by omega), decide_eq_true (by omega), Bool.true_and]
    refine h_s rfl ?_
    refine h1_lt rfl rfl (fun h25 => absurd h25 (nI_pos (by omega))) (fun h25 => ?_)
    iterate 2 refine h_s rfl ?_
    refine h_c rfl (m_has (23 - i) (by omega)) ?_
    refine hz_eq rfl rfl (fun h33 => ?_) (fun h33 => ?_)
    · refine h_s rfl ?_
      refine h1_ge rfl rfl (fun h43 => ?_) (fun h43 => ?_)
      · refine h_s rfl ?_
        rw [hb] at h33
        rw [if_neg (by rw [h33]; decide)] at hL
        first | exact absurd (nI_pos' (by omega)) h43 | exact h_ri rfl rfl (by rw [hL, if_neg (nI_pos (by omega))]; exact MP.same R0 _)
      · iterate 2 refine h_s rfl ?_
        refine hq_v rfl rfl rfl a54 rfl rfl (m_finds R0 3 (by omega) _ (by decide)) (fun v1 w1 q1 => ?_)
        obtain ⟨rfl, q2, q3⟩ := q1
        refine h_s rfl ?_
        rw [hb] at h33
        rw [if_neg (by rw [h33]; decide)] at hL
        first | exact absurd (nI_pos' (by omega)) h43 | exact h_ri rfl rfl (by rw [hL, if_neg (nI_pos (by omega))]; exact MP.same R0 _)
    · iterate 2 refine h_s rfl ?_
      rw [hb] at h33
      rw [if_pos h33] at hL
      refine ih _ _ ⟨rfl, by omega, ?_, hL.trans (congrArg (lastI (fun c => offB s n f (nI c))) (by omega))⟩
      by_cases h23 : i + 1 = 24
      · rw [if_pos h23, show 23 - i = 0 by omega]; rfl
      · rw [if_neg h23, show 23 - i = (23 - (i + 1)) + 1 by omega, show (nI (23 - (i + 1) + 1)) = nI (23 - (i + 1)) + 1 from nI_succ _]
        show ([some (.ref 54), some (.int (nI f)), some (.int (bs (fun c => offB s n f (nI c)) 24)), some (.int (nI (23 - (i + 1)) + 1 + -1))] : List (Option Value)) = _
        rw [show nI (23 - (i + 1)) + 1 + -1 = nI (23 - (i + 1)) by rw [← nI_succ]; exact pk_m1 _]
end M9
end
section
/-! THE REFERENCE: calls that change the row -/
def partB (n : Nat) (b c : Int32) : Bool := if b = 0 then inN c 7 else if b = 3 ∨ b = 4 then inN c 24 else if b = 6 then inN c 10 else decide (b = 7) && inN c n
/-- a row with one house more -/
def newS (s : List Int32) (n : Nat) (k : Int32) : List Int32 := ((((((((s.set (2 + 8 * n + 0) k).set (2 + 8 * n + 1) (-1)).set (2 + 8 * n + 2) 0).set (2 + 8 * n + 3) 6).set (2 + 8 * n + 4) 22).set (2 + 8 * n + 5) 0).set (2 + 8 * n + 6) 2).set (2 + 8 * n + 7) (nI n)).set 0 (nI (n + 1))
theorem sw_out {x : Int32} {m : Nat} {hi : Int} (hh : hi = (m : Int) - 1) (h : inN x m = false) : (decide (x.toInt < 0) || decide (hi < x.toInt)) = true := by
  unfold inN at h
  rw [decide_eq_false_iff_not] at h
  simp only [Bool.or_eq_true, decide_eq_true_eq]
  omega
theorem gD_ne {s : List Int32} {i j : Nat} {x : Int32} (h : i ≠ j) : (s.set i x).getD j 0 = s.getD j 0 := by
  rw [List.getD_eq_getElem?_getD, List.getD_eq_getElem?_getD, List.getElem?_set_ne h]
theorem gD_eq {s : List Int32} {i : Nat} {x : Int32} (h : i < s.length) : (s.set i x).getD i 0 = x := by
  rw [List.getD_eq_getElem?_getD, List.getElem?_set_self h]
  rfl
theorem gD_set (s : List Int32) (i j : Nat) (x : Int32) (h : i < s.length) : (s.set i x).getD j 0 = if j = i then x else s.getD j 0 := by
  by_cases e : j = i
  · subst e
    rw [if_pos rfl, gD_eq h]
  · rw [if_neg e, gD_ne (fun q => e q.symm)]
theorem fld_set (s : List Int32) {h k h' k' : Nat} (x : Int32) (hl : s.length = 90) (hh : h < 8) (hk : k < 8) (hk' : k' < 8) : fld (s.set (2 + 8 * h + k) x) h' k' = if h' = h ∧ k' = k then x else fld s h' k' := by
  unfold fld
  rw [gD_set s _ _ x (by omega)]
  by_cases e : h' = h ∧ k' = k
  · rw [if_pos e, if_pos (by omega)]
  · rw [if_neg e, if_neg (by omega)]
section MA
variable {X : List Int32} {w : ab_W} {s : List Int32} {n : Nat} {st ks : List Int32} {kp : Bool} {tp : List Int32} {tn : Nat} {bo so nu : List Int32}
theorem MW.sj (R : MW w s n st ks kp tp tn bo so nu) {w1 : ab_W} {j : Nat} {x : Int32} (h : w1[55]? = some (.inr (s.set j x))) (hj : j ≠ 0) (hf : ∀ i, i ≠ 55 → w1[i]? = w[i]?) : MW w1 (s.set j x) n st ks kp tp tn bo so nu := by
  have R1 := R
  obtain ⟨oth, nz, mv, fr, to, vl, wr, a54, a55, a56, a57, a58, a59, a60, a61, a62, a63, a64, l, h0, hn, ht⟩ := R
  exact R1.s55 h ((List.length_set ..).trans l.1) ((gD_ne hj).trans h0) hn hf
set_option maxRecDepth 100000 in
set_option maxHeartbeats 4000000 in
theorem m_isPart (M : MS w s n) (b c : Int32) : ab_M X kX6_isPart [.ref 54, .int b, .int c] w (some (.int (z01 (partB n b c)))) w := by
  obtain ⟨vs, hm, -⟩ := id M
  show ab_G X kX6_isPart 0 [some (.ref 54), some (.int b), some (.int c)] [] w _ _
  refine ab_s rfl ?_
  cases hb : inN b 7 with
  | true =>
    obtain ⟨j, hj, rfl⟩ := inN_t (by omega) hb
    match j, hj with
    | 0, _ =>
      refine ab_sw rfl (by decide) rfl rfl ?_
      iterate 4 refine ab_s rfl ?_
      refine ab_c rfl (m_inZ (m := 7) _ rfl rfl) ?_
      exact ab_rz rfl rfl rfl
    | 1, _ =>
      refine ab_sw rfl (by decide) rfl rfl ?_
      refine ab_s rfl ?_
      refine ab_k (y := 7) rfl rfl ?_
      refine ab_s rfl ?_
      refine ab_k (y := 0) rfl rfl ?_
      exact ab_ri rfl rfl
    | 2, _ =>
      refine ab_sw rfl (by decide) rfl rfl ?_
      refine ab_s rfl ?_
      refine ab_k (y := 7) rfl rfl ?_
      refine ab_s rfl ?_
      refine ab_k (y := 0) rfl rfl ?_
      exact ab_ri rfl rfl
    | 3, _ =>
      refine ab_sw rfl (by decide) rfl rfl ?_
      refine ab_s rfl ?_
      refine ab_c rfl (m_isClock _) ?_
      exact ab_rz rfl rfl rfl
    | 4, _ =>
      refine ab_sw rfl (by decide) rfl rfl ?_
      refine ab_s rfl ?_
      refine ab_c rfl (m_isClock _) ?_
      exact ab_rz rfl rfl rfl
    | 5, _ =>
      refine ab_sw rfl (by decide) rfl rfl ?_
      refine ab_s rfl ?_
      refine ab_k (y := 7) rfl rfl ?_
      refine ab_s rfl ?_
      refine ab_k (y := 0) rfl rfl ?_
      exact ab_ri rfl rfl
    | 6, _ =>
      refine ab_sw rfl (by decide) rfl rfl ?_
      iterate 4 refine ab_s rfl ?_
      refine ab_c rfl (m_inZ (m := 10) _ rfl rfl) ?_
      exact ab_rz rfl rfl rfl
  | false =>
    refine ab_swd rfl (sw_out rfl hb) rfl ?_
    have e : partB n b c = (decide (b = 7) && inN c n) := by
      have hk : ∀ j, j < 7 → ¬ b = nI j := fun j hj q => inN_f (by omega) hb ⟨j, hj, q⟩
      unfold partB
      rw [if_neg (show ¬ b = 0 from hk 0 (by omega)), if_neg (show ¬ (b = 3 ∨ b = 4) from fun q => q.elim (hk 3 (by omega)) (hk 4 (by omega))), if_neg (show ¬ b = 6 from hk 6 (by omega))]
    rw [e]
    refine ab_s rfl ?_
    refine ab_k (y := 7) rfl rfl ?_
    refine j2_ne rfl rfl (fun h72 => ?_) (fun h72 => ?_)
    · refine ab_k (y := 0) rfl rfl ?_
      exact ab_ri rfl (by first | (rw [decide_eq_false h72]; rfl) | (rw [decide_eq_true h72, h80]; rfl))
    · iterate 2 refine ab_s rfl ?_
      refine ab_cv rfl rfl rfl hm rfl rfl (m_isHouse M _) ?_
      refine z1_eq rfl rfl (fun h80 => ?_) (fun h80 => ?_)
      · refine ab_k (y := 0) rfl rfl ?_
        exact ab_ri rfl (by first | (rw [decide_eq_false h72]; rfl) | (rw [decide_eq_true h72, h80]; rfl))
      · refine ab_k (y := 1) rfl rfl ?_
        refine ab_s rfl ?_
        exact ab_ri rfl (by first | (rw [decide_eq_false h72]; rfl) | (rw [decide_eq_true h72, h80]; rfl))
set_option maxRecDepth 100000 in
set_option maxHeartbeats 4000000 in
theorem m_change_b (R : MW w s n st ks kp tp tn bo so nu) (a b c : Int32) (hb : (inN a n && partB n b c) = false)  : ab_Q X kX6_change [.ref 54, .int a, .int b, .int c] w (MP w (-1000001) s n (bump st 0) ks kp tp tn bo so nu) := by
  have M := R.ms
  have R0 := R
  obtain ⟨oth, nz, mv, fr, to, vl, wr, a54, a55, a56, a57, a58, a59, a60, a61, a62, a63, a64, l, h0, hn, ht⟩ := R
  show ab_H X kX6_change 0 [some (.ref 54), some (.int a), some (.int b), some (.int c), none] [] w _
  iterate 2 refine h_s rfl ?_
  refine h_cv rfl rfl rfl a54 rfl rfl (m_isHouse M _) ?_
  refine hz_eq rfl rfl (fun h5 => ?_) (fun h5 => ?_)
  · iterate 2 refine h_s rfl ?_
    refine hq_v rfl rfl rfl a54 rfl rfl (m_finds R0 0 (by omega) _ (by decide)) (fun v1 w1 q1 => ?_)
    obtain ⟨rfl, q2, q3⟩ := q1
    exact h_ri rfl rfl ⟨rfl, q2, q3⟩
  · iterate 3 refine h_s rfl ?_
    refine h_cv rfl rfl rfl a54 rfl rfl (m_isPart M _ _) ?_
    refine hz_ne rfl rfl (fun h14 => ?_) (fun h14 => ?_)
    · exact absurd hb (by simp [h5, h14])
    · iterate 2 refine h_s rfl ?_
      refine hq_v rfl rfl rfl a54 rfl rfl (m_finds R0 0 (by omega) _ (by decide)) (fun v1 w1 q1 => ?_)
      obtain ⟨rfl, q2, q3⟩ := q1
      exact h_ri rfl rfl ⟨rfl, q2, q3⟩
set_option maxRecDepth 100000 in
set_option maxHeartbeats 4000000 in
theorem m_change_k (R : MW w s n st ks kp tp tn bo so nu) (h k : Nat) (c : Int32) (hh : h < n) (hk : k < 8) (hc : partB n (nI k) c = true) : ab_Q X kX6_change [.ref 54, .int (nI h), .int (nI k), .int c] w (MP w (fld s h k) (s.set (2 + 8 * h + k) c) n st ks kp tp tn bo so nu) := by
  have M := R.ms
  have R0 := R
  obtain ⟨oth, nz, mv, fr, to, vl, wr, a54, a55, a56, a57, a58, a59, a60, a61, a62, a63, a64, l, h0, hn, ht⟩ := R
  show ab_H X kX6_change 0 [some (.ref 54), some (.int (nI h)), some (.int (nI k)), some (.int c), none] [] w _
  iterate 2 refine h_s rfl ?_
  refine h_cv rfl rfl rfl a54 rfl rfl (m_isHouse1 M ⟨h, by omega, rfl⟩) ?_
  iterate 4 refine h_s rfl ?_
  refine h_cv rfl rfl rfl a54 rfl rfl (m_isPart M _ _) ?_
  refine h_t (show z01 (partB n (nI k) c) = 1 by rw [hc]; rfl) ?_
  iterate 4 refine h_s rfl ?_
  refine h_cv rfl rfl rfl a54 rfl rfl (m_its M h k (by omega) hk rfl rfl) ?_
  iterate 2 refine h_s rfl ?_
  refine h_gf rfl rfl rfl a54 rfl ?_
  iterate 2 refine h_s rfl ?_
  refine h_c rfl (m_at h k rfl rfl) ?_
  refine h_s rfl ?_
  refine h_is (2 + 8 * h + k) rfl a55 (by omega) rfl (by omega) (fun w1 e1 f1 => ?_)
  refine h_s rfl ?_
  exact h_ri rfl rfl ⟨rfl, R0.sj e1 (by omega) f1, fun i hi => f1 i (by omega)⟩
set_option maxRecDepth 100000 in
set_option maxHeartbeats 4000000 in
theorem m_seed_k (R : MW w s n st ks kp tp tn bo so nu) (v : Int32) : ab_Q X kX6_seed [.ref 54, .int v] w (MP w (s.getD 1 0) (s.set 1 v) n st ks kp tp tn bo so nu) := by
  have M := R.ms
  have R0 := R
  obtain ⟨oth, nz, mv, fr, to, vl, wr, a54, a55, a56, a57, a58, a59, a60, a61, a62, a63, a64, l, h0, hn, ht⟩ := R
  show ab_H X kX6_seed 0 [some (.ref 54), some (.int v), none] [] w _
  refine h_s rfl ?_
  refine h_gf rfl rfl rfl a54 rfl ?_
  refine h_k (y := 1) rfl rfl ?_
  refine h_ia 1 rfl a55 (by omega) rfl (by omega) ?_
  iterate 2 refine h_s rfl ?_
  refine h_gf rfl rfl rfl a54 rfl ?_
  refine h_k (y := 1) rfl rfl ?_
  refine h_s rfl ?_
  refine h_is (1) rfl a55 (by omega) rfl (by omega) (fun w1 e1 f1 => ?_)
  refine h_s rfl ?_
  exact h_ri rfl rfl ⟨rfl, R0.sj e1 (by omega) f1, fun i hi => f1 i (by omega)⟩
set_option maxRecDepth 100000 in
set_option maxHeartbeats 4000000 in
theorem m_door_k (R : MW w s n st ks kp tp tn bo so nu) (d : Nat) (z : Bool) (hd : d < 14) : ab_Q X kX6_door [.ref 54, .int (nI d), .int (z01 z)] w (MP w (s.getD (66 + d) 0) (s.set (66 + d) (z01 z)) n st ks kp tp tn bo so nu) := by
  have M := R.ms
  have R0 := R
  obtain ⟨oth, nz, mv, fr, to, vl, wr, a54, a55, a56, a57, a58, a59, a60, a61, a62, a63, a64, l, h0, hn, ht⟩ := R
  show ab_H X kX6_door 0 [some (.ref 54), some (.int (nI d)), some (.int (z01 z)), none] [] w _
  iterate 4 refine h_s rfl ?_
  refine h_c rfl (m_in1 (lo := 0) (hi := 13) rfl rfl (by rw [nI_toInt (by omega)]; omega)) ?_
  iterate 2 refine h_s rfl ?_
  refine h_gf rfl rfl rfl a54 rfl ?_
  refine h_k (y := 66) rfl rfl ?_
  iterate 2 refine h_s rfl ?_
  refine h_ia (66 + d) rfl a55 (by omega) (nI_add 66 d) (by omega) ?_
  iterate 2 refine h_s rfl ?_
  refine h_gf rfl rfl rfl a54 rfl ?_
  refine h_k (y := 66) rfl rfl ?_
  iterate 3 refine h_s rfl ?_
  refine hz_eq rfl rfl (fun h38 => ?_) (fun h38 => ?_)
  · refine h_k (y := 0) rfl rfl ?_
    refine h_is (66 + d) rfl a55 (by omega) (nI_add 66 d) (by omega) (fun w1 e1 f1 => ?_)
    refine h_s rfl ?_
    first | exact h_ri rfl rfl ⟨rfl, by rw [h38]; exact R0.sj e1 (by omega) f1, fun i hi => f1 i (by omega)⟩
  · refine h_k (y := 1) rfl rfl ?_
    refine h_s rfl ?_
    refine h_is (66 + d) rfl a55 (by omega) (nI_add 66 d) (by omega) (fun w1 e1 f1 => ?_)
    refine h_s rfl ?_
    first | exact h_ri rfl rfl ⟨rfl, by rw [h38]; exact R0.sj e1 (by omega) f1, fun i hi => f1 i (by omega)⟩
set_option maxRecDepth 100000 in
set_option maxHeartbeats 4000000 in
theorem m_hold_k (R : MW w s n st ks kp tp tn bo so nu) (k : Nat) (a : Int32) (hk : k < 10) (ha : a = -1 ∨ isN a n) : ab_Q X kX6_hold [.ref 54, .int (nI k), .int a] w (MP w 1 (s.set (80 + k) a) n st ks kp tp tn bo so nu) := by
  have M := R.ms
  have R0 := R
  obtain ⟨oth, nz, mv, fr, to, vl, wr, a54, a55, a56, a57, a58, a59, a60, a61, a62, a63, a64, l, h0, hn, ht⟩ := R
  show ab_H X kX6_hold 0 [some (.ref 54), some (.int (nI k)), some (.int a)] [] w _
  iterate 4 refine h_s rfl ?_
  refine h_c rfl (m_in1 (lo := 0) (hi := 9) rfl rfl (by rw [nI_toInt (by omega)]; omega)) ?_
  iterate 2 refine h_s rfl ?_
  refine h_k (y := (-1)) rfl rfl ?_
  refine h2_eq rfl rfl (fun h14 => ?_) (fun h14 => ?_)
  · refine h_s rfl ?_
    refine h_gf rfl rfl rfl a54 rfl ?_
    refine h_k (y := 80) rfl rfl ?_
    iterate 3 refine h_s rfl ?_
    refine h_is (80 + k) rfl a55 (by omega) (nI_add 80 k) (by omega) (fun w1 e1 f1 => ?_)
    refine h_k (y := 1) rfl rfl ?_
    exact h_ri rfl rfl ⟨rfl, R0.sj e1 (by omega) f1, fun i hi => f1 i (by omega)⟩
  · iterate 2 refine h_s rfl ?_
    refine h_cv rfl rfl rfl a54 rfl rfl (m_isHouse1 M (ha.resolve_left h14)) ?_
    iterate 2 refine h_s rfl ?_
    refine h_gf rfl rfl rfl a54 rfl ?_
    refine h_k (y := 80) rfl rfl ?_
    iterate 3 refine h_s rfl ?_
    refine h_is (80 + k) rfl a55 (by omega) (nI_add 80 k) (by omega) (fun w1 e1 f1 => ?_)
    refine h_k (y := 1) rfl rfl ?_
    exact h_ri rfl rfl ⟨rfl, R0.sj e1 (by omega) f1, fun i hi => f1 i (by omega)⟩
set_option maxRecDepth 100000 in
set_option maxHeartbeats 4000000 in
theorem m_hold_b (R : MW w s n st ks kp tp tn bo so nu) (a b : Int32) (hb : (inN a 10 && (decide (b = -1) || inN b n)) = false)  : ab_Q X kX6_hold [.ref 54, .int a, .int b] w (MP w (-1000001) s n (bump st 0) ks kp tp tn bo so nu) := by
  have M := R.ms
  have R0 := R
  obtain ⟨oth, nz, mv, fr, to, vl, wr, a54, a55, a56, a57, a58, a59, a60, a61, a62, a63, a64, l, h0, hn, ht⟩ := R
  show ab_H X kX6_hold 0 [some (.ref 54), some (.int a), some (.int b)] [] w _
  iterate 4 refine h_s rfl ?_
  refine h_c rfl (m_inZ (m := 10) _ rfl rfl) ?_
  refine hz_eq rfl rfl (fun h9 => ?_) (fun h9 => ?_)
  · iterate 2 refine h_s rfl ?_
    refine hq_v rfl rfl rfl a54 rfl rfl (m_finds R0 0 (by omega) _ (by decide)) (fun v1 w1 q1 => ?_)
    obtain ⟨rfl, q2, q3⟩ := q1
    exact h_ri rfl rfl ⟨rfl, q2, q3⟩
  · refine h_s rfl ?_
    refine h_k (y := (-1)) rfl rfl ?_
    refine h2_eq rfl rfl (fun h14 => ?_) (fun h14 => ?_)
    · exact absurd hb (by simp [h9, h14])
    · iterate 2 refine h_s rfl ?_
      refine h_cv rfl rfl rfl a54 rfl rfl (m_isHouse M _) ?_
      refine hz_ne rfl rfl (fun h22 => ?_) (fun h22 => ?_)
      · exact absurd hb (by simp [h9, h14, h22])
      · iterate 2 refine h_s rfl ?_
        refine hq_v rfl rfl rfl a54 rfl rfl (m_finds R0 0 (by omega) _ (by decide)) (fun v1 w1 q1 => ?_)
        obtain ⟨rfl, q2, q3⟩ := q1
        exact h_ri rfl rfl ⟨rfl, q2, q3⟩
set_option maxRecDepth 100000 in
set_option maxHeartbeats 4000000 in
theorem m_as_b (R : MW w s n st ks kp tp tn bo so nu) (a b : Int32) (hb : (inN a 10 && inN b 7) = false)  : ab_Q X kX6_as [.ref 54, .int a, .int b] w (MP w (-1000001) s n (bump st 0) ks kp tp tn bo so nu) := by
  have M := R.ms
  have R0 := R
  obtain ⟨oth, nz, mv, fr, to, vl, wr, a54, a55, a56, a57, a58, a59, a60, a61, a62, a63, a64, l, h0, hn, ht⟩ := R
  show ab_H X kX6_as 0 [some (.ref 54), some (.int a), some (.int b), none, none, none] [] w _
  iterate 4 refine h_s rfl ?_
  refine h_c rfl (m_inZ (m := 10) _ rfl rfl) ?_
  refine hz_eq rfl rfl (fun h9 => ?_) (fun h9 => ?_)
  · iterate 2 refine h_s rfl ?_
    refine hq_v rfl rfl rfl a54 rfl rfl (m_finds R0 0 (by omega) _ (by decide)) (fun v1 w1 q1 => ?_)
    obtain ⟨rfl, q2, q3⟩ := q1
    exact h_ri rfl rfl ⟨rfl, q2, q3⟩
  · iterate 4 refine h_s rfl ?_
    refine h_c rfl (m_inZ (m := 7) _ rfl rfl) ?_
    refine hz_ne rfl rfl (fun h21 => ?_) (fun h21 => ?_)
    · exact absurd hb (by simp [h9, h21])
    · iterate 2 refine h_s rfl ?_
      refine hq_v rfl rfl rfl a54 rfl rfl (m_finds R0 0 (by omega) _ (by decide)) (fun v1 w1 q1 => ?_)
      obtain ⟨rfl, q2, q3⟩ := q1
      exact h_ri rfl rfl ⟨rfl, q2, q3⟩
end MA
end
section
/-! THE REFERENCE: houses, stairs, names, images -/
def markI (x : Int32) (f : Nat) (z : Bool) : Int32 := if z then x ||| ((1 : Int32) <<< (nI f &&& 31)) else x &&& (((1 : Int32) <<< (nI f &&& 31)) ^^^ (-1))
def wayOK (n : Nat) (a b : Int32) : Bool := inN a n && decide (-1 ≤ b.toInt ∧ b.toInt ≤ 1) && !(decide (b = 0) && decide (a = 0)) && !(decide (b = 1) && decide (a = 7))
def asI (own kind : Int32) : Bool := decide (kind = 0) || decide (own = kind) || (decide (kind = 1) && (decide (own = 4) || decide (own = 6))) || (decide (kind = 2) && decide (own = 3))
theorem l_ext {xs ys : List Int32} {m : Nat} (h1 : xs.length = m) (h2 : ys.length = m) (h : ∀ j, j < m → xs.getD j 0 = ys.getD j 0) : xs = ys := by
  apply List.ext_getElem (by omega)
  intro i h3 h4
  have := h i (by omega)
  rwa [List.getD_eq_getElem?_getD, List.getD_eq_getElem?_getD, List.getElem?_eq_getElem h3, List.getElem?_eq_getElem h4] at this
section MB
variable {X : List Int32} {w : ab_W} {s : List Int32} {n : Nat} {st ks : List Int32} {kp : Bool} {tp : List Int32} {tn : Nat} {bo so nu : List Int32}
theorem m_inW (x : Int32) : ab_M X kX6_in [.long x.toInt64, .long (-1), .long 1] w (some (.int (z01 (decide (-1 ≤ x.toInt ∧ x.toInt ≤ 1))))) w := by
  by_cases h : -1 ≤ x.toInt ∧ x.toInt ≤ 1
  · rw [decide_eq_true h]
    exact m_in1 (lo := -1) (hi := 1) rfl rfl h
  · rw [decide_eq_false h]
    exact m_in0 (lo := -1) (hi := 1) rfl rfl h
theorem MW.o54 (R : MW w s n st ks kp tp tn bo so nu) {w1 : ab_W} (kp1 : Bool) (tn1 : Nat) (fr1 to1 vl1 : Int32) (wr1 : Bool) (ht1 : tn1 ≤ 120) (h : w1[54]? = some (.inl (6, mObj kp1 tn1 fr1 to1 vl1 wr1))) (hf : ∀ i, i ≠ 54 → w1[i]? = w[i]?) : MW w1 s n st ks kp1 tp tn1 bo so nu := by
  obtain ⟨oth, nz, mv, fr, to, vl, wr, a54, a55, a56, a57, a58, a59, a60, a61, a62, a63, a64, l, h0, hn, ht⟩ := R
  exact ⟨oth, nz, mv, fr1, to1, vl1, wr1, h, by rw [hf _ (by decide)]; exact a55, by rw [hf _ (by decide)]; exact a56, by rw [hf _ (by decide)]; exact a57, by rw [hf _ (by decide)]; exact a58, by rw [hf _ (by decide)]; exact a59, by rw [hf _ (by decide)]; exact a60, by rw [hf _ (by decide)]; exact a61, by rw [hf _ (by decide)]; exact a62, by rw [hf _ (by decide)]; exact a63, by rw [hf _ (by decide)]; exact a64, l, h0, hn, ht1⟩
theorem MW.k56 (R : MW w s n st ks kp tp tn bo so nu) {w1 : ab_W} {ks1 : List Int32} (h : w1[56]? = some (.inr ks1)) (hl : ks1.length = 90) (hf : ∀ i, i ≠ 56 → w1[i]? = w[i]?) : MW w1 s n st ks1 kp tp tn bo so nu := by
  obtain ⟨oth, nz, mv, fr, to, vl, wr, a54, a55, a56, a57, a58, a59, a60, a61, a62, a63, a64, l, h0, hn, ht⟩ := R
  exact ⟨oth, nz, mv, fr, to, vl, wr, by rw [hf _ (by decide)]; exact a54, by rw [hf _ (by decide)]; exact a55, h, by rw [hf _ (by decide)]; exact a57, by rw [hf _ (by decide)]; exact a58, by rw [hf _ (by decide)]; exact a59, by rw [hf _ (by decide)]; exact a60, by rw [hf _ (by decide)]; exact a61, by rw [hf _ (by decide)]; exact a62, by rw [hf _ (by decide)]; exact a63, by rw [hf _ (by decide)]; exact a64, ⟨l.1, hl, l.2.2⟩, h0, hn, ht⟩
theorem MW.o57 (R : MW w s n st ks kp tp tn bo so nu) {w1 : ab_W} {xs : List Int32} (h : w1[57]? = some (.inr xs)) (hl : xs.length = 90) (hf : ∀ i, i ≠ 57 → w1[i]? = w[i]?) : MW w1 s n st ks kp tp tn bo so nu := by
  obtain ⟨oth, nz, mv, fr, to, vl, wr, a54, a55, a56, a57, a58, a59, a60, a61, a62, a63, a64, l, h0, hn, ht⟩ := R
  exact ⟨xs, nz, mv, fr, to, vl, wr, by rw [hf _ (by decide)]; exact a54, by rw [hf _ (by decide)]; exact a55, by rw [hf _ (by decide)]; exact a56, h, by rw [hf _ (by decide)]; exact a58, by rw [hf _ (by decide)]; exact a59, by rw [hf _ (by decide)]; exact a60, by rw [hf _ (by decide)]; exact a61, by rw [hf _ (by decide)]; exact a62, by rw [hf _ (by decide)]; exact a63, by rw [hf _ (by decide)]; exact a64, ⟨l.1, l.2.1, hl, l.2.2.2⟩, h0, hn, ht⟩
set_option maxRecDepth 100000 in
set_option maxHeartbeats 4000000 in
theorem m_newHouse (R : MW w s n st ks kp tp tn bo so nu) (k : Int32) (hn8 : n < 8) : ab_Q X kX6_newHouse [.ref 54, .int k] w (MP w (nI n) (newS s n k) (n + 1) st ks kp tp tn bo so nu) := by
  have M := R.ms
  have R0 := R
  obtain ⟨oth, nz, mv, fr, to, vl, wr, a54, a55, a56, a57, a58, a59, a60, a61, a62, a63, a64, l, h0, hn, ht⟩ := R
  show ab_H X kX6_newHouse 0 [some (.ref 54), some (.int k), none] [] w _
  have F : ∀ i, i ≠ 55 → w[i]? = w[i]? := fun i _ => rfl
  refine h_s rfl ?_
  refine h_gf rfl rfl rfl a54 rfl ?_
  refine h_k (y := 0) rfl rfl ?_
  refine h_ia 0 rfl a55 (by omega) rfl (by omega) ?_
  refine h_t h0 ?_
  iterate 2 refine h_s rfl ?_
  refine h_gf rfl rfl rfl a54 rfl ?_
  refine h_s rfl ?_
  refine h_k (y := 0) rfl rfl ?_
  refine h_c rfl (m_at n 0 rfl rfl) ?_
  refine h_s rfl ?_
  refine h_is (2 + 8 * n + 0) rfl a55 (by first | omega | (simp only [newS, List.length_set]; omega)) rfl (by first | omega | (simp only [newS, List.length_set]; omega)) (fun w1 e1 f1 => ?_)
  have a54 := (f1 54 (by decide)).trans a54
  have a55 := e1
  have F := fun i (hi : i ≠ 55) => (f1 i hi).trans (F i hi)
  refine h_s rfl ?_
  refine h_gf rfl rfl rfl a54 rfl ?_
  refine h_s rfl ?_
  refine h_k (y := 1) rfl rfl ?_
  refine h_c rfl (m_at n 1 rfl rfl) ?_
  refine h_k (y := (-1)) rfl rfl ?_
  refine h_is (2 + 8 * n + 1) rfl a55 (by first | omega | (simp only [newS, List.length_set]; omega)) rfl (by first | omega | (simp only [newS, List.length_set]; omega)) (fun w1 e1 f1 => ?_)
  have a54 := (f1 54 (by decide)).trans a54
  have a55 := e1
  have F := fun i (hi : i ≠ 55) => (f1 i hi).trans (F i hi)
  refine h_s rfl ?_
  refine h_gf rfl rfl rfl a54 rfl ?_
  refine h_s rfl ?_
  refine h_k (y := 2) rfl rfl ?_
  refine h_c rfl (m_at n 2 rfl rfl) ?_
  refine h_k (y := 0) rfl rfl ?_
  refine h_is (2 + 8 * n + 2) rfl a55 (by first | omega | (simp only [newS, List.length_set]; omega)) rfl (by first | omega | (simp only [newS, List.length_set]; omega)) (fun w1 e1 f1 => ?_)
  have a54 := (f1 54 (by decide)).trans a54
  have a55 := e1
  have F := fun i (hi : i ≠ 55) => (f1 i hi).trans (F i hi)
  refine h_s rfl ?_
  refine h_gf rfl rfl rfl a54 rfl ?_
  refine h_s rfl ?_
  refine h_k (y := 3) rfl rfl ?_
  refine h_c rfl (m_at n 3 rfl rfl) ?_
  refine h_k (y := 6) rfl rfl ?_
  refine h_is (2 + 8 * n + 3) rfl a55 (by first | omega | (simp only [newS, List.length_set]; omega)) rfl (by first | omega | (simp only [newS, List.length_set]; omega)) (fun w1 e1 f1 => ?_)
  have a54 := (f1 54 (by decide)).trans a54
  have a55 := e1
  have F := fun i (hi : i ≠ 55) => (f1 i hi).trans (F i hi)
  refine h_s rfl ?_
  refine h_gf rfl rfl rfl a54 rfl ?_
  refine h_s rfl ?_
  refine h_k (y := 4) rfl rfl ?_
  refine h_c rfl (m_at n 4 rfl rfl) ?_
  refine h_k (y := 22) rfl rfl ?_
  refine h_is (2 + 8 * n + 4) rfl a55 (by first | omega | (simp only [newS, List.length_set]; omega)) rfl (by first | omega | (simp only [newS, List.length_set]; omega)) (fun w1 e1 f1 => ?_)
  have a54 := (f1 54 (by decide)).trans a54
  have a55 := e1
  have F := fun i (hi : i ≠ 55) => (f1 i hi).trans (F i hi)
  refine h_s rfl ?_
  refine h_gf rfl rfl rfl a54 rfl ?_
  refine h_s rfl ?_
  refine h_k (y := 5) rfl rfl ?_
  refine h_c rfl (m_at n 5 rfl rfl) ?_
  refine h_k (y := 0) rfl rfl ?_
  refine h_is (2 + 8 * n + 5) rfl a55 (by first | omega | (simp only [newS, List.length_set]; omega)) rfl (by first | omega | (simp only [newS, List.length_set]; omega)) (fun w1 e1 f1 => ?_)
  have a54 := (f1 54 (by decide)).trans a54
  have a55 := e1
  have F := fun i (hi : i ≠ 55) => (f1 i hi).trans (F i hi)
  refine h_s rfl ?_
  refine h_gf rfl rfl rfl a54 rfl ?_
  refine h_s rfl ?_
  refine h_k (y := 6) rfl rfl ?_
  refine h_c rfl (m_at n 6 rfl rfl) ?_
  refine h_k (y := 2) rfl rfl ?_
  refine h_is (2 + 8 * n + 6) rfl a55 (by first | omega | (simp only [newS, List.length_set]; omega)) rfl (by first | omega | (simp only [newS, List.length_set]; omega)) (fun w1 e1 f1 => ?_)
  have a54 := (f1 54 (by decide)).trans a54
  have a55 := e1
  have F := fun i (hi : i ≠ 55) => (f1 i hi).trans (F i hi)
  refine h_s rfl ?_
  refine h_gf rfl rfl rfl a54 rfl ?_
  refine h_s rfl ?_
  refine h_k (y := 7) rfl rfl ?_
  refine h_c rfl (m_at n 7 rfl rfl) ?_
  refine h_s rfl ?_
  refine h_is (2 + 8 * n + 7) rfl a55 (by first | omega | (simp only [newS, List.length_set]; omega)) rfl (by first | omega | (simp only [newS, List.length_set]; omega)) (fun w1 e1 f1 => ?_)
  have a54 := (f1 54 (by decide)).trans a54
  have a55 := e1
  have F := fun i (hi : i ≠ 55) => (f1 i hi).trans (F i hi)
  refine h_s rfl ?_
  refine h_gf rfl rfl rfl a54 rfl ?_
  refine h_k (y := 0) rfl rfl ?_
  refine h_s rfl ?_
  refine h_ia 0 rfl a55 (by first | omega | (simp only [newS, List.length_set]; omega)) rfl (by first | omega | (simp only [newS, List.length_set]; omega)) ?_
  refine h_t (show _ = nI n by rw [gD_ne (by omega), gD_ne (by omega), gD_ne (by omega), gD_ne (by omega), gD_ne (by omega), gD_ne (by omega), gD_ne (by omega), gD_ne (by omega)]; exact h0) ?_
  refine h_k (y := 1) rfl rfl ?_
  refine h_s rfl ?_
  refine h_t (nI_1 n) ?_
  refine h_is (0) rfl a55 (by first | omega | (simp only [newS, List.length_set]; omega)) rfl (by first | omega | (simp only [newS, List.length_set]; omega)) (fun w1 e1 f1 => ?_)
  have a54 := (f1 54 (by decide)).trans a54
  have a55 := e1
  have F := fun i (hi : i ≠ 55) => (f1 i hi).trans (F i hi)
  refine h_s rfl ?_
  exact h_ri rfl rfl ⟨rfl, R0.s55 a55 (by first | omega | (simp only [newS, List.length_set]; omega)) (gD_eq (by first | omega | (simp only [newS, List.length_set]; omega))) (by omega) F, fun i hi => F i (by omega)⟩
set_option maxRecDepth 100000 in
set_option maxHeartbeats 4000000 in
theorem m_house_k (R : MW w s n st ks kp tp tn bo so nu) (k : Nat) (hk : k < 7) (hn8 : n < 8) : ab_Q X kX6_house [.ref 54, .int (nI k)] w (MP w (nI n) (newS s n (nI k)) (n + 1) st ks kp tp tn bo so nu) := by
  have M := R.ms
  have R0 := R
  obtain ⟨oth, nz, mv, fr, to, vl, wr, a54, a55, a56, a57, a58, a59, a60, a61, a62, a63, a64, l, h0, hn, ht⟩ := R
  show ab_H X kX6_house 0 [some (.ref 54), some (.int (nI k))] [] w _
  iterate 4 refine h_s rfl ?_
  refine h_c rfl (m_in1 (lo := 0) (hi := 6) rfl rfl (by rw [nI_toInt (by omega)]; omega)) ?_
  iterate 2 refine h_s rfl ?_
  refine h_gf rfl rfl rfl a54 rfl ?_
  refine h_k (y := 0) rfl rfl ?_
  refine h_ia 0 rfl a55 (by omega) rfl (by omega) ?_
  refine h_t h0 ?_
  refine h_k (y := 8) rfl rfl ?_
  refine h2_ne rfl rfl (fun h27 => ?_) (fun h27 => absurd h27 (show ¬ nI n = nI 8 from fun q => by rw [nI_eq (by omega) (by omega)] at q; omega))
  iterate 2 refine h_s rfl ?_
  refine hq_v rfl rfl rfl a54 rfl rfl (m_newHouse R0 (nI k) (by omega)) (fun v1 w1 q1 => ?_)
  obtain ⟨rfl, q2, q3⟩ := q1
  exact h_ri rfl rfl ⟨rfl, q2, q3⟩
set_option maxRecDepth 100000 in
set_option maxHeartbeats 4000000 in
theorem m_house_f (R : MW w s n st ks kp tp tn bo so nu) (k : Nat) (hk : k < 7) (hn8 : n = 8) : ab_Q X kX6_house [.ref 54, .int (nI k)] w (MP w (-1000002) s n (bump st 1) ks kp tp tn bo so nu) := by
  have M := R.ms
  have R0 := R
  obtain ⟨oth, nz, mv, fr, to, vl, wr, a54, a55, a56, a57, a58, a59, a60, a61, a62, a63, a64, l, h0, hn, ht⟩ := R
  show ab_H X kX6_house 0 [some (.ref 54), some (.int (nI k))] [] w _
  iterate 4 refine h_s rfl ?_
  refine h_c rfl (m_in1 (lo := 0) (hi := 6) rfl rfl (by rw [nI_toInt (by omega)]; omega)) ?_
  iterate 2 refine h_s rfl ?_
  refine h_gf rfl rfl rfl a54 rfl ?_
  refine h_k (y := 0) rfl rfl ?_
  refine h_ia 0 rfl a55 (by omega) rfl (by omega) ?_
  refine h_t h0 ?_
  refine h_k (y := 8) rfl rfl ?_
  refine h2_ne rfl rfl (fun h27 => absurd h27 (fun q => q (show nI n = nI 8 by rw [hn8]))) (fun h27 => ?_)
  iterate 2 refine h_s rfl ?_
  refine hq_v rfl rfl rfl a54 rfl rfl (m_finds R0 1 (by omega) _ (by decide)) (fun v1 w1 q1 => ?_)
  obtain ⟨rfl, q2, q3⟩ := q1
  refine h_s rfl ?_
  exact h_ri rfl rfl ⟨rfl, q2, q3⟩
set_option maxRecDepth 100000 in
set_option maxHeartbeats 4000000 in
theorem m_name_k0 (R : MW w s n st ks kp tp tn bo so nu) (h f : Nat) (z : Bool) (hh : h < n) (hf : f < 8) : ab_Q X kX6_name [.ref 54, .int (nI h), .int 0, .int (nI f), .int (z01 z)] w (MP w (z01 (bt (fld s h 2) f)) (s.set (2 + 8 * h + 2) (markI (fld s h 2) f z)) n st ks kp tp tn bo so nu) := by
  have M := R.ms
  have R0 := R
  obtain ⟨oth, nz, mv, fr, to, vl, wr, a54, a55, a56, a57, a58, a59, a60, a61, a62, a63, a64, l, h0, hn, ht⟩ := R
  show ab_H X kX6_name 0 [some (.ref 54), some (.int (nI h)), some (.int 0), some (.int (nI f)), some (.int (z01 z)), none, none] [] w _
  iterate 2 refine h_s rfl ?_
  refine h_cv rfl rfl rfl a54 rfl rfl (m_isHouse1 M ⟨h, by omega, rfl⟩) ?_
  iterate 5 refine h_s rfl ?_
  refine h_c rfl (m_in1 (x := 0) (lo := 0) (hi := 1) rfl rfl (by decide)) ?_
  iterate 5 refine h_s rfl ?_
  refine h_c rfl (m_in1 (lo := 0) (hi := 7) rfl rfl (by rw [nI_toInt (by omega)]; omega)) ?_
  iterate 4 refine h_s rfl ?_
  refine h_k (y := 2) rfl rfl ?_
  refine h_s rfl ?_
  refine h_c rfl (m_at h 2 rfl rfl) ?_
  iterate 2 refine h_s rfl ?_
  refine h_gf rfl rfl rfl a54 rfl ?_
  refine h_s rfl ?_
  refine h_ia (2 + 8 * h + 2) rfl a55 (by omega) rfl (by omega) ?_
  iterate 2 refine h_s rfl ?_
  refine h_gf rfl rfl rfl a54 rfl ?_
  iterate 2 refine h_s rfl ?_
  refine hz_eq rfl rfl (fun h69 => ?_) (fun h69 => ?_)
  · refine h_s rfl ?_
    refine h_k (y := 1) rfl rfl ?_
    iterate 2 refine h_s rfl ?_
    refine h_k (y := (-1)) rfl rfl ?_
    iterate 2 refine h_s rfl ?_
    refine h_is (2 + 8 * h + 2) rfl a55 (by omega) rfl (by omega) (fun w1 e1 f1 => ?_)
    iterate 2 refine h_s rfl ?_
    refine h_c rfl (m_has f (by omega)) ?_
    refine hz_eq rfl rfl (fun h96 => ?_) (fun h96 => ?_)
    · refine h_k (y := 0) rfl rfl ?_
      exact h_ri rfl (by rw [show bt (fld s h 2) f = _ from h96]; rfl) ⟨rfl, by rw [h69]; exact R0.sj e1 (by omega) f1, fun i hi => f1 i (by omega)⟩
    · refine h_k (y := 1) rfl rfl ?_
      refine h_s rfl ?_
      exact h_ri rfl (by rw [show bt (fld s h 2) f = _ from h96]; rfl) ⟨rfl, by rw [h69]; exact R0.sj e1 (by omega) f1, fun i hi => f1 i (by omega)⟩
  · refine h_s rfl ?_
    refine h_k (y := 1) rfl rfl ?_
    iterate 4 refine h_s rfl ?_
    refine h_is (2 + 8 * h + 2) rfl a55 (by omega) rfl (by omega) (fun w1 e1 f1 => ?_)
    iterate 2 refine h_s rfl ?_
    refine h_c rfl (m_has f (by omega)) ?_
    refine hz_eq rfl rfl (fun h96 => ?_) (fun h96 => ?_)
    · refine h_k (y := 0) rfl rfl ?_
      exact h_ri rfl (by rw [show bt (fld s h 2) f = _ from h96]; rfl) ⟨rfl, by rw [h69]; exact R0.sj e1 (by omega) f1, fun i hi => f1 i (by omega)⟩
    · refine h_k (y := 1) rfl rfl ?_
      refine h_s rfl ?_
      exact h_ri rfl (by rw [show bt (fld s h 2) f = _ from h96]; rfl) ⟨rfl, by rw [h69]; exact R0.sj e1 (by omega) f1, fun i hi => f1 i (by omega)⟩
set_option maxRecDepth 100000 in
set_option maxHeartbeats 4000000 in
theorem m_name_k1 (R : MW w s n st ks kp tp tn bo so nu) (h f : Nat) (z : Bool) (hh : h < n) (hf : f < 8) : ab_Q X kX6_name [.ref 54, .int (nI h), .int 1, .int (nI f), .int (z01 z)] w (MP w (z01 (bt (fld s h 5) f)) (s.set (2 + 8 * h + 5) (markI (fld s h 5) f z)) n st ks kp tp tn bo so nu) := by
  have M := R.ms
  have R0 := R
  obtain ⟨oth, nz, mv, fr, to, vl, wr, a54, a55, a56, a57, a58, a59, a60, a61, a62, a63, a64, l, h0, hn, ht⟩ := R
  show ab_H X kX6_name 0 [some (.ref 54), some (.int (nI h)), some (.int 1), some (.int (nI f)), some (.int (z01 z)), none, none] [] w _
  iterate 2 refine h_s rfl ?_
  refine h_cv rfl rfl rfl a54 rfl rfl (m_isHouse1 M ⟨h, by omega, rfl⟩) ?_
  iterate 5 refine h_s rfl ?_
  refine h_c rfl (m_in1 (x := 1) (lo := 0) (hi := 1) rfl rfl (by decide)) ?_
  iterate 5 refine h_s rfl ?_
  refine h_c rfl (m_in1 (lo := 0) (hi := 7) rfl rfl (by rw [nI_toInt (by omega)]; omega)) ?_
  iterate 4 refine h_s rfl ?_
  refine h_k (y := 5) rfl rfl ?_
  refine h_c rfl (m_at h 5 rfl rfl) ?_
  iterate 2 refine h_s rfl ?_
  refine h_gf rfl rfl rfl a54 rfl ?_
  refine h_s rfl ?_
  refine h_ia (2 + 8 * h + 5) rfl a55 (by omega) rfl (by omega) ?_
  iterate 2 refine h_s rfl ?_
  refine h_gf rfl rfl rfl a54 rfl ?_
  iterate 2 refine h_s rfl ?_
  refine hz_eq rfl rfl (fun h69 => ?_) (fun h69 => ?_)
  · refine h_s rfl ?_
    refine h_k (y := 1) rfl rfl ?_
    iterate 2 refine h_s rfl ?_
    refine h_k (y := (-1)) rfl rfl ?_
    iterate 2 refine h_s rfl ?_
    refine h_is (2 + 8 * h + 5) rfl a55 (by omega) rfl (by omega) (fun w1 e1 f1 => ?_)
    iterate 2 refine h_s rfl ?_
    refine h_c rfl (m_has f (by omega)) ?_
    refine hz_eq rfl rfl (fun h96 => ?_) (fun h96 => ?_)
    · refine h_k (y := 0) rfl rfl ?_
      exact h_ri rfl (by rw [show bt (fld s h 5) f = _ from h96]; rfl) ⟨rfl, by rw [h69]; exact R0.sj e1 (by omega) f1, fun i hi => f1 i (by omega)⟩
    · refine h_k (y := 1) rfl rfl ?_
      refine h_s rfl ?_
      exact h_ri rfl (by rw [show bt (fld s h 5) f = _ from h96]; rfl) ⟨rfl, by rw [h69]; exact R0.sj e1 (by omega) f1, fun i hi => f1 i (by omega)⟩
  · refine h_s rfl ?_
    refine h_k (y := 1) rfl rfl ?_
    iterate 4 refine h_s rfl ?_
    refine h_is (2 + 8 * h + 5) rfl a55 (by omega) rfl (by omega) (fun w1 e1 f1 => ?_)
    iterate 2 refine h_s rfl ?_
    refine h_c rfl (m_has f (by omega)) ?_
    refine hz_eq rfl rfl (fun h96 => ?_) (fun h96 => ?_)
    · refine h_k (y := 0) rfl rfl ?_
      exact h_ri rfl (by rw [show bt (fld s h 5) f = _ from h96]; rfl) ⟨rfl, by rw [h69]; exact R0.sj e1 (by omega) f1, fun i hi => f1 i (by omega)⟩
    · refine h_k (y := 1) rfl rfl ?_
      refine h_s rfl ?_
      exact h_ri rfl (by rw [show bt (fld s h 5) f = _ from h96]; rfl) ⟨rfl, by rw [h69]; exact R0.sj e1 (by omega) f1, fun i hi => f1 i (by omega)⟩
set_option maxRecDepth 100000 in
set_option maxHeartbeats 4000000 in
theorem m_stair_b (R : MW w s n st ks kp tp tn bo so nu) (a b : Int32) (hb : (wayOK n a b) = false)  : ab_Q X kX6_stair [.ref 54, .int a, .int b] w (MP w (-1000001) s n (bump st 0) ks kp tp tn bo so nu) := by
  have M := R.ms
  have R0 := R
  obtain ⟨oth, nz, mv, fr, to, vl, wr, a54, a55, a56, a57, a58, a59, a60, a61, a62, a63, a64, l, h0, hn, ht⟩ := R
  show ab_H X kX6_stair 0 [some (.ref 54), some (.int a), some (.int b), none] [] w _
  iterate 2 refine h_s rfl ?_
  refine h_cv rfl rfl rfl a54 rfl rfl (m_isHouse M _) ?_
  refine hz_eq rfl rfl (fun h5 => ?_) (fun h5 => ?_)
  · iterate 2 refine h_s rfl ?_
    refine hq_v rfl rfl rfl a54 rfl rfl (m_finds R0 0 (by omega) _ (by decide)) (fun v1 w1 q1 => ?_)
    obtain ⟨rfl, q2, q3⟩ := q1
    exact h_ri rfl rfl ⟨rfl, q2, q3⟩
  · iterate 4 refine h_s rfl ?_
    refine h_c rfl (m_inW _) ?_
    refine hz_eq rfl rfl (fun h17 => ?_) (fun h17 => ?_)
    · iterate 2 refine h_s rfl ?_
      refine hq_v rfl rfl rfl a54 rfl rfl (m_finds R0 0 (by omega) _ (by decide)) (fun v1 w1 q1 => ?_)
      obtain ⟨rfl, q2, q3⟩ := q1
      exact h_ri rfl rfl ⟨rfl, q2, q3⟩
    · refine h_s rfl ?_
      refine h1_ne rfl rfl (fun h21 => ?_) (fun h21 => ?_)
      · refine h_s rfl ?_
        refine h_k (y := 1) rfl rfl ?_
        refine h2_ne rfl rfl (fun h30 => ?_) (fun h30 => ?_)
        · exact absurd hb (by simp [wayOK, h5, h17, h21, h30])
        · refine h_s rfl ?_
          refine h_k (y := 7) rfl rfl ?_
          refine h2_ne rfl rfl (fun h36 => ?_) (fun h36 => ?_)
          · exact absurd hb (by simp [wayOK, h5, h17, h21, h30, h36])
          · iterate 2 refine h_s rfl ?_
            refine hq_v rfl rfl rfl a54 rfl rfl (m_finds R0 0 (by omega) _ (by decide)) (fun v1 w1 q1 => ?_)
            obtain ⟨rfl, q2, q3⟩ := q1
            exact h_ri rfl rfl ⟨rfl, q2, q3⟩
      · refine h_s rfl ?_
        refine h1_eq rfl rfl (fun h25 => ?_) (fun h25 => ?_)
        · iterate 2 refine h_s rfl ?_
          refine hq_v rfl rfl rfl a54 rfl rfl (m_finds R0 0 (by omega) _ (by decide)) (fun v1 w1 q1 => ?_)
          obtain ⟨rfl, q2, q3⟩ := q1
          exact h_ri rfl rfl ⟨rfl, q2, q3⟩
        · refine h_s rfl ?_
          refine h_k (y := 1) rfl rfl ?_
          refine h2_ne rfl rfl (fun h30 => ?_) (fun h30 => ?_)
          · exact absurd hb (by simp [wayOK, h5, h17, h21, h25, h30])
          · refine h_s rfl ?_
            refine h_k (y := 7) rfl rfl ?_
            refine h2_ne rfl rfl (fun h36 => ?_) (fun h36 => ?_)
            · exact absurd hb (by simp [wayOK, h5, h17, h21, h25, h30, h36])
            · iterate 2 refine h_s rfl ?_
              refine hq_v rfl rfl rfl a54 rfl rfl (m_finds R0 0 (by omega) _ (by decide)) (fun v1 w1 q1 => ?_)
              obtain ⟨rfl, q2, q3⟩ := q1
              exact h_ri rfl rfl ⟨rfl, q2, q3⟩
set_option maxRecDepth 100000 in
set_option maxHeartbeats 4000000 in
theorem m_stair_km (R : MW w s n st ks kp tp tn bo so nu) (h : Nat) (hh : h < n)  : ab_Q X kX6_stair [.ref 54, .int (nI h), .int (-1)] w (MP w (fld s h 1) (s.set (2 + 8 * h + 1) (-1)) n st ks kp tp tn bo so nu) := by
  have M := R.ms
  have R0 := R
  obtain ⟨oth, nz, mv, fr, to, vl, wr, a54, a55, a56, a57, a58, a59, a60, a61, a62, a63, a64, l, h0, hn, ht⟩ := R
  show ab_H X kX6_stair 0 [some (.ref 54), some (.int (nI h)), some (.int (-1)), none] [] w _
  iterate 2 refine h_s rfl ?_
  refine h_cv rfl rfl rfl a54 rfl rfl (m_isHouse1 M ⟨h, by omega, rfl⟩) ?_
  iterate 5 refine h_s rfl ?_
  refine h_c rfl (m_in1 (x := (-1)) (lo := -1) (hi := 1) rfl rfl (by decide)) ?_
  iterate 4 refine h_s rfl ?_
  refine h_k (y := 1) rfl rfl ?_
  iterate 3 refine h_s rfl ?_
  refine h_k (y := 1) rfl rfl ?_
  refine h_cv rfl rfl rfl a54 rfl rfl (m_its M h 1 (by omega) (by omega) rfl rfl) ?_
  iterate 2 refine h_s rfl ?_
  refine h_gf rfl rfl rfl a54 rfl ?_
  refine h_s rfl ?_
  refine h_k (y := 1) rfl rfl ?_
  refine h_c rfl (m_at h 1 rfl rfl) ?_
  iterate 2 refine h_s rfl ?_
  refine h_k (y := (-1)) rfl rfl ?_
  refine h_s rfl ?_
  refine h_is (2 + 8 * h + 1) rfl a55 (by omega) rfl (by omega) (fun w1 e1 f1 => ?_)
  refine h_s rfl ?_
  exact h_ri rfl rfl ⟨rfl, R0.sj e1 (by omega) f1, fun i hi => f1 i (by omega)⟩
set_option maxRecDepth 100000 in
set_option maxHeartbeats 4000000 in
theorem m_stair_k0 (R : MW w s n st ks kp tp tn bo so nu) (h : Nat) (hh : h < n) (h0' : 0 < h) : ab_Q X kX6_stair [.ref 54, .int (nI h), .int 0] w (MP w (fld s h 1) (s.set (2 + 8 * h + 1) (nI (h - 1))) n st ks kp tp tn bo so nu) := by
  have M := R.ms
  have R0 := R
  obtain ⟨oth, nz, mv, fr, to, vl, wr, a54, a55, a56, a57, a58, a59, a60, a61, a62, a63, a64, l, h0, hn, ht⟩ := R
  show ab_H X kX6_stair 0 [some (.ref 54), some (.int (nI h)), some (.int 0), none] [] w _
  iterate 2 refine h_s rfl ?_
  refine h_cv rfl rfl rfl a54 rfl rfl (m_isHouse1 M ⟨h, by omega, rfl⟩) ?_
  iterate 5 refine h_s rfl ?_
  refine h_c rfl (m_in1 (x := 0) (lo := -1) (hi := 1) rfl rfl (by decide)) ?_
  iterate 4 refine h_s rfl ?_
  refine h1_eq rfl rfl (fun h25 => absurd h25 (nI_ne0 h0' (by omega))) (fun h25 => ?_)
  refine h_s rfl ?_
  refine h_k (y := 1) rfl rfl ?_
  iterate 3 refine h_s rfl ?_
  refine h_k (y := 1) rfl rfl ?_
  refine h_cv rfl rfl rfl a54 rfl rfl (m_its M h 1 (by omega) (by omega) rfl rfl) ?_
  iterate 2 refine h_s rfl ?_
  refine h_gf rfl rfl rfl a54 rfl ?_
  refine h_s rfl ?_
  refine h_k (y := 1) rfl rfl ?_
  refine h_c rfl (m_at h 1 rfl rfl) ?_
  iterate 5 refine h_s rfl ?_
  refine h_k (y := 1) rfl rfl ?_
  refine h_s rfl ?_
  refine h_t (pk_sub (a := h) (b := 1) (by omega)) ?_
  refine h_s rfl ?_
  refine h_is (2 + 8 * h + 1) rfl a55 (by omega) rfl (by omega) (fun w1 e1 f1 => ?_)
  refine h_s rfl ?_
  exact h_ri rfl rfl ⟨rfl, R0.sj e1 (by omega) f1, fun i hi => f1 i (by omega)⟩
set_option maxRecDepth 100000 in
set_option maxHeartbeats 4000000 in
theorem m_stair_k1 (R : MW w s n st ks kp tp tn bo so nu) (h : Nat) (hh : h < n) (h7' : h < 7) : ab_Q X kX6_stair [.ref 54, .int (nI h), .int 1] w (MP w (fld s h 1) (s.set (2 + 8 * h + 1) (nI (h + 1))) n st ks kp tp tn bo so nu) := by
  have M := R.ms
  have R0 := R
  obtain ⟨oth, nz, mv, fr, to, vl, wr, a54, a55, a56, a57, a58, a59, a60, a61, a62, a63, a64, l, h0, hn, ht⟩ := R
  show ab_H X kX6_stair 0 [some (.ref 54), some (.int (nI h)), some (.int 1), none] [] w _
  iterate 2 refine h_s rfl ?_
  refine h_cv rfl rfl rfl a54 rfl rfl (m_isHouse1 M ⟨h, by omega, rfl⟩) ?_
  iterate 5 refine h_s rfl ?_
  refine h_c rfl (m_in1 (x := 1) (lo := -1) (hi := 1) rfl rfl (by decide)) ?_
  iterate 4 refine h_s rfl ?_
  refine h_k (y := 1) rfl rfl ?_
  iterate 2 refine h_s rfl ?_
  refine h_k (y := 7) rfl rfl ?_
  refine h2_ne rfl rfl (fun h36 => ?_) (fun h36 => absurd h36 (show ¬ nI h = nI 7 from fun q => by rw [nI_eq (by omega) (by omega)] at q; omega))
  iterate 2 refine h_s rfl ?_
  refine h_k (y := 1) rfl rfl ?_
  refine h_cv rfl rfl rfl a54 rfl rfl (m_its M h 1 (by omega) (by omega) rfl rfl) ?_
  iterate 2 refine h_s rfl ?_
  refine h_gf rfl rfl rfl a54 rfl ?_
  refine h_s rfl ?_
  refine h_k (y := 1) rfl rfl ?_
  refine h_c rfl (m_at h 1 rfl rfl) ?_
  iterate 5 refine h_s rfl ?_
  refine h_k (y := 1) rfl rfl ?_
  refine h_s rfl ?_
  refine h_t (nI_1 h) ?_
  refine h_is (2 + 8 * h + 1) rfl a55 (by omega) rfl (by omega) (fun w1 e1 f1 => ?_)
  refine h_s rfl ?_
  exact h_ri rfl rfl ⟨rfl, R0.sj e1 (by omega) f1, fun i hi => f1 i (by omega)⟩
set_option maxRecDepth 100000 in
set_option maxHeartbeats 4000000 in
theorem m_as_m (R : MW w s n st ks kp tp tn bo so nu) (k j : Nat) (hk : k < 10) (hj : j < 7) (hs : s.getD (80 + k) 0 = -1) : ab_Q X kX6_as [.ref 54, .int (nI k), .int (nI j)] w (MP w (-1000006) s n (bump st 5) ks kp tp tn bo so nu) := by
  have M := R.ms
  have R0 := R
  obtain ⟨oth, nz, mv, fr, to, vl, wr, a54, a55, a56, a57, a58, a59, a60, a61, a62, a63, a64, l, h0, hn, ht⟩ := R
  show ab_H X kX6_as 0 [some (.ref 54), some (.int (nI k)), some (.int (nI j)), none, none, none] [] w _
  iterate 4 refine h_s rfl ?_
  refine h_c rfl (m_in1 (lo := 0) (hi := 9) rfl rfl (by rw [nI_toInt (by omega)]; omega)) ?_
  iterate 5 refine h_s rfl ?_
  refine h_c rfl (m_in1 (lo := 0) (hi := 6) rfl rfl (by rw [nI_toInt (by omega)]; omega)) ?_
  iterate 2 refine h_s rfl ?_
  refine h_gf rfl rfl rfl a54 rfl ?_
  refine h_k (y := 80) rfl rfl ?_
  iterate 2 refine h_s rfl ?_
  refine h_ia (80 + k) rfl a55 (by omega) (nI_add 80 k) (by omega) ?_
  refine h_t hs ?_
  iterate 5 refine h_s rfl ?_
  refine hq_v rfl rfl rfl a54 rfl rfl (m_finds R0 5 (by omega) _ (by decide)) (fun v1 w1 q1 => ?_)
  obtain ⟨rfl, q2, q3⟩ := q1
  exact h_ri rfl rfl ⟨rfl, q2, q3⟩
set_option maxRecDepth 100000 in
set_option maxHeartbeats 4000000 in
theorem m_as_k (R : MW w s n st ks kp tp tn bo so nu) (k j h : Nat) (hk : k < 10) (hj : j < 7) (hh : h < n) (hs : s.getD (80 + k) 0 = nI h) : ab_Q X kX6_as [.ref 54, .int (nI k), .int (nI j)] w (fun v w1 => if asI (fld s h 0) (nI j) = true then MP w (nI h) s n st ks kp tp tn bo so nu v w1 else MP w (-1000003) s n (bump st 2) ks kp tp tn bo so nu v w1) := by
  have M := R.ms
  have R0 := R
  obtain ⟨oth, nz, mv, fr, to, vl, wr, a54, a55, a56, a57, a58, a59, a60, a61, a62, a63, a64, l, h0, hn, ht⟩ := R
  show ab_H X kX6_as 0 [some (.ref 54), some (.int (nI k)), some (.int (nI j)), none, none, none] [] w _
  iterate 4 refine h_s rfl ?_
  refine h_c rfl (m_in1 (lo := 0) (hi := 9) rfl rfl (by rw [nI_toInt (by omega)]; omega)) ?_
  iterate 5 refine h_s rfl ?_
  refine h_c rfl (m_in1 (lo := 0) (hi := 6) rfl rfl (by rw [nI_toInt (by omega)]; omega)) ?_
  iterate 2 refine h_s rfl ?_
  refine h_gf rfl rfl rfl a54 rfl ?_
  refine h_k (y := 80) rfl rfl ?_
  iterate 2 refine h_s rfl ?_
  refine h_ia (80 + k) rfl a55 (by omega) (nI_add 80 k) (by omega) ?_
  refine h_t hs ?_
  iterate 2 refine h_s rfl ?_
  refine h1_ge rfl rfl (fun h42 => ?_) (fun h42 => absurd (nI_pos' (by omega)) h42)
  iterate 2 refine h_s rfl ?_
  refine h_k (y := 0) rfl rfl ?_
  refine h_cv rfl rfl rfl a54 rfl rfl (m_its M h 0 (by omega) (by omega) rfl rfl) ?_
  iterate 2 refine h_s rfl ?_
  refine h1_eq rfl rfl (fun h62 => ?_) (fun h62 => ?_)
  · refine h_k (y := 1) rfl rfl ?_
    iterate 6 refine h_s rfl ?_
    exact h_ri rfl rfl (by rw [if_pos (by clear R0 M a54 a55 a56 a57 a58 a59 a60 a61 a62 a63 a64 l; first | (simp [asI, h62]; done) | simp_all [asI])]; exact MP.same R0 _)
  · iterate 2 refine h_s rfl ?_
    refine h2_eq rfl rfl (fun h68 => ?_) (fun h68 => ?_)
    · refine h_k (y := 1) rfl rfl ?_
      iterate 6 refine h_s rfl ?_
      exact h_ri rfl rfl (by rw [if_pos (by clear R0 M a54 a55 a56 a57 a58 a59 a60 a61 a62 a63 a64 l; first | (simp [asI, h62, h68]; done) | simp_all [asI])]; exact MP.same R0 _)
    · refine h_s rfl ?_
      refine h_k (y := 1) rfl rfl ?_
      refine h2_ne rfl rfl (fun h73 => ?_) (fun h73 => ?_)
      · refine h_s rfl ?_
        refine h_k (y := 2) rfl rfl ?_
        refine h2_ne rfl rfl (fun h91 => ?_) (fun h91 => ?_)
        · refine h_k (y := 0) rfl rfl ?_
          iterate 5 refine h_s rfl ?_
          refine hq_v rfl rfl rfl a54 rfl rfl (m_finds R0 2 (by omega) _ (by decide)) (fun v1 w1 q1 => ?_)
          obtain ⟨rfl, q2, q3⟩ := q1
          exact h_ri rfl rfl (by rw [if_neg (by clear R0 M a54 a55 a56 a57 a58 a59 a60 a61 a62 a63 a64 l; first | (simp [asI, h62, h68, h73, h91]; done) | simp_all [asI])]; exact ⟨rfl, q2, q3⟩)
        · refine h_s rfl ?_
          refine h_k (y := 3) rfl rfl ?_
          refine h2_ne rfl rfl (fun h97 => ?_) (fun h97 => ?_)
          · refine h_k (y := 0) rfl rfl ?_
            iterate 5 refine h_s rfl ?_
            refine hq_v rfl rfl rfl a54 rfl rfl (m_finds R0 2 (by omega) _ (by decide)) (fun v1 w1 q1 => ?_)
            obtain ⟨rfl, q2, q3⟩ := q1
            exact h_ri rfl rfl (by rw [if_neg (by clear R0 M a54 a55 a56 a57 a58 a59 a60 a61 a62 a63 a64 l; first | (simp [asI, h62, h68, h73, h91, h97]; done) | simp_all [asI])]; exact ⟨rfl, q2, q3⟩)
          · refine h_k (y := 1) rfl rfl ?_
            iterate 6 refine h_s rfl ?_
            exact h_ri rfl rfl (by rw [if_pos (by clear R0 M a54 a55 a56 a57 a58 a59 a60 a61 a62 a63 a64 l; first | (simp [asI, h62, h68, h73, h91, h97]; done) | simp_all [asI])]; exact MP.same R0 _)
      · refine h_s rfl ?_
        refine h_k (y := 4) rfl rfl ?_
        refine h2_eq rfl rfl (fun h79 => ?_) (fun h79 => ?_)
        · refine h_k (y := 1) rfl rfl ?_
          iterate 6 refine h_s rfl ?_
          exact h_ri rfl rfl (by rw [if_pos (by clear R0 M a54 a55 a56 a57 a58 a59 a60 a61 a62 a63 a64 l; first | (simp [asI, h62, h68, h73, h79]; done) | simp_all [asI])]; exact MP.same R0 _)
        · refine h_s rfl ?_
          refine h_k (y := 6) rfl rfl ?_
          refine h2_eq rfl rfl (fun h86 => ?_) (fun h86 => ?_)
          · refine h_k (y := 1) rfl rfl ?_
            iterate 6 refine h_s rfl ?_
            exact h_ri rfl rfl (by rw [if_pos (by clear R0 M a54 a55 a56 a57 a58 a59 a60 a61 a62 a63 a64 l; first | (simp [asI, h62, h68, h73, h79, h86]; done) | simp_all [asI])]; exact MP.same R0 _)
          · refine h_s rfl ?_
            refine h_k (y := 2) rfl rfl ?_
            refine h2_ne rfl rfl (fun h91 => ?_) (fun h91 => ?_)
            · refine h_k (y := 0) rfl rfl ?_
              iterate 5 refine h_s rfl ?_
              refine hq_v rfl rfl rfl a54 rfl rfl (m_finds R0 2 (by omega) _ (by decide)) (fun v1 w1 q1 => ?_)
              obtain ⟨rfl, q2, q3⟩ := q1
              exact h_ri rfl rfl (by rw [if_neg (by clear R0 M a54 a55 a56 a57 a58 a59 a60 a61 a62 a63 a64 l; first | (simp [asI, h62, h68, h73, h79, h86, h91]; done) | simp_all [asI])]; exact ⟨rfl, q2, q3⟩)
            · refine h_s rfl ?_
              refine h_k (y := 3) rfl rfl ?_
              refine h2_ne rfl rfl (fun h97 => ?_) (fun h97 => ?_)
              · refine h_k (y := 0) rfl rfl ?_
                iterate 5 refine h_s rfl ?_
                refine hq_v rfl rfl rfl a54 rfl rfl (m_finds R0 2 (by omega) _ (by decide)) (fun v1 w1 q1 => ?_)
                obtain ⟨rfl, q2, q3⟩ := q1
                exact h_ri rfl rfl (by rw [if_neg (by clear R0 M a54 a55 a56 a57 a58 a59 a60 a61 a62 a63 a64 l; first | (simp [asI, h62, h68, h73, h79, h86, h91, h97]; done) | simp_all [asI])]; exact ⟨rfl, q2, q3⟩)
              · refine h_k (y := 1) rfl rfl ?_
                iterate 6 refine h_s rfl ?_
                exact h_ri rfl rfl (by rw [if_pos (by clear R0 M a54 a55 a56 a57 a58 a59 a60 a61 a62 a63 a64 l; first | (simp [asI, h62, h68, h73, h79, h86, h91, h97]; done) | simp_all [asI])]; exact MP.same R0 _)
end MB
end
section
/-! THE REFERENCE: copies of the row; counts -/
def sumI (g : Nat → Int32) : Nat → Int32
  | 0 => 0
  | m + 1 => sumI g m + g m
theorem sumI_cong {g g' : Nat → Int32} : ∀ {m : Nat}, (∀ i, i < m → g i = g' i) → sumI g m = sumI g' m
  | 0, _ => rfl
  | m + 1, h => by rw [sumI, sumI, sumI_cong (fun i hi => h i (by omega)), h m (by omega)]
theorem cnt_t {p : Nat → Bool} {i : Nat} (h : p i = true) : nI (cntR p i) + 1 = nI (cntR p (i + 1)) := by
  rw [cntR, h, if_pos rfl, ← nI_succ]
theorem cnt_f {p : Nat → Bool} {i : Nat} (h : p i = false) : nI (cntR p i) + 0 = nI (cntR p (i + 1)) := by
  rw [cntR, h, if_neg (by decide)]
  exact Int32.add_zero _
theorem cnt_z {p : Nat → Bool} {i : Nat} {x : Int32} (h : x = z01 (p i)) : nI (cntR p i) + x = nI (cntR p (i + 1)) := by
  cases hp : p i with
  | true => rw [h, hp]; exact cnt_t hp
  | false => rw [h, hp]; exact cnt_f hp
section MC
variable {X : List Int32} {w : ab_W} {s : List Int32} {n : Nat} {st ks : List Int32} {kp : Bool} {tp : List Int32} {tn : Nat} {bo so nu : List Int32}
set_option maxRecDepth 100000 in
set_option maxHeartbeats 4000000 in
theorem m_puts (R : MW w s n st ks kp tp tn bo so nu) : ab_Q X kX6_puts [.ref 54] w (fun v w1 => v = none ∧ MW w1 s n st ks kp tp tn bo so nu ∧ w1[57]? = some (.inr s) ∧ ∀ i, i ≠ 57 → w1[i]? = w[i]?) := by
  have M := R.ms
  have R0 := R
  obtain ⟨oth, nz, mv, fr, to, vl, wr, a54, a55, a56, a57, a58, a59, a60, a61, a62, a63, a64, l, h0, hn, ht⟩ := R
  show ab_H X kX6_puts 0 [some (.ref 54), none] [] w _
  refine h_k (y := 0) rfl rfl ?_
  refine h_s rfl ?_
  refine h_loop0 90 (fun i ls w1 => (∀ j, j ≠ 57 → w1[j]? = w[j]?) ∧ ls = [some (.ref 54), some (.int (nI i))] ∧ ∃ xs : List Int32, w1[57]? = some (.inr xs) ∧ xs.length = 90 ∧ ∀ j, j < i → xs.getD j 0 = s.getD j 0) ⟨fun _ _ => rfl, rfl, oth, a57, by omega, fun j hj => absurd hj (by omega)⟩ (fun i ls w1 hi hJ ih => ?_) (fun ls w1 hJ => ?_)
  · obtain ⟨F, rfl, xs, e5, l5, hx⟩ := hJ
    have a54 := (F 54 (by decide)).trans a54
    have aS := (F 55 (by decide)).trans a55
    refine h_s rfl ?_
    refine h_k (y := 90) rfl rfl ?_
    refine h2_ge rfl rfl (fun h5 => absurd h5 (nI_ge (b := 90) hi (by omega))) (fun h5 => ?_)
    refine h_s rfl ?_
    refine h_gf rfl rfl rfl a54 rfl ?_
    iterate 2 refine h_s rfl ?_
    refine h_gf rfl rfl rfl a54 rfl ?_
    refine h_s rfl ?_
    refine h_ia i rfl aS (by omega) rfl (by omega) ?_
    refine h_is i rfl e5 (by omega) rfl (by omega) (fun w2 e2 f2 => ?_)
    refine h_ii rfl rfl rfl ?_
    refine h_s rfl ?_
    refine ih _ _ ⟨fun j hj => (f2 j hj).trans (F j hj), rfl, _, e2, (List.length_set ..).trans l5, fun j hj => ?_⟩
    rw [gD_set _ _ _ _ (by omega)]
    by_cases e : j = i
    · rw [if_pos e, e]
    · rw [if_neg e]; exact hx j (by omega)
  · obtain ⟨F, rfl, xs, e5, l5, hx⟩ := hJ
    have a54 := (F 54 (by decide)).trans a54
    have hE := l_ext (m := 90) (by omega) (by omega) hx
    subst hE
    refine h_s rfl ?_
    refine h_k (y := 90) rfl rfl ?_
    refine h2_ge rfl rfl (fun h5 => ?_) (fun h5 => absurd (nI_le (a := 90) (b := 90) (Nat.le_refl _) (by omega)) h5)
    exact h_r rfl ⟨rfl, R0.o57 e5 (by omega) F, e5, F⟩
set_option maxRecDepth 100000 in
set_option maxHeartbeats 4000000 in
theorem m_putsBack (R : MW w s n st ks kp tp tn bo so nu) (o : List Int32) (m : Nat) (ho : w[57]? = some (.inr o)) (ho0 : o.getD 0 0 = nI m) (hm : m ≤ 8) : ab_Q X kX6_putsBack [.ref 54] w (fun v w1 => v = none ∧ MW w1 o m st ks kp tp tn bo so nu ∧ ∀ i, i ≠ 55 → w1[i]? = w[i]?) := by
  have M := R.ms
  have R0 := R
  obtain ⟨oth, nz, mv, fr, to, vl, wr, a54, a55, a56, a57, a58, a59, a60, a61, a62, a63, a64, l, h0, hn, ht⟩ := R
  have hoo : oth = o := by rw [a57] at ho; exact Sum.inr.inj (Option.some.inj ho)
  subst hoo
  show ab_H X kX6_putsBack 0 [some (.ref 54), none] [] w _
  refine h_k (y := 0) rfl rfl ?_
  refine h_s rfl ?_
  refine h_loop0 90 (fun i ls w1 => (∀ j, j ≠ 55 → w1[j]? = w[j]?) ∧ ls = [some (.ref 54), some (.int (nI i))] ∧ ∃ xs : List Int32, w1[55]? = some (.inr xs) ∧ xs.length = 90 ∧ ∀ j, j < i → xs.getD j 0 = oth.getD j 0) ⟨fun _ _ => rfl, rfl, s, a55, by omega, fun j hj => absurd hj (by omega)⟩ (fun i ls w1 hi hJ ih => ?_) (fun ls w1 hJ => ?_)
  · obtain ⟨F, rfl, xs, e5, l5, hx⟩ := hJ
    have a54 := (F 54 (by decide)).trans a54
    have aS := (F 57 (by decide)).trans a57
    refine h_s rfl ?_
    refine h_k (y := 90) rfl rfl ?_
    refine h2_ge rfl rfl (fun h5 => absurd h5 (nI_ge (b := 90) hi (by omega))) (fun h5 => ?_)
    refine h_s rfl ?_
    refine h_gf rfl rfl rfl a54 rfl ?_
    iterate 2 refine h_s rfl ?_
    refine h_gf rfl rfl rfl a54 rfl ?_
    refine h_s rfl ?_
    refine h_ia i rfl aS (by omega) rfl (by omega) ?_
    refine h_is i rfl e5 (by omega) rfl (by omega) (fun w2 e2 f2 => ?_)
    refine h_ii rfl rfl rfl ?_
    refine h_s rfl ?_
    refine ih _ _ ⟨fun j hj => (f2 j hj).trans (F j hj), rfl, _, e2, (List.length_set ..).trans l5, fun j hj => ?_⟩
    rw [gD_set _ _ _ _ (by omega)]
    by_cases e : j = i
    · rw [if_pos e, e]
    · rw [if_neg e]; exact hx j (by omega)
  · obtain ⟨F, rfl, xs, e5, l5, hx⟩ := hJ
    have a54 := (F 54 (by decide)).trans a54
    have hE := l_ext (m := 90) (by omega) (by omega) hx
    subst hE
    refine h_s rfl ?_
    refine h_k (y := 90) rfl rfl ?_
    refine h2_ge rfl rfl (fun h5 => ?_) (fun h5 => absurd (nI_le (a := 90) (b := 90) (Nat.le_refl _) (by omega)) h5)
    exact h_r rfl ⟨rfl, R0.s55 e5 (by omega) ho0 hm F, F⟩
set_option maxRecDepth 100000 in
set_option maxHeartbeats 4000000 in
theorem m_image (R : MW w s n st ks kp tp tn bo so nu) : ab_Q X kX6_image [.ref 54] w (MP w 1 s n st s true tp tn bo so nu) := by
  have M := R.ms
  have R0 := R
  obtain ⟨oth, nz, mv, fr, to, vl, wr, a54, a55, a56, a57, a58, a59, a60, a61, a62, a63, a64, l, h0, hn, ht⟩ := R
  show ab_H X kX6_image 0 [some (.ref 54), none] [] w _
  refine h_k (y := 0) rfl rfl ?_
  refine h_s rfl ?_
  refine h_loop0 90 (fun i ls w1 => (∀ j, j ≠ 56 → w1[j]? = w[j]?) ∧ ls = [some (.ref 54), some (.int (nI i))] ∧ ∃ xs : List Int32, w1[56]? = some (.inr xs) ∧ xs.length = 90 ∧ ∀ j, j < i → xs.getD j 0 = s.getD j 0) ⟨fun _ _ => rfl, rfl, ks, a56, by omega, fun j hj => absurd hj (by omega)⟩ (fun i ls w1 hi hJ ih => ?_) (fun ls w1 hJ => ?_)
  · obtain ⟨F, rfl, xs, e5, l5, hx⟩ := hJ
    have a54 := (F 54 (by decide)).trans a54
    have aS := (F 55 (by decide)).trans a55
    refine h_s rfl ?_
    refine h_k (y := 90) rfl rfl ?_
    refine h2_ge rfl rfl (fun h5 => absurd h5 (nI_ge (b := 90) hi (by omega))) (fun h5 => ?_)
    refine h_s rfl ?_
    refine h_gf rfl rfl rfl a54 rfl ?_
    iterate 2 refine h_s rfl ?_
    refine h_gf rfl rfl rfl a54 rfl ?_
    refine h_s rfl ?_
    refine h_ia i rfl aS (by omega) rfl (by omega) ?_
    refine h_is i rfl e5 (by omega) rfl (by omega) (fun w2 e2 f2 => ?_)
    refine h_ii rfl rfl rfl ?_
    refine h_s rfl ?_
    refine ih _ _ ⟨fun j hj => (f2 j hj).trans (F j hj), rfl, _, e2, (List.length_set ..).trans l5, fun j hj => ?_⟩
    rw [gD_set _ _ _ _ (by omega)]
    by_cases e : j = i
    · rw [if_pos e, e]
    · rw [if_neg e]; exact hx j (by omega)
  · obtain ⟨F, rfl, xs, e5, l5, hx⟩ := hJ
    have a54 := (F 54 (by decide)).trans a54
    have hE := l_ext (m := 90) (by omega) (by omega) hx
    subst hE
    refine h_s rfl ?_
    refine h_k (y := 90) rfl rfl ?_
    refine h2_ge rfl rfl (fun h5 => ?_) (fun h5 => absurd (nI_le (a := 90) (b := 90) (Nat.le_refl _) (by omega)) h5)
    refine h_s rfl ?_
    refine h_k (y := 1) rfl rfl ?_
    refine h_pf rfl rfl a54 rfl (fun w3 e3 f3 => ?_)
    refine h_k (y := 1) rfl rfl ?_
    exact h_ri rfl rfl ⟨rfl, (R0.k56 e5 (by omega) F).o54 true tn fr to vl wr ht e3 f3, fun i hi => (f3 i (by omega)).trans (F i (by omega))⟩
set_option maxRecDepth 100000 in
set_option maxHeartbeats 4000000 in
theorem m_undo (R : MW w s n st ks kp tp tn bo so nu) (m : Nat) (hk : kp = true) (ho0 : ks.getD 0 0 = nI m) (hm : m ≤ 8) : ab_Q X kX6_undo [.ref 54] w (MP w (nI m) ks m st ks kp tp tn bo so nu) := by
  have M := R.ms
  have R0 := R
  obtain ⟨oth, nz, mv, fr, to, vl, wr, a54, a55, a56, a57, a58, a59, a60, a61, a62, a63, a64, l, h0, hn, ht⟩ := R
  subst hk
  show ab_H X kX6_undo 0 [some (.ref 54), none] [] w _
  refine h_s rfl ?_
  refine h_gf rfl rfl rfl a54 rfl ?_
  refine h_s rfl ?_
  refine h_k (y := 0) rfl rfl ?_
  refine h_s rfl ?_
  refine h_loop0 90 (fun i ls w1 => (∀ j, j ≠ 55 → w1[j]? = w[j]?) ∧ ls = [some (.ref 54), some (.int (nI i))] ∧ ∃ xs : List Int32, w1[55]? = some (.inr xs) ∧ xs.length = 90 ∧ ∀ j, j < i → xs.getD j 0 = ks.getD j 0) ⟨fun _ _ => rfl, rfl, s, a55, by omega, fun j hj => absurd hj (by omega)⟩ (fun i ls w1 hi hJ ih => ?_) (fun ls w1 hJ => ?_)
  · obtain ⟨F, rfl, xs, e5, l5, hx⟩ := hJ
    have a54 := (F 54 (by decide)).trans a54
    have aS := (F 56 (by decide)).trans a56
    refine h_s rfl ?_
    refine h_k (y := 90) rfl rfl ?_
    refine h2_ge rfl rfl (fun h19 => absurd h19 (nI_ge (b := 90) hi (by omega))) (fun h19 => ?_)
    refine h_s rfl ?_
    refine h_gf rfl rfl rfl a54 rfl ?_
    iterate 2 refine h_s rfl ?_
    refine h_gf rfl rfl rfl a54 rfl ?_
    refine h_s rfl ?_
    refine h_ia i rfl aS (by omega) rfl (by omega) ?_
    refine h_is i rfl e5 (by omega) rfl (by omega) (fun w2 e2 f2 => ?_)
    refine h_ii rfl rfl rfl ?_
    refine h_s rfl ?_
    refine ih _ _ ⟨fun j hj => (f2 j hj).trans (F j hj), rfl, _, e2, (List.length_set ..).trans l5, fun j hj => ?_⟩
    rw [gD_set _ _ _ _ (by omega)]
    by_cases e : j = i
    · rw [if_pos e, e]
    · rw [if_neg e]; exact hx j (by omega)
  · obtain ⟨F, rfl, xs, e5, l5, hx⟩ := hJ
    have a54 := (F 54 (by decide)).trans a54
    have hE := l_ext (m := 90) (by omega) (by omega) hx
    subst hE
    refine h_s rfl ?_
    refine h_k (y := 90) rfl rfl ?_
    refine h2_ge rfl rfl (fun h19 => ?_) (fun h19 => absurd (nI_le (a := 90) (b := 90) (Nat.le_refl _) (by omega)) h19)
    refine h_s rfl ?_
    refine h_gf rfl rfl rfl a54 rfl ?_
    refine h_k (y := 0) rfl rfl ?_
    refine h_ia 0 rfl e5 (by omega) rfl (by omega) ?_
    refine h_t ho0 ?_
    exact h_ri rfl rfl ⟨rfl, R0.s55 e5 (by omega) ho0 hm F, fun i hi => F i (by omega)⟩
end MC
end
section
/-! THE REFERENCE: counts, status, best, beds -/
def statI (st : List Int32) (a : Int32) (k : Nat) : Int32 := if a < 0 ∨ nI k = a then st.getD k 0 else 0
theorem wayF_le (s : List Int32) (n f : Nat) (c : Int32) : wayF s n f c ≤ 16 := wayL_le _
theorem bestI_ok {g : Nat → Nat} : ∀ {m : Nat}, m < 100 → (∀ c, g c ≤ 16) → ((bestI g m).1 = -1 ∨ ∃ c, c < m ∧ (bestI g m).1 = nI c) ∧ (bestI g m).2 ≤ 16
  | 0, _, _ => ⟨Or.inl rfl, Nat.zero_le _⟩
  | m + 1, hm, h => by
    rw [bestI]
    split
    · exact ⟨Or.inr ⟨m, by omega, rfl⟩, h m⟩
    · rcases bestI_ok (m := m) (by omega) h with ⟨h1 | ⟨c, h1, h2⟩, h3⟩
      · exact ⟨Or.inl h1, h3⟩
      · exact ⟨Or.inr ⟨c, by omega, h2⟩, h3⟩
section MD
variable {X : List Int32} {w : ab_W} {s : List Int32} {n : Nat} {st ks : List Int32} {kp : Bool} {tp : List Int32} {tn : Nat} {bo so nu : List Int32}
set_option maxRecDepth 100000 in
set_option maxHeartbeats 4000000 in
theorem m_doors (M : MS w s n) (I : SI s n) : ab_M X kX6_doors [.ref 54] w (some (.int (nI (cntR (dB s) 14)))) w := by
  obtain ⟨vs, hm, hv, hs, hl, h0, hn⟩ := id M
  have hd : ∀ i, i < 14 → s.getD (66 + i) 0 = z01 (dB s i) := by
    intro i hi
    obtain ⟨b, hb⟩ := I.2.1 i hi
    unfold dB
    rw [hb]
    cases b <;> rfl
  show ab_G X kX6_doors 0 [some (.ref 54), none, none] [] w _ _
  refine ab_k (y := 0) rfl rfl ?_
  refine ab_s rfl ?_
  refine ab_k (y := 0) rfl rfl ?_
  refine ab_s rfl ?_
  refine g_loop0 14 (fun i ls => ls = [some (.ref 54), some (.int (nI (cntR (dB s) i))), some (.int (nI i))]) rfl (fun i ls hi hJ ih => ?_) (fun ls hJ => ?_)
  · subst hJ
    refine ab_s rfl ?_
    refine ab_k (y := 14) rfl rfl ?_
    refine j2_ge rfl rfl (fun h7 => absurd h7 (nI_ge (b := 14) hi (by omega))) (fun h7 => ?_)
    iterate 2 refine ab_s rfl ?_
    refine ab_gf rfl rfl rfl hm hv ?_
    refine ab_k (y := 66) rfl rfl ?_
    iterate 2 refine ab_s rfl ?_
    refine ab_ia (66 + i) rfl hs (by omega) (nI_add 66 i) (by omega) ?_
    iterate 2 refine ab_s rfl ?_
    refine ab_ii rfl rfl rfl ?_
    refine ab_s rfl ?_
    exact ih _ (by rw [cnt_z (p := dB s) (hd i hi)]; rfl)
  · subst hJ
    refine ab_s rfl ?_
    refine ab_k (y := 14) rfl rfl ?_
    refine j2_ge rfl rfl (fun h7 => ?_) (fun h7 => absurd (nI_le (a := 14) (b := 14) (Nat.le_refl _) (by omega)) h7)
    refine ab_s rfl ?_
    exact ab_ri rfl rfl
set_option maxRecDepth 100000 in
set_option maxHeartbeats 4000000 in
theorem m_stairs (M : MS w s n)  : ab_M X kX6_stairs [.ref 54] w (some (.int (nI (cntR (fun h => decide (0 ≤ fld s h 1)) n)))) w := by
  obtain ⟨vs, hm, hv, hs, hl, h0, hn⟩ := id M
  show ab_G X kX6_stairs 0 [some (.ref 54), none, none] [] w _ _
  refine ab_k (y := 0) rfl rfl ?_
  refine ab_s rfl ?_
  refine ab_k (y := 0) rfl rfl ?_
  refine ab_s rfl ?_
  refine g_loop0 n (fun i ls => ls = [some (.ref 54), some (.int (nI (cntR (fun h => decide (0 ≤ fld s h 1)) i))), some (.int (nI i))]) rfl (fun i ls hi hJ ih => ?_) (fun ls hJ => ?_)
  · subst hJ
    iterate 2 refine ab_s rfl ?_
    refine ab_gf rfl rfl rfl hm hv ?_
    refine ab_k (y := 0) rfl rfl ?_
    refine ab_ia 0 rfl hs (by omega) rfl (by omega) ?_
    refine ab_t h0 ?_
    refine j2_ge rfl rfl (fun h11 => absurd h11 (nI_ge  hi (by omega))) (fun h11 => ?_)
    iterate 3 refine ab_s rfl ?_
    refine ab_k (y := 1) rfl rfl ?_
    refine ab_cv rfl rfl rfl hm rfl rfl (m_its M i 1 (by omega) (by omega) rfl rfl) ?_
    refine j1_ge rfl rfl (fun h21 => ?_) (fun h21 => ?_)
    · refine ab_k (y := 1) rfl rfl ?_
      iterate 2 refine ab_s rfl ?_
      refine ab_ii rfl rfl rfl ?_
      refine ab_s rfl ?_
      exact ih _ (by first | (rw [← cnt_t (p := fun h => decide (0 ≤ fld s h 1)) (decide_eq_true h21)]; rfl) | (rw [← cnt_f (p := fun h => decide (0 ≤ fld s h 1)) (decide_eq_false h21)]; rfl))
    · refine ab_k (y := 0) rfl rfl ?_
      iterate 3 refine ab_s rfl ?_
      refine ab_ii rfl rfl rfl ?_
      refine ab_s rfl ?_
      exact ih _ (by first | (rw [← cnt_t (p := fun h => decide (0 ≤ fld s h 1)) (decide_eq_true h21)]; rfl) | (rw [← cnt_f (p := fun h => decide (0 ≤ fld s h 1)) (decide_eq_false h21)]; rfl))
  · subst hJ
    iterate 2 refine ab_s rfl ?_
    refine ab_gf rfl rfl rfl hm hv ?_
    refine ab_k (y := 0) rfl rfl ?_
    refine ab_ia 0 rfl hs (by omega) rfl (by omega) ?_
    refine ab_t h0 ?_
    refine j2_ge rfl rfl (fun h11 => ?_) (fun h11 => absurd (nI_le  (Nat.le_refl _) (by omega)) h11)
    refine ab_s rfl ?_
    exact ab_ri rfl rfl
set_option maxRecDepth 100000 in
set_option maxHeartbeats 4000000 in
theorem m_sleepers (M : MS w s n)  : ab_M X kX6_sleepers [.ref 54] w (some (.int (sumI (fun h => fld s h 6) n))) w := by
  obtain ⟨vs, hm, hv, hs, hl, h0, hn⟩ := id M
  show ab_G X kX6_sleepers 0 [some (.ref 54), none, none] [] w _ _
  refine ab_k (y := 0) rfl rfl ?_
  refine ab_s rfl ?_
  refine ab_k (y := 0) rfl rfl ?_
  refine ab_s rfl ?_
  refine g_loop0 n (fun i ls => ls = [some (.ref 54), some (.int (sumI (fun h => fld s h 6) i)), some (.int (nI i))]) rfl (fun i ls hi hJ ih => ?_) (fun ls hJ => ?_)
  · subst hJ
    iterate 2 refine ab_s rfl ?_
    refine ab_gf rfl rfl rfl hm hv ?_
    refine ab_k (y := 0) rfl rfl ?_
    refine ab_ia 0 rfl hs (by omega) rfl (by omega) ?_
    refine ab_t h0 ?_
    refine j2_ge rfl rfl (fun h11 => absurd h11 (nI_ge  hi (by omega))) (fun h11 => ?_)
    iterate 3 refine ab_s rfl ?_
    refine ab_k (y := 6) rfl rfl ?_
    refine ab_cv rfl rfl rfl hm rfl rfl (m_its M i 6 (by omega) (by omega) rfl rfl) ?_
    iterate 2 refine ab_s rfl ?_
    refine ab_ii rfl rfl rfl ?_
    refine ab_s rfl ?_
    exact ih _ rfl
  · subst hJ
    iterate 2 refine ab_s rfl ?_
    refine ab_gf rfl rfl rfl hm hv ?_
    refine ab_k (y := 0) rfl rfl ?_
    refine ab_ia 0 rfl hs (by omega) rfl (by omega) ?_
    refine ab_t h0 ?_
    refine j2_ge rfl rfl (fun h11 => ?_) (fun h11 => absurd (nI_le  (Nat.le_refl _) (by omega)) h11)
    refine ab_s rfl ?_
    exact ab_ri rfl rfl
set_option maxRecDepth 100000 in
set_option maxHeartbeats 4000000 in
theorem m_held (M : MS w s n)  : ab_M X kX6_held [.ref 54] w (some (.int (nI (cntR (fun k => decide (0 ≤ s.getD (80 + k) 0)) 10)))) w := by
  obtain ⟨vs, hm, hv, hs, hl, h0, hn⟩ := id M
  show ab_G X kX6_held 0 [some (.ref 54), none, none] [] w _ _
  refine ab_k (y := 0) rfl rfl ?_
  refine ab_s rfl ?_
  refine ab_k (y := 0) rfl rfl ?_
  refine ab_s rfl ?_
  refine g_loop0 10 (fun i ls => ls = [some (.ref 54), some (.int (nI (cntR (fun k => decide (0 ≤ s.getD (80 + k) 0)) i))), some (.int (nI i))]) rfl (fun i ls hi hJ ih => ?_) (fun ls hJ => ?_)
  · subst hJ
    refine ab_s rfl ?_
    refine ab_k (y := 10) rfl rfl ?_
    refine j2_ge rfl rfl (fun h7 => absurd h7 (nI_ge (b := 10) hi (by omega))) (fun h7 => ?_)
    iterate 2 refine ab_s rfl ?_
    refine ab_gf rfl rfl rfl hm hv ?_
    refine ab_k (y := 80) rfl rfl ?_
    iterate 2 refine ab_s rfl ?_
    refine ab_ia (80 + i) rfl hs (by omega) (nI_add 80 i) (by omega) ?_
    refine j1_ge rfl rfl (fun h20 => ?_) (fun h20 => ?_)
    · refine ab_k (y := 1) rfl rfl ?_
      iterate 2 refine ab_s rfl ?_
      refine ab_ii rfl rfl rfl ?_
      refine ab_s rfl ?_
      exact ih _ (by first | (rw [← cnt_t (p := (fun k => decide (0 ≤ s.getD (80 + k) 0))) (decide_eq_true h20)]; rfl) | (rw [← cnt_f (p := (fun k => decide (0 ≤ s.getD (80 + k) 0))) (decide_eq_false h20)]; rfl))
    · refine ab_k (y := 0) rfl rfl ?_
      iterate 3 refine ab_s rfl ?_
      refine ab_ii rfl rfl rfl ?_
      refine ab_s rfl ?_
      exact ih _ (by first | (rw [← cnt_t (p := (fun k => decide (0 ≤ s.getD (80 + k) 0))) (decide_eq_true h20)]; rfl) | (rw [← cnt_f (p := (fun k => decide (0 ≤ s.getD (80 + k) 0))) (decide_eq_false h20)]; rfl))
  · subst hJ
    refine ab_s rfl ?_
    refine ab_k (y := 10) rfl rfl ?_
    refine j2_ge rfl rfl (fun h7 => ?_) (fun h7 => absurd (nI_le (a := 10) (b := 10) (Nat.le_refl _) (by omega)) h7)
    refine ab_s rfl ?_
    exact ab_ri rfl rfl
def cntI (s : List Int32) (n tn : Nat) (a : Int32) : Int32 := if a = 0 then nI n else if a = 1 then nI (cntR (dB s) 14) else if a = 2 then nI (cntR (fun h => decide (0 ≤ fld s h 1)) n) else if a = 3 then sumI (fun h => fld s h 6) n else if a = 4 then nI tn else if a = 5 then s.getD 1 0 else nI (cntR (fun k => decide (0 ≤ s.getD (80 + k) 0)) 10)
set_option maxRecDepth 100000 in
set_option maxHeartbeats 4000000 in
theorem m_count_k (R : MW w s n st ks kp tp tn bo so nu) (I : SI s n) (j : Nat) (hj : j < 7) : ab_Q X kX6_count [.ref 54, .int (nI j)] w (MP w (cntI s n tn (nI j)) s n st ks kp tp tn bo so nu) := by
  have M := R.ms
  have R0 := R
  obtain ⟨oth, nz, mv, fr, to, vl, wr, a54, a55, a56, a57, a58, a59, a60, a61, a62, a63, a64, l, h0, hn, ht⟩ := R
  show ab_H X kX6_count 0 [some (.ref 54), some (.int (nI j))] [] w _
  refine h_s rfl ?_
  match j, hj with
  | 0, _ =>
    refine h_sw rfl (by decide) rfl rfl ?_
    refine h_s rfl ?_
    refine h_gf rfl rfl rfl a54 rfl ?_
    refine h_k (y := 0) rfl rfl ?_
    refine h_ia 0 rfl a55 (by omega) rfl (by omega) ?_
    refine h_t h0 ?_
    exact h_ri rfl rfl (MP.same R0 _)
  | 1, _ =>
    refine h_sw rfl (by decide) rfl rfl ?_
    refine h_s rfl ?_
    refine h_cv rfl rfl rfl a54 rfl rfl (m_doors M I) ?_
    exact h_ri rfl rfl (MP.same R0 _)
  | 2, _ =>
    refine h_sw rfl (by decide) rfl rfl ?_
    refine h_s rfl ?_
    refine h_cv rfl rfl rfl a54 rfl rfl (m_stairs M) ?_
    exact h_ri rfl rfl (MP.same R0 _)
  | 3, _ =>
    refine h_sw rfl (by decide) rfl rfl ?_
    refine h_s rfl ?_
    refine h_cv rfl rfl rfl a54 rfl rfl (m_sleepers M) ?_
    exact h_ri rfl rfl (MP.same R0 _)
  | 4, _ =>
    refine h_sw rfl (by decide) rfl rfl ?_
    refine h_s rfl ?_
    refine h_gf rfl rfl rfl a54 rfl ?_
    exact h_ri rfl rfl (MP.same R0 _)
  | 5, _ =>
    refine h_sw rfl (by decide) rfl rfl ?_
    refine h_s rfl ?_
    refine h_gf rfl rfl rfl a54 rfl ?_
    refine h_k (y := 1) rfl rfl ?_
    refine h_ia 1 rfl a55 (by omega) rfl (by omega) ?_
    exact h_ri rfl rfl (MP.same R0 _)
  | 6, _ =>
    refine h_sw rfl (by decide) rfl rfl ?_
    refine h_s rfl ?_
    refine h_cv rfl rfl rfl a54 rfl rfl (m_held M) ?_
    exact h_ri rfl rfl (MP.same R0 _)
set_option maxRecDepth 100000 in
set_option maxHeartbeats 4000000 in
theorem m_count_b (R : MW w s n st ks kp tp tn bo so nu) (a : Int32) (hb : inN a 7 = false) : ab_Q X kX6_count [.ref 54, .int a] w (MP w (-1000001) s n (bump st 0) ks kp tp tn bo so nu) := by
  have M := R.ms
  have R0 := R
  obtain ⟨oth, nz, mv, fr, to, vl, wr, a54, a55, a56, a57, a58, a59, a60, a61, a62, a63, a64, l, h0, hn, ht⟩ := R
  show ab_H X kX6_count 0 [some (.ref 54), some (.int a)] [] w _
  refine h_s rfl ?_
  refine h_swd rfl (sw_out rfl hb) rfl ?_
  iterate 2 refine h_s rfl ?_
  refine hq_v rfl rfl rfl a54 rfl rfl (m_finds R0 0 (by omega) _ (by decide)) (fun v1 w1 q1 => ?_)
  obtain ⟨rfl, q2, q3⟩ := q1
  exact h_ri rfl rfl ⟨rfl, q2, q3⟩
theorem m_inS (x : Int32) : ab_M X kX6_in [.long x.toInt64, .long (-1), .long 6] w (some (.int (z01 (decide (-1 ≤ x.toInt ∧ x.toInt ≤ 6))))) w := by
  by_cases h : -1 ≤ x.toInt ∧ x.toInt ≤ 6
  · rw [decide_eq_true h]
    exact m_in1 (lo := -1) (hi := 6) rfl rfl h
  · rw [decide_eq_false h]
    exact m_in0 (lo := -1) (hi := 6) rfl rfl h
set_option maxRecDepth 100000 in
set_option maxHeartbeats 4000000 in
theorem m_status_b (R : MW w s n st ks kp tp tn bo so nu) (a : Int32) (hb : (decide (-1 ≤ a.toInt ∧ a.toInt ≤ 6)) = false)  : ab_Q X kX6_status [.ref 54, .int a] w (MP w (-1000001) s n (bump st 0) ks kp tp tn bo so nu) := by
  have M := R.ms
  have R0 := R
  obtain ⟨oth, nz, mv, fr, to, vl, wr, a54, a55, a56, a57, a58, a59, a60, a61, a62, a63, a64, l, h0, hn, ht⟩ := R
  show ab_H X kX6_status 0 [some (.ref 54), some (.int a), none, none] [] w _
  iterate 4 refine h_s rfl ?_
  refine h_c rfl (m_inS _) ?_
  refine hz_ne rfl rfl (fun h11 => ?_) (fun h11 => ?_)
  · exact absurd hb (by simp [h11])
  · iterate 2 refine h_s rfl ?_
    refine hq_v rfl rfl rfl a54 rfl rfl (m_finds R0 0 (by omega) _ (by decide)) (fun v1 w1 q1 => ?_)
    obtain ⟨rfl, q2, q3⟩ := q1
    exact h_ri rfl rfl ⟨rfl, q2, q3⟩
set_option maxRecDepth 100000 in
set_option maxHeartbeats 4000000 in
theorem m_status_k (R : MW w s n st ks kp tp tn bo so nu) (a : Int32) (ha : -1 ≤ a.toInt ∧ a.toInt ≤ 6) : ab_Q X kX6_status [.ref 54, .int a] w (MP w (sumI (statI st a) 7) s n st ks kp tp tn bo so nu) := by
  have M := R.ms
  have R0 := R
  obtain ⟨oth, nz, mv, fr, to, vl, wr, a54, a55, a56, a57, a58, a59, a60, a61, a62, a63, a64, l, h0, hn, ht⟩ := R
  show ab_H X kX6_status 0 [some (.ref 54), some (.int a), none, none] [] w _
  iterate 4 refine h_s rfl ?_
  refine h_c rfl (m_in1 (lo := -1) (hi := 6) rfl rfl ha) ?_
  refine h_s rfl ?_
  refine h_k (y := 0) rfl rfl ?_
  refine h_s rfl ?_
  refine h_k (y := 0) rfl rfl ?_
  refine h_s rfl ?_
  refine h_loop0 7 (fun i ls w1 => w1 = w ∧ ls = [some (.ref 54), some (.int a), some (.int (sumI (statI st a) i)), some (.int (nI i))]) ⟨rfl, rfl⟩ (fun i ls w1 hi hJ ih => ?_) (fun ls w1 hJ => ?_)
  · obtain ⟨rfl, rfl⟩ := hJ
    refine h_s rfl ?_
    refine h_k (y := 7) rfl rfl ?_
    refine h2_ge rfl rfl (fun h28 => absurd h28 (nI_ge (b := 7) hi (by omega))) (fun h28 => ?_)
    iterate 2 refine h_s rfl ?_
    refine h1_lt rfl rfl (fun h33 => ?_) (fun h33 => ?_)
    · refine h_s rfl ?_
      refine h_gf rfl rfl rfl a54 rfl ?_
      refine h_s rfl ?_
      refine h_ia i rfl a58 (by omega) rfl (by omega) ?_
      iterate 3 refine h_s rfl ?_
      refine h_ii rfl rfl rfl ?_
      refine h_s rfl ?_
      exact ih _ _ ⟨rfl, by first | (rw [sumI, statI, if_pos (Or.inl h33)]; rfl) | (rw [sumI, statI, if_pos (Or.inr h38)]; rfl) | (rw [sumI, statI, if_neg (fun q => q.elim h33 h38)]; rfl)⟩
    · iterate 2 refine h_s rfl ?_
      refine h2_ne rfl rfl (fun h38 => ?_) (fun h38 => ?_)
      · refine h_k (y := 0) rfl rfl ?_
        iterate 2 refine h_s rfl ?_
        refine h_ii rfl rfl rfl ?_
        refine h_s rfl ?_
        exact ih _ _ ⟨rfl, by first | (rw [sumI, statI, if_pos (Or.inl h33)]; rfl) | (rw [sumI, statI, if_pos (Or.inr h38)]; rfl) | (rw [sumI, statI, if_neg (fun q => q.elim h33 h38)]; rfl)⟩
      · refine h_s rfl ?_
        refine h_gf rfl rfl rfl a54 rfl ?_
        refine h_s rfl ?_
        refine h_ia i rfl a58 (by omega) rfl (by omega) ?_
        iterate 3 refine h_s rfl ?_
        refine h_ii rfl rfl rfl ?_
        refine h_s rfl ?_
        exact ih _ _ ⟨rfl, by first | (rw [sumI, statI, if_pos (Or.inl h33)]; rfl) | (rw [sumI, statI, if_pos (Or.inr h38)]; rfl) | (rw [sumI, statI, if_neg (fun q => q.elim h33 h38)]; rfl)⟩
  · obtain ⟨rfl, rfl⟩ := hJ
    refine h_s rfl ?_
    refine h_k (y := 7) rfl rfl ?_
    refine h2_ge rfl rfl (fun h28 => ?_) (fun h28 => absurd (nI_le (a := 7) (b := 7) (Nat.le_refl _) (by omega)) h28)
    refine h_s rfl ?_
    exact h_ri rfl rfl (MP.same R0 _)
set_option maxRecDepth 100000 in
set_option maxHeartbeats 4000000 in
theorem m_tear_k (R : MW w s n st ks kp tp tn bo so nu)  : ab_Q X kX6_tear [.ref 54] w (MP w (z01 kp) s n st ks false tp tn bo so nu) := by
  have M := R.ms
  have R0 := R
  obtain ⟨oth, nz, mv, fr, to, vl, wr, a54, a55, a56, a57, a58, a59, a60, a61, a62, a63, a64, l, h0, hn, ht⟩ := R
  show ab_H X kX6_tear 0 [some (.ref 54), none] [] w _
  refine h_s rfl ?_
  refine h_gf rfl rfl rfl a54 rfl ?_
  refine hz_eq rfl rfl (fun h4 => ?_) (fun h4 => ?_)
  · refine h_k (y := 0) rfl rfl ?_
    iterate 2 refine h_s rfl ?_
    refine h_k (y := 0) rfl rfl ?_
    refine h_pf rfl rfl a54 rfl (fun w3 e3 f3 => ?_)
    refine h_s rfl ?_
    exact h_ri rfl (by rw [h4]; rfl) ⟨rfl, R0.o54 false tn fr to vl wr ht e3 f3, fun i hi => f3 i (by omega)⟩
  · refine h_k (y := 1) rfl rfl ?_
    iterate 3 refine h_s rfl ?_
    refine h_k (y := 0) rfl rfl ?_
    refine h_pf rfl rfl a54 rfl (fun w3 e3 f3 => ?_)
    refine h_s rfl ?_
    exact h_ri rfl (by rw [h4]; rfl) ⟨rfl, R0.o54 false tn fr to vl wr ht e3 f3, fun i hi => f3 i (by omega)⟩
set_option maxRecDepth 100000 in
set_option maxHeartbeats 4000000 in
theorem m_undo_n (R : MW w s n st ks kp tp tn bo so nu) (hk : kp = false) : ab_Q X kX6_undo [.ref 54] w (MP w (-1000004) s n (bump st 3) ks kp tp tn bo so nu) := by
  have M := R.ms
  have R0 := R
  obtain ⟨oth, nz, mv, fr, to, vl, wr, a54, a55, a56, a57, a58, a59, a60, a61, a62, a63, a64, l, h0, hn, ht⟩ := R
  show ab_H X kX6_undo 0 [some (.ref 54), none] [] w _
  subst hk
  refine h_s rfl ?_
  refine h_gf rfl rfl rfl a54 rfl ?_
  iterate 3 refine h_s rfl ?_
  refine hq_v rfl rfl rfl a54 rfl rfl (m_finds R0 3 (by omega) _ (by decide)) (fun v1 w1 q1 => ?_)
  obtain ⟨rfl, q2, q3⟩ := q1
  exact h_ri rfl rfl ⟨rfl, q2, q3⟩
set_option maxRecDepth 100000 in
set_option maxHeartbeats 4000000 in
theorem m_beds_k (R : MW w s n st ks kp tp tn bo so nu) (a : Int32) (ha : isN a n) : ab_Q X kX6_beds [.ref 54, .int a] w (MP w (bs (fun f => decide (fld s f 7 = a)) n) s n st ks kp tp tn bo so nu) := by
  have M := R.ms
  have R0 := R
  obtain ⟨oth, nz, mv, fr, to, vl, wr, a54, a55, a56, a57, a58, a59, a60, a61, a62, a63, a64, l, h0, hn, ht⟩ := R
  show ab_H X kX6_beds 0 [some (.ref 54), some (.int a), none, none] [] w _
  iterate 2 refine h_s rfl ?_
  refine h_cv rfl rfl rfl a54 rfl rfl (m_isHouse1 M ha) ?_
  refine h_s rfl ?_
  refine h_k (y := 0) rfl rfl ?_
  refine h_s rfl ?_
  refine h_k (y := 0) rfl rfl ?_
  refine h_s rfl ?_
  refine h_loop0 n (fun i ls w1 => w1 = w ∧ ls = [some (.ref 54), some (.int a), some (.int (bs (fun f => decide (fld s f 7 = a)) i)), some (.int (nI i))]) ⟨rfl, rfl⟩ (fun i ls w1 hi hJ ih => ?_) (fun ls w1 hJ => ?_)
  · obtain ⟨rfl, rfl⟩ := hJ
    iterate 2 refine h_s rfl ?_
    refine h_gf rfl rfl rfl a54 rfl ?_
    refine h_k (y := 0) rfl rfl ?_
    refine h_ia 0 rfl a55 (by omega) rfl (by omega) ?_
    refine h_t h0 ?_
    refine h2_ge rfl rfl (fun h26 => absurd h26 (nI_ge hi (by omega))) (fun h26 => ?_)
    iterate 3 refine h_s rfl ?_
    refine h_k (y := 7) rfl rfl ?_
    refine h_cv rfl rfl rfl a54 rfl rfl (m_its M i 7 (by omega) (by omega) rfl rfl) ?_
    refine h_s rfl ?_
    refine h2_ne rfl rfl (fun h38 => ?_) (fun h38 => ?_)
    · refine h_k (y := 0) rfl rfl ?_
      iterate 2 refine h_s rfl ?_
      refine h_ii rfl rfl rfl ?_
      refine h_s rfl ?_
      exact ih _ _ ⟨rfl, by first | (rw [← bs_succ_t (p := (fun f => decide (fld s f 7 = a))) (decide_eq_true h38)]; rfl) | (rw [← bs_succ_f0 (p := (fun f => decide (fld s f 7 = a))) (decide_eq_false h38)]; rfl)⟩
    · refine h_k (y := 1) rfl rfl ?_
      iterate 5 refine h_s rfl ?_
      refine h_ii rfl rfl rfl ?_
      refine h_s rfl ?_
      exact ih _ _ ⟨rfl, by first | (rw [← bs_succ_t (p := (fun f => decide (fld s f 7 = a))) (decide_eq_true h38)]; rfl) | (rw [← bs_succ_f0 (p := (fun f => decide (fld s f 7 = a))) (decide_eq_false h38)]; rfl)⟩
  · obtain ⟨rfl, rfl⟩ := hJ
    iterate 2 refine h_s rfl ?_
    refine h_gf rfl rfl rfl a54 rfl ?_
    refine h_k (y := 0) rfl rfl ?_
    refine h_ia 0 rfl a55 (by omega) rfl (by omega) ?_
    refine h_t h0 ?_
    refine h2_ge rfl rfl (fun h26 => ?_) (fun h26 => absurd (nI_le (Nat.le_refl _) (by omega)) h26)
    refine h_s rfl ?_
    exact h_ri rfl rfl (MP.same R0 _)
end MD
end
section
/-! THE REFERENCE: best, worth, open: what is tried and put back -/
section ME
variable {X : List Int32} {w : ab_W} {s : List Int32} {n : Nat} {st ks : List Int32} {kp : Bool} {tp : List Int32} {tn : Nat} {bo so nu : List Int32}
set_option maxRecDepth 100000 in
set_option maxHeartbeats 4000000 in
theorem m_best_k (R : MW w s n st ks kp tp tn bo so nu) (I : SI s n) (f : Nat) (hf : f < n) (B : Int32 × Nat) (hB : bestI (fun c => wayF s n f (nI c)) 24 = B) : ab_Q X kX6_best [.ref 54, .int (nI f)] w (fun v w1 => if B.1 < 0 then MP w (-1000004) s n (bump st 3) ks kp tp tn bo so nu v w1 else MP w B.1 s n st ks kp tp tn bo so nu v w1) := by
  have M := R.ms
  have R0 := R
  obtain ⟨oth, nz, mv, fr, to, vl, wr, a54, a55, a56, a57, a58, a59, a60, a61, a62, a63, a64, l, h0, hn, ht⟩ := R
  show ab_H X kX6_best 0 [some (.ref 54), some (.int (nI f)), none, none, none, none] [] w _
  iterate 2 refine h_s rfl ?_
  refine h_cv rfl rfl rfl a54 rfl rfl (m_isHouse1 M ⟨f, by omega, rfl⟩) ?_
  refine h_s rfl ?_
  refine h_k (y := (-1)) rfl rfl ?_
  refine h_s rfl ?_
  refine h_k (y := 0) rfl rfl ?_
  refine h_s rfl ?_
  refine h_k (y := 0) rfl rfl ?_
  refine h_s rfl ?_
  refine h_loop0 24 (fun i ls w1 => w1 = w ∧ ∃ b lw x, bestI (fun c => wayF s n f (nI c)) i = (b, lw) ∧ lw ≤ 16 ∧ ls = [some (.ref 54), some (.int (nI f)), some (.int b), some (.int (nI lw)), some (.int (nI i)), x]) ⟨rfl, -1, 0, none, rfl, by omega, rfl⟩ (fun i ls w1 hi hJ ih => ?_) (fun ls w1 hJ => ?_)
  · obtain ⟨rfl, b, lw, x, hbl, hlw, rfl⟩ := hJ
    obtain ⟨W, hW⟩ : ∃ W, wayF s n f (nI i) = W := ⟨_, rfl⟩
    have hW16 : W ≤ 16 := by rw [← hW]; exact wayF_le ..
    refine h_s rfl ?_
    refine h_k (y := 24) rfl rfl ?_
    refine h2_ge rfl rfl (fun h26 => absurd h26 (nI_ge (b := 24) hi (by omega))) (fun h26 => ?_)
    iterate 3 refine h_s rfl ?_
    refine h_cv rfl rfl rfl a54 rfl rfl (m_wayHome M I f hf (nI i)) ?_
    refine h_t (congrArg nI hW) ?_
    iterate 2 refine h_s rfl ?_
    refine h1_le rfl rfl (fun h40 => ?_) (fun h40 => ?_)
    · refine h_ii rfl rfl rfl ?_
      refine h_s rfl ?_
      have e : bestI (fun c => wayF s n f (nI c)) (i + 1) = if 0 < W ∧ (b < 0 ∨ W < lw) then (nI i, W) else (b, lw) := by
        show (if 0 < wayF s n f (nI i) ∧ ((bestI (fun c => wayF s n f (nI c)) i).1 < 0 ∨ wayF s n f (nI i) < (bestI (fun c => wayF s n f (nI c)) i).2) then (nI i, wayF s n f (nI i)) else bestI (fun c => wayF s n f (nI c)) i) = _
        rw [hW, hbl]
      try rw [show (0 : Int32) = nI 0 from rfl, nI_leI (by omega) (by omega)] at h40
      try rw [nI_leI (by omega) (by omega)] at h50
      first | rw [if_pos (show 0 < W ∧ (b < 0 ∨ W < lw) from ⟨by omega, Or.inl h44⟩)] at e | rw [if_pos (show 0 < W ∧ (b < 0 ∨ W < lw) from ⟨by omega, Or.inr (by omega)⟩)] at e | rw [if_neg (show ¬ (0 < W ∧ (b < 0 ∨ W < lw)) from fun q => absurd q.1 (by omega))] at e | rw [if_neg (show ¬ (0 < W ∧ (b < 0 ∨ W < lw)) from fun q => q.2.elim h44 (by omega))] at e
      exact ih _ _ ⟨rfl, _, _, _, e, by omega, rfl⟩
    · refine h_s rfl ?_
      refine h1_lt rfl rfl (fun h44 => ?_) (fun h44 => ?_)
      · iterate 4 refine h_s rfl ?_
        refine h_ii rfl rfl rfl ?_
        refine h_s rfl ?_
        have e : bestI (fun c => wayF s n f (nI c)) (i + 1) = if 0 < W ∧ (b < 0 ∨ W < lw) then (nI i, W) else (b, lw) := by
          show (if 0 < wayF s n f (nI i) ∧ ((bestI (fun c => wayF s n f (nI c)) i).1 < 0 ∨ wayF s n f (nI i) < (bestI (fun c => wayF s n f (nI c)) i).2) then (nI i, wayF s n f (nI i)) else bestI (fun c => wayF s n f (nI c)) i) = _
          rw [hW, hbl]
        try rw [show (0 : Int32) = nI 0 from rfl, nI_leI (by omega) (by omega)] at h40
        try rw [nI_leI (by omega) (by omega)] at h50
        first | rw [if_pos (show 0 < W ∧ (b < 0 ∨ W < lw) from ⟨by omega, Or.inl h44⟩)] at e | rw [if_pos (show 0 < W ∧ (b < 0 ∨ W < lw) from ⟨by omega, Or.inr (by omega)⟩)] at e | rw [if_neg (show ¬ (0 < W ∧ (b < 0 ∨ W < lw)) from fun q => absurd q.1 (by omega))] at e | rw [if_neg (show ¬ (0 < W ∧ (b < 0 ∨ W < lw)) from fun q => q.2.elim h44 (by omega))] at e
        exact ih _ _ ⟨rfl, _, _, _, e, by omega, rfl⟩
      · iterate 2 refine h_s rfl ?_
        refine h2_ge rfl rfl (fun h50 => ?_) (fun h50 => ?_)
        · refine h_ii rfl rfl rfl ?_
          refine h_s rfl ?_
          have e : bestI (fun c => wayF s n f (nI c)) (i + 1) = if 0 < W ∧ (b < 0 ∨ W < lw) then (nI i, W) else (b, lw) := by
            show (if 0 < wayF s n f (nI i) ∧ ((bestI (fun c => wayF s n f (nI c)) i).1 < 0 ∨ wayF s n f (nI i) < (bestI (fun c => wayF s n f (nI c)) i).2) then (nI i, wayF s n f (nI i)) else bestI (fun c => wayF s n f (nI c)) i) = _
            rw [hW, hbl]
          try rw [show (0 : Int32) = nI 0 from rfl, nI_leI (by omega) (by omega)] at h40
          try rw [nI_leI (by omega) (by omega)] at h50
          first | rw [if_pos (show 0 < W ∧ (b < 0 ∨ W < lw) from ⟨by omega, Or.inl h44⟩)] at e | rw [if_pos (show 0 < W ∧ (b < 0 ∨ W < lw) from ⟨by omega, Or.inr (by omega)⟩)] at e | rw [if_neg (show ¬ (0 < W ∧ (b < 0 ∨ W < lw)) from fun q => absurd q.1 (by omega))] at e | rw [if_neg (show ¬ (0 < W ∧ (b < 0 ∨ W < lw)) from fun q => q.2.elim h44 (by omega))] at e
          exact ih _ _ ⟨rfl, _, _, _, e, by omega, rfl⟩
        · iterate 4 refine h_s rfl ?_
          refine h_ii rfl rfl rfl ?_
          refine h_s rfl ?_
          have e : bestI (fun c => wayF s n f (nI c)) (i + 1) = if 0 < W ∧ (b < 0 ∨ W < lw) then (nI i, W) else (b, lw) := by
            show (if 0 < wayF s n f (nI i) ∧ ((bestI (fun c => wayF s n f (nI c)) i).1 < 0 ∨ wayF s n f (nI i) < (bestI (fun c => wayF s n f (nI c)) i).2) then (nI i, wayF s n f (nI i)) else bestI (fun c => wayF s n f (nI c)) i) = _
            rw [hW, hbl]
          try rw [show (0 : Int32) = nI 0 from rfl, nI_leI (by omega) (by omega)] at h40
          try rw [nI_leI (by omega) (by omega)] at h50
          first | rw [if_pos (show 0 < W ∧ (b < 0 ∨ W < lw) from ⟨by omega, Or.inl h44⟩)] at e | rw [if_pos (show 0 < W ∧ (b < 0 ∨ W < lw) from ⟨by omega, Or.inr (by omega)⟩)] at e | rw [if_neg (show ¬ (0 < W ∧ (b < 0 ∨ W < lw)) from fun q => absurd q.1 (by omega))] at e | rw [if_neg (show ¬ (0 < W ∧ (b < 0 ∨ W < lw)) from fun q => q.2.elim h44 (by omega))] at e
          exact ih _ _ ⟨rfl, _, _, _, e, by omega, rfl⟩
  · obtain ⟨rfl, b, lw, x, hbl, hlw, rfl⟩ := hJ
    rw [hB] at hbl
    subst hbl
    refine h_s rfl ?_
    refine h_k (y := 24) rfl rfl ?_
    refine h2_ge rfl rfl (fun h26 => ?_) (fun h26 => absurd (nI_le (a := 24) (b := 24) (Nat.le_refl _) (by omega)) h26)
    refine h_s rfl ?_
    refine h1_ge rfl rfl (fun h66 => ?_) (fun h66 => ?_)
    · refine h_s rfl ?_
      have hb : ¬ b < 0 := by
        rw [lt_iff]
        rw [le_iff] at h66
        have : (0 : Int32).toInt = 0 := rfl
        omega
      exact h_ri rfl rfl (by rw [if_neg hb]; exact MP.same R0 _)
    · iterate 2 refine h_s rfl ?_
      refine hq_v rfl rfl rfl a54 rfl rfl (m_finds R0 3 (by omega) _ (by decide)) (fun v1 w1 q1 => ?_)
      obtain ⟨rfl, q2, q3⟩ := q1
      refine h_s rfl ?_
      have hb : b < 0 := by
        rw [lt_iff]
        rw [le_iff] at h66
        have : (0 : Int32).toInt = 0 := rfl
        omega
      exact h_ri rfl rfl (by rw [if_pos hb]; exact ⟨rfl, q2, q3⟩)
theorem ones_set {p : Nat → Bool} {m : Nat} (hm : m ≤ 8) : ∃ k, k < 256 ∧ bs p m = nI k ∧ cntR (bt (nI k)) 8 = cntR p m := by
  have hx : ∀ i, i < 32 → bt (bs p m) i = (decide (i < m) && p i) := fun i hi => bt_bs p m i (by omega) hi
  have hk : (bs p m).toBitVec.toNat < 256 := by
    have h1 : ∀ i, 8 ≤ i → (bs p m).toBitVec.toNat.testBit i = false := by
      intro i hi
      by_cases h32 : i < 32
      · have := hx i h32
        rw [show bt (bs p m) i = (bs p m).toBitVec.toNat.testBit i from rfl] at this
        rw [this, decide_eq_false (by omega)]
        rfl
      · exact Nat.testBit_lt_two_pow (Nat.lt_of_lt_of_le (bs p m).toBitVec.isLt (Nat.pow_le_pow_right (by omega) (by omega)))
    exact Nat.lt_pow_two_of_testBit _ h1
  have he : bs p m = nI (bs p m).toBitVec.toNat := by
    apply Int32.toBitVec_inj.mp
    apply BitVec.eq_of_toNat_eq
    rw [pk_tn (by omega)]
  have hc : ∀ q, q ≤ 8 → cntR (bt (bs p m)) q = cntR p (min q m) := by
    intro q hq
    induction q with
    | zero => rw [Nat.zero_min]; rfl
    | succ q ih =>
      rw [cntR, ih (by omega), hx q (by omega)]
      by_cases h : q < m
      · rw [Nat.min_eq_left (by omega), Nat.min_eq_left (by omega), cntR, decide_eq_true h, Bool.true_and]
      · rw [Nat.min_eq_right (by omega), Nat.min_eq_right (by omega), decide_eq_false h, Bool.false_and, if_neg (by decide), Nat.add_zero]
  refine ⟨_, hk, he, ?_⟩
  rw [← he, hc 8 (Nat.le_refl _), Nat.min_eq_right hm]
theorem m_onesB {p : Nat → Bool} {m : Nat} (hm : m ≤ 8) : ab_M X kX6_ones [.int (bs p m)] w (some (.int (nI (cntR p m)))) w := by
  obtain ⟨k, h1, h2, h3⟩ := ones_set (p := p) hm
  rw [h2, ← h3]
  exact m_ones k h1
end ME
end
section
/-! THE REFERENCE: worth, open, quarrel: what is tried and put back; what keeps SI -/
def rowOK (g : Nat → Int32) (h n : Nat) : Prop := (∃ k, k < 7 ∧ g 0 = nI k) ∧ (g 1 = -1 ∨ ∃ t, t < 8 ∧ g 1 = nI t ∧ (t = h + 1 ∨ t + 1 = h)) ∧ inn (g 2) 8 ∧ isN (g 3) 24 ∧ isN (g 4) 24 ∧ inn (g 5) 8 ∧ isN (g 6) 10 ∧ isN (g 7) n
section RN
variable {X : List Int32} {k pc : Nat} {ls : List (Option Value)} {st st2 : List Value} {w w2 : ab_W} {v : Option Value} {Q : Option Value → ab_W → Prop}
theorem ab_n (e : st = st2) (t : ab_G X k pc ls st2 w v w2) : ab_G X k pc ls st w v w2 := e ▸ t
theorem h_n (e : st = st2) (t : ab_H X k pc ls st2 w Q) : ab_H X k pc ls st w Q := e ▸ t
end RN
section SIS
variable {s : List Int32} {n : Nat}
theorem SI_f (I : SI s n) (hl : s.length = 90) {h k : Nat} {x : Int32} (hh : h < 8) (hk : k < 8) (hx : h < n → rowOK (fun k' => if k' = k then x else fld s h k') h n) : SI (s.set (2 + 8 * h + k) x) n := by
  have hd : ∀ j, 66 ≤ j → (s.set (2 + 8 * h + k) x).getD j 0 = s.getD j 0 := fun j hj => gD_ne (by omega)
  refine ⟨fun h' hh' => ?_, fun d hd' => by rw [hd _ (by omega)]; exact I.2.1 d hd', fun q hq => by rw [hd _ (by omega)]; exact I.2.2 q hq⟩
  show rowOK (fld (s.set (2 + 8 * h + k) x) h') h' n
  by_cases e : h' = h
  · subst e
    have e2 : ∀ k', k' < 8 → fld (s.set (2 + 8 * h' + k) x) h' k' = if k' = k then x else fld s h' k' := by
      intro k' hk'
      rw [fld_set s x hl hh hk hk']
      by_cases e3 : k' = k
      · rw [if_pos ⟨rfl, e3⟩, if_pos e3]
      · rw [if_neg (fun q => e3 q.2), if_neg e3]
    have := hx hh'
    unfold rowOK at this ⊢
    rw [e2 0 (by omega), e2 1 (by omega), e2 2 (by omega), e2 3 (by omega), e2 4 (by omega), e2 5 (by omega), e2 6 (by omega), e2 7 (by omega)]
    exact this
  · have e2 : ∀ k', k' < 8 → fld (s.set (2 + 8 * h + k) x) h' k' = fld s h' k' := by
      intro k' hk'
      rw [fld_set s x hl hh hk hk', if_neg (fun q => e q.1)]
    have := I.1 h' hh'
    unfold rowOK
    rw [e2 0 (by omega), e2 1 (by omega), e2 2 (by omega), e2 3 (by omega), e2 4 (by omega), e2 5 (by omega), e2 6 (by omega), e2 7 (by omega)]
    exact this
theorem SI_kind (I : SI s n) (hl : s.length = 90) {h : Nat} {x : Int32} (hh : h < 8) (hx : isN x 7) : SI (s.set (2 + 8 * h + 0) x) n :=
  SI_f I hl hh (by omega) (fun hn => by obtain ⟨a0, a1, a2, a3, a4, a5, a6, a7⟩ := I.1 h hn; obtain ⟨j, hj, e⟩ := hx; exact ⟨⟨j, hj, e⟩, a1, a2, a3, a4, a5, a6, a7⟩)
theorem SI_stair (I : SI s n) (hl : s.length = 90) {h : Nat} {x : Int32} (hh : h < 8) (hx : x = -1 ∨ ∃ t, t < 8 ∧ x = nI t ∧ (t = h + 1 ∨ t + 1 = h)) : SI (s.set (2 + 8 * h + 1) x) n :=
  SI_f I hl hh (by omega) (fun hn => by obtain ⟨a0, a1, a2, a3, a4, a5, a6, a7⟩ := I.1 h hn; exact ⟨a0, hx, a2, a3, a4, a5, a6, a7⟩)
theorem SI_leave (I : SI s n) (hl : s.length = 90) {h : Nat} {x : Int32} (hh : h < 8) (hx : inn x 8) : SI (s.set (2 + 8 * h + 2) x) n :=
  SI_f I hl hh (by omega) (fun hn => by obtain ⟨a0, a1, a2, a3, a4, a5, a6, a7⟩ := I.1 h hn; exact ⟨a0, a1, hx, a3, a4, a5, a6, a7⟩)
theorem SI_from (I : SI s n) (hl : s.length = 90) {h : Nat} {x : Int32} (hh : h < 8) (hx : isN x 24) : SI (s.set (2 + 8 * h + 3) x) n :=
  SI_f I hl hh (by omega) (fun hn => by obtain ⟨a0, a1, a2, a3, a4, a5, a6, a7⟩ := I.1 h hn; exact ⟨a0, a1, a2, hx, a4, a5, a6, a7⟩)
theorem SI_to (I : SI s n) (hl : s.length = 90) {h : Nat} {x : Int32} (hh : h < 8) (hx : isN x 24) : SI (s.set (2 + 8 * h + 4) x) n :=
  SI_f I hl hh (by omega) (fun hn => by obtain ⟨a0, a1, a2, a3, a4, a5, a6, a7⟩ := I.1 h hn; exact ⟨a0, a1, a2, a3, hx, a5, a6, a7⟩)
theorem SI_foes (I : SI s n) (hl : s.length = 90) {h : Nat} {x : Int32} (hh : h < 8) (hx : inn x 8) : SI (s.set (2 + 8 * h + 5) x) n :=
  SI_f I hl hh (by omega) (fun hn => by obtain ⟨a0, a1, a2, a3, a4, a5, a6, a7⟩ := I.1 h hn; exact ⟨a0, a1, a2, a3, a4, hx, a6, a7⟩)
theorem SI_sleep (I : SI s n) (hl : s.length = 90) {h : Nat} {x : Int32} (hh : h < 8) (hx : isN x 10) : SI (s.set (2 + 8 * h + 6) x) n :=
  SI_f I hl hh (by omega) (fun hn => by obtain ⟨a0, a1, a2, a3, a4, a5, a6, a7⟩ := I.1 h hn; exact ⟨a0, a1, a2, a3, a4, a5, hx, a7⟩)
theorem SI_bed (I : SI s n) (hl : s.length = 90) {h : Nat} {x : Int32} (hh : h < 8) (hx : isN x n) : SI (s.set (2 + 8 * h + 7) x) n :=
  SI_f I hl hh (by omega) (fun hn => by obtain ⟨a0, a1, a2, a3, a4, a5, a6, a7⟩ := I.1 h hn; exact ⟨a0, a1, a2, a3, a4, a5, a6, hx⟩)
theorem SI_door (I : SI s n) (hl : s.length = 90) (hn : n ≤ 8) {d : Nat} {b : Bool} (hd : d < 14) : SI (s.set (66 + d) (z01 b)) n := by
  refine ⟨fun h hh => ?_, fun d' hd' => ?_, fun q hq => by rw [gD_ne (by omega)]; exact I.2.2 q hq⟩
  · have e : ∀ k, k < 8 → fld (s.set (66 + d) (z01 b)) h k = fld s h k := fun k hk => gD_ne (by omega)
    rw [e 0 (by omega), e 1 (by omega), e 2 (by omega), e 3 (by omega), e 4 (by omega), e 5 (by omega), e 6 (by omega), e 7 (by omega)]
    exact I.1 h hh
  · rw [gD_set _ _ _ _ (by omega)]
    by_cases e : 66 + d' = 66 + d
    · rw [if_pos e]
      exact ⟨b, rfl⟩
    · rw [if_neg e]
      exact I.2.1 d' hd'
theorem SI_spot (I : SI s n) (hl : s.length = 90) (hn : n ≤ 8) {k : Nat} {x : Int32} (hk : k < 10) (hx : x = -1 ∨ isN x n) : SI (s.set (80 + k) x) n := by
  refine ⟨fun h hh => ?_, fun d' hd' => by rw [gD_ne (by omega)]; exact I.2.1 d' hd', fun q hq => ?_⟩
  · have e : ∀ j, j < 8 → fld (s.set (80 + k) x) h j = fld s h j := fun j hj => gD_ne (by omega)
    rw [e 0 (by omega), e 1 (by omega), e 2 (by omega), e 3 (by omega), e 4 (by omega), e 5 (by omega), e 6 (by omega), e 7 (by omega)]
    exact I.1 h hh
  · rw [gD_set _ _ _ _ (by omega)]
    by_cases e : 80 + q = 80 + k
    · rw [if_pos e]
      exact hx
    · rw [if_neg e]
      exact I.2.2 q hq
theorem SI_seed (I : SI s n) (hn : n ≤ 8) (x : Int32) : SI (s.set 1 x) n := by
  refine ⟨fun h hh => ?_, fun d' hd' => by rw [gD_ne (by omega)]; exact I.2.1 d' hd', fun q hq => by rw [gD_ne (by omega)]; exact I.2.2 q hq⟩
  have e : ∀ j, j < 8 → fld (s.set 1 x) h j = fld s h j := fun j hj => gD_ne (by omega)
  rw [e 0 (by omega), e 1 (by omega), e 2 (by omega), e 3 (by omega), e 4 (by omega), e 5 (by omega), e 6 (by omega), e 7 (by omega)]
  exact I.1 h hh
theorem set_back (s : List Int32) (j : Nat) (x : Int32) (hj : j < s.length) : (s.set j x).set j (s.getD j 0) = s := by
  rw [List.set_set]
  apply l_ext (m := s.length) (List.length_set ..) rfl
  intro i _
  rw [gD_set _ _ _ _ hj]
  by_cases e : i = j
  · rw [if_pos e, e]
  · rw [if_neg e]
theorem inn_0 (n : Nat) : inn 0 n := fun i _ _ => b_0 i
end SIS
/-- the first d with p d that has the least g -/
def bestD (p : Nat → Bool) (g : Nat → Nat) : Nat → Int32 × Nat
  | 0 => (-1, 0)
  | m + 1 => if p m = true ∧ ((bestD p g m).1 < 0 ∨ g m < (bestD p g m).2) then (nI m, g m) else bestD p g m
def offN (s : List Int32) (n : Nat) (c : Int32) : Nat := cntR (fun f => offB s n f c) n
theorem offN_le (s : List Int32) (n : Nat) (c : Int32) : offN s n c ≤ n := cntR_le _ _
section MF
variable {X : List Int32} {w : ab_W} {s : List Int32} {n : Nat} {st ks : List Int32} {kp : Bool} {tp : List Int32} {tn : Nat} {bo so nu : List Int32}
theorem m_onesO (s : List Int32) {n : Nat} (c : Int32) (hn : n ≤ 8) : ab_M X kX6_ones [.int (bs (fun f => offB s n f c) n)] w (some (.int (nI (offN s n c)))) w := m_onesB hn
set_option maxRecDepth 100000 in
set_option maxHeartbeats 4000000 in
theorem m_worth_k (R : MW w s n st ks kp tp tn bo so nu) (I : SI s n) (h c : Nat) (hh : h < n) (hc : c < 24) : ab_Q X kX6_worth [.ref 54, .int (nI h), .int (nI c)] w (MP w (nI (offN (s.set (2 + 8 * h + 2) 0) n (nI c)) - nI (offN s n (nI c))) s n st ks kp tp tn bo so nu) := by
  have M := R.ms
  have R0 := R
  obtain ⟨oth, nz, mv, fr, to, vl, wr, a54, a55, a56, a57, a58, a59, a60, a61, a62, a63, a64, l, h0, hn, ht⟩ := R
  show ab_H X kX6_worth 0 [some (.ref 54), some (.int (nI h)), some (.int (nI c)), none, none, none] [] w _
  iterate 2 refine h_s rfl ?_
  refine h_cv rfl rfl rfl a54 rfl rfl (m_isHouse1 M ⟨h, by omega, rfl⟩) ?_
  refine h_n (st2 := [_]) rfl ?_
  iterate 2 refine h_s rfl ?_
  refine h_c rfl (m_isClock1 ⟨c, by omega, rfl⟩) ?_
  refine h_n (st2 := [_]) rfl ?_
  iterate 3 refine h_s rfl ?_
  refine h_k (y := 2) rfl rfl ?_
  refine h_cv rfl rfl rfl a54 rfl rfl (m_its M h 2 (by omega) (by omega) rfl rfl) ?_
  refine h_n (st2 := [_]) rfl ?_
  iterate 3 refine h_s rfl ?_
  refine h_cv rfl rfl rfl a54 rfl rfl (m_offSet M I (nI c)) ?_
  refine h_n (st2 := [_]) rfl ?_
  refine h_c rfl (m_onesO s (nI c) hn) ?_
  refine h_n (st2 := [_]) rfl ?_
  iterate 2 refine h_s rfl ?_
  refine h_gf rfl rfl rfl a54 rfl ?_
  refine h_s rfl ?_
  refine h_k (y := 2) rfl rfl ?_
  refine h_c rfl (m_at h 2 rfl rfl) ?_
  refine h_n (st2 := [_, _]) rfl ?_
  refine h_k (y := 0) rfl rfl ?_
  refine h_is (2 + 8 * h + 2) rfl a55 (by omega) rfl (by omega) (fun w1 e1 f1 => ?_)
  have M1 := (R0.sj e1 (by omega) f1).ms
  have I1 := SI_leave I l.1 (h := h) (by omega) (inn_0 8)
  have a54 := (f1 54 (by decide)).trans a54
  iterate 2 refine h_s rfl ?_
  refine h_cv rfl rfl rfl a54 rfl rfl (m_offSet M1 I1 (nI c)) ?_
  refine h_n (st2 := [_]) rfl ?_
  refine h_c rfl (m_onesO (s.set (2 + 8 * h + 2) 0) (nI c) hn) ?_
  refine h_n (st2 := [_]) rfl ?_
  iterate 2 refine h_s rfl ?_
  refine h_gf rfl rfl rfl a54 rfl ?_
  refine h_s rfl ?_
  refine h_k (y := 2) rfl rfl ?_
  refine h_c rfl (m_at h 2 rfl rfl) ?_
  refine h_n (st2 := [_, _]) rfl ?_
  refine h_s rfl ?_
  refine h_is (2 + 8 * h + 2) rfl e1 (by rw [List.length_set]; omega) rfl (by rw [List.length_set]; omega) (fun w2 e2 f2 => ?_)
  rw [show fld s h 2 = s.getD (2 + 8 * h + 2) 0 from rfl, set_back s (2 + 8 * h + 2) 0 (by omega)] at e2
  iterate 3 refine h_s rfl ?_
  exact h_ri rfl rfl ⟨rfl, R0.s55 e2 l.1 h0 hn (fun i hi => (f2 i hi).trans (f1 i hi)), fun i hi => (f2 i (by omega)).trans (f1 i (by omega))⟩
end MF
end
section
/-! THE REFERENCE: open, quarrel -/
theorem inn_mark {x : Int32} {f : Nat} (z : Bool) (hx : inn x 8) (hf : f < 8) : inn (markI x f z) 8 := by
  intro i h1 h2
  unfold markI
  cases z with
  | true =>
    rw [if_pos rfl, b_or, hx i h1 h2, b_sh (by omega) h2, decide_eq_false (by omega)]
    rfl
  | false =>
    rw [if_neg (by decide), b_and, hx i h1 h2]
    rfl
def quarS (s : List Int32) (a b : Nat) : List Int32 := (s.set (2 + 8 * a + 2) (markI (fld s a 2) b false)).set (2 + 8 * a + 5) (markI (fld s a 5) b true)
theorem quar_l (s : List Int32) (a b : Nat) : (quarS s a b).length = s.length := by
  unfold quarS
  rw [List.length_set, List.length_set]
theorem quar_SI {s : List Int32} {n a b : Nat} (I : SI s n) (hl : s.length = 90) (ha : a < n) (hn : n ≤ 8) (hb : b < 8) : SI (quarS s a b) n :=
  SI_foes (SI_leave I hl (by omega) (inn_mark false (I.1 a ha).2.2.1 hb)) (by rw [List.length_set]; exact hl) (by omega) (inn_mark true (I.1 a ha).2.2.2.2.2.1 hb)
section MG
variable {X : List Int32} {w : ab_W} {s : List Int32} {n : Nat} {st ks : List Int32} {kp : Bool} {tp : List Int32} {tn : Nat} {bo so nu : List Int32}
set_option maxRecDepth 100000 in
set_option maxHeartbeats 4000000 in
theorem m_quarrels (R : MW w s n st ks kp tp tn bo so nu) (a b : Nat) (ha : a < 8) (hb : b < 8) : ab_Q X kX6_quarrels [.ref 54, .int (nI a), .int (nI b)] w (fun v w1 => v = none ∧ MW w1 (quarS s a b) n st ks kp tp tn bo so nu ∧ w1[55]? = some (.inr (quarS s a b)) ∧ ∀ i, i ≠ 55 → w1[i]? = w[i]?) := by
  have M := R.ms
  have R0 := R
  obtain ⟨oth, nz, mv, fr, to, vl, wr, a54, a55, a56, a57, a58, a59, a60, a61, a62, a63, a64, l, h0, hn, ht⟩ := R
  show ab_H X kX6_quarrels 0 [some (.ref 54), some (.int (nI a)), some (.int (nI b))] [] w _
  refine h_s rfl ?_
  refine h_gf rfl rfl rfl a54 rfl ?_
  refine h_s rfl ?_
  refine h_k (y := 2) rfl rfl ?_
  refine h_c rfl (m_at a 2 rfl rfl) ?_
  refine h_n (st2 := [_, _]) rfl ?_
  refine h_s rfl ?_
  refine h_ia (2 + 8 * a + 2) rfl a55 (by omega) rfl (by omega) ?_
  refine h_k (y := 1) rfl rfl ?_
  iterate 2 refine h_s rfl ?_
  refine h_k (y := (-1)) rfl rfl ?_
  iterate 2 refine h_s rfl ?_
  refine h_is (2 + 8 * a + 2) rfl a55 (by omega) rfl (by omega) (fun w1 e1 f1 => ?_)
  have a54 := (f1 54 (by decide)).trans a54
  have a55 := e1
  refine h_s rfl ?_
  refine h_gf rfl rfl rfl a54 rfl ?_
  refine h_s rfl ?_
  refine h_k (y := 5) rfl rfl ?_
  refine h_c rfl (m_at a 5 rfl rfl) ?_
  refine h_n (st2 := [_, _]) rfl ?_
  refine h_s rfl ?_
  refine h_ia (2 + 8 * a + 5) rfl a55 (by rw [List.length_set]; omega) rfl (by rw [List.length_set]; omega) ?_
  refine h_t (gD_ne (by omega)) ?_
  refine h_k (y := 1) rfl rfl ?_
  iterate 3 refine h_s rfl ?_
  refine h_is (2 + 8 * a + 5) rfl a55 (by rw [List.length_set]; omega) rfl (by rw [List.length_set]; omega) (fun w2 e2 f2 => ?_)
  have e3 : w2[55]? = some (.inr (quarS s a b)) := e2
  have F : ∀ i, i ≠ 55 → w2[i]? = w[i]? := fun i hi => (f2 i hi).trans (f1 i hi)
  exact h_r rfl ⟨rfl, R0.s55 e3 ((quar_l s a b).trans l.1) (by unfold quarS; rw [gD_ne (by omega), gD_ne (by omega)]; exact h0) hn F, e3, F⟩
set_option maxRecDepth 100000 in
set_option maxHeartbeats 4000000 in
theorem m_quarrel_k (R : MW w s n st ks kp tp tn bo so nu) (I : SI s n) (a b c : Nat) (ha : a < n) (hb : b < n) (hab : ¬ a = b) (hc : c < 24) : ab_Q X kX6_quarrel [.ref 54, .int (nI a), .int (nI b), .int (nI c)] w (MP w (nI (offN (quarS (quarS s a b) b a) n (nI c)) - nI (offN s n (nI c))) s n st ks kp tp tn bo so nu) := by
  have M := R.ms
  have R0 := R
  obtain ⟨oth, nz, mv, fr, to, vl, wr, a54, a55, a56, a57, a58, a59, a60, a61, a62, a63, a64, l, h0, hn, ht⟩ := R
  show ab_H X kX6_quarrel 0 [some (.ref 54), some (.int (nI a)), some (.int (nI b)), some (.int (nI c)), none, none] [] w _
  iterate 2 refine h_s rfl ?_
  refine h_cv rfl rfl rfl a54 rfl rfl (m_isHouse1 M ⟨a, by omega, rfl⟩) ?_
  refine h_n (st2 := [_]) rfl ?_
  iterate 3 refine h_s rfl ?_
  refine h_cv rfl rfl rfl a54 rfl rfl (m_isHouse1 M ⟨b, by omega, rfl⟩) ?_
  refine h_n (st2 := [_]) rfl ?_
  iterate 3 refine h_s rfl ?_
  refine h2_eq rfl rfl (fun h18 => absurd h18 (fun q => hab ((nI_eq (by omega) (by omega)).mp q))) (fun h18 => ?_)
  refine h_s rfl ?_
  refine h_c rfl (m_isClock1 ⟨c, by omega, rfl⟩) ?_
  refine h_n (st2 := [_]) rfl ?_
  iterate 3 refine h_s rfl ?_
  refine h_cv rfl rfl rfl a54 rfl rfl (m_offSet M I (nI c)) ?_
  refine h_n (st2 := [_]) rfl ?_
  refine h_c rfl (m_onesO s (nI c) hn) ?_
  refine h_n (st2 := [_]) rfl ?_
  iterate 2 refine h_s rfl ?_
  refine hq_v rfl rfl rfl a54 rfl rfl (m_puts R0) (fun v1 w1 q1 => ?_)
  obtain ⟨rfl, R1, o1, F1⟩ := q1
  have a54 := (F1 54 (by decide)).trans a54
  refine h_n (st2 := []) rfl ?_
  iterate 3 refine h_s rfl ?_
  refine hq_v rfl rfl rfl a54 rfl rfl (m_quarrels R1 a b (by omega) (by omega)) (fun v2 w2 q2 => ?_)
  obtain ⟨rfl, R2, -, F2⟩ := q2
  have I2 := quar_SI I l.1 ha hn (show b < 8 by omega)
  have a54 := (F2 54 (by decide)).trans a54
  refine h_n (st2 := []) rfl ?_
  iterate 3 refine h_s rfl ?_
  refine hq_v rfl rfl rfl a54 rfl rfl (m_quarrels R2 b a (by omega) (by omega)) (fun v3 w3 q3 => ?_)
  obtain ⟨rfl, R3, -, F3⟩ := q3
  have I3 := quar_SI I2 ((quar_l s a b).trans l.1) hb hn (show a < 8 by omega)
  have a54 := (F3 54 (by decide)).trans a54
  refine h_n (st2 := []) rfl ?_
  iterate 2 refine h_s rfl ?_
  refine h_cv rfl rfl rfl a54 rfl rfl (m_offSet R3.ms I3 (nI c)) ?_
  refine h_n (st2 := [_]) rfl ?_
  refine h_c rfl (m_onesO (quarS (quarS s a b) b a) (nI c) hn) ?_
  refine h_n (st2 := [_]) rfl ?_
  iterate 2 refine h_s rfl ?_
  refine hq_v rfl rfl rfl a54 rfl rfl (m_putsBack R3 s n ((F3 57 (by decide)).trans ((F2 57 (by decide)).trans o1)) h0 hn) (fun v4 w4 q4 => ?_)
  obtain ⟨rfl, R4, F4⟩ := q4
  refine h_n (st2 := []) rfl ?_
  iterate 3 refine h_s rfl ?_
  exact h_ri rfl rfl ⟨rfl, R4, fun i hi => (F4 i (by omega)).trans ((F3 i (by omega)).trans ((F2 i (by omega)).trans (F1 i (by omega))))⟩
set_option maxRecDepth 100000 in
set_option maxHeartbeats 4000000 in
theorem m_open_k (R : MW w s n st ks kp tp tn bo so nu) (I : SI s n) (c : Nat) (hc : c < 24) (B : Int32 × Nat) (hB : bestD (fun d => !dB s d) (fun d => offN (s.set (66 + d) 1) n (nI c)) 14 = B) : ab_Q X kX6_open [.ref 54, .int (nI c)] w (fun v w1 => if B.1 < 0 then MP w (-1000004) s n (bump st 3) ks kp tp tn bo so nu v w1 else MP w B.1 s n st ks kp tp tn bo so nu v w1) := by
  have M := R.ms
  have R0 := R
  obtain ⟨oth, nz, mv, fr, to, vl, wr, a54, a55, a56, a57, a58, a59, a60, a61, a62, a63, a64, l, h0, hn, ht⟩ := R
  show ab_H X kX6_open 0 [some (.ref 54), some (.int (nI c)), none, none, none, none] [] w _
  refine h_s rfl ?_
  refine h_c rfl (m_isClock1 ⟨c, by omega, rfl⟩) ?_
  refine h_n (st2 := [_]) rfl ?_
  refine h_s rfl ?_
  refine h_k (y := (-1)) rfl rfl ?_
  refine h_s rfl ?_
  refine h_k (y := 0) rfl rfl ?_
  refine h_s rfl ?_
  refine h_k (y := 0) rfl rfl ?_
  refine h_s rfl ?_
  refine h_loop0 14 (fun i ls w1 => (∀ j, j ≠ 55 → w1[j]? = w[j]?) ∧ w1[55]? = some (.inr s) ∧ ∃ b lw x, bestD (fun d => !dB s d) (fun d => offN (s.set (66 + d) 1) n (nI c)) i = (b, lw) ∧ lw ≤ 8 ∧ ls = [some (.ref 54), some (.int (nI c)), some (.int b), some (.int (nI lw)), some (.int (nI i)), x]) ⟨fun _ _ => rfl, a55, -1, 0, none, rfl, by omega, rfl⟩ (fun i ls w1 hi hJ ih => ?_) (fun ls w1 hJ => ?_)
  · obtain ⟨F, a55', b, lw, x, hbl, hlw, rfl⟩ := hJ
    have a54' := (F 54 (by decide)).trans a54
    have R1 := R0.s55 a55' l.1 h0 hn F
    obtain ⟨W, hW⟩ : ∃ W, offN (s.set (66 + i) 1) n (nI c) = W := ⟨_, rfl⟩
    have hW16 : W ≤ 8 := by rw [← hW]; exact Nat.le_trans (offN_le ..) hn
    have hd : dB s i = decide (¬ s.getD (66 + i) 0 = 0) := by
      obtain ⟨z, hz⟩ := I.2.1 i hi
      unfold dB
      rw [hz]
      cases z <;> rfl
    refine h_s rfl ?_
    refine h_k (y := 14) rfl rfl ?_
    refine h2_ge rfl rfl (fun h25 => absurd h25 (nI_ge (b := 14) hi (by omega))) (fun h25 => ?_)
    refine h_s rfl ?_
    refine h_gf rfl rfl rfl a54' rfl ?_
    refine h_k (y := 66) rfl rfl ?_
    iterate 2 refine h_s rfl ?_
    refine h_ia (66 + i) rfl a55' (by omega) (nI_add 66 i) (by omega) ?_
    refine h1_ne rfl rfl (fun h38 => ?_) (fun h38 => ?_)
    · refine h_ii rfl rfl rfl ?_
      refine h_s rfl ?_
      have e : bestD (fun d => !dB s d) (fun d => offN (s.set (66 + d) 1) n (nI c)) (i + 1) = if (!dB s i) = true ∧ (b < 0 ∨ W < lw) then (nI i, W) else (b, lw) := by
        show (if (!dB s i) = true ∧ ((bestD (fun d => !dB s d) (fun d => offN (s.set (66 + d) 1) n (nI c)) i).1 < 0 ∨ offN (s.set (66 + i) 1) n (nI c) < (bestD (fun d => !dB s d) (fun d => offN (s.set (66 + d) 1) n (nI c)) i).2) then (nI i, offN (s.set (66 + i) 1) n (nI c)) else bestD (fun d => !dB s d) (fun d => offN (s.set (66 + d) 1) n (nI c)) i) = _
        rw [hW, hbl]
      rw [if_neg (show ¬ ((!dB s i) = true ∧ (b < 0 ∨ W < lw)) from fun q => absurd q.1 (by rw [hd, decide_eq_true h38]; decide))] at e
      exact ih _ _ ⟨F, a55', _, _, _, e, by omega, rfl⟩
    · refine h_s rfl ?_
      refine h_gf rfl rfl rfl a54' rfl ?_
      refine h_k (y := 66) rfl rfl ?_
      iterate 2 refine h_s rfl ?_
      refine h_k (y := 1) rfl rfl ?_
      have h38d : ¬ ¬ s.getD (66 + i) 0 = 0 := fun q => q h38
      refine h_is (66 + i) rfl a55' (by omega) (nI_add 66 i) (by omega) (fun w2 e2 f2 => ?_)
      have M2 := (R1.sj e2 (by omega) f2).ms
      have I2 := SI_door I l.1 hn (b := true) hi
      have a54' := (f2 54 (by decide)).trans a54'
      iterate 2 refine h_s rfl ?_
      refine h_cv rfl rfl rfl a54' rfl rfl (m_offSet M2 I2 (nI c)) ?_
      refine h_n (st2 := [_]) rfl ?_
      refine h_c rfl (m_onesO (s.set (66 + i) 1) (nI c) hn) ?_
      refine h_t (congrArg nI hW) ?_
      refine h_n (st2 := [_]) rfl ?_
      iterate 2 refine h_s rfl ?_
      refine h_gf rfl rfl rfl a54' rfl ?_
      refine h_k (y := 66) rfl rfl ?_
      iterate 2 refine h_s rfl ?_
      refine h_k (y := 0) rfl rfl ?_
      refine h_is (66 + i) rfl e2 (by rw [List.length_set]; omega) (nI_add 66 i) (by rw [List.length_set]; omega) (fun w3 e3 f3 => ?_)
      have hz : s.getD (66 + i) 0 = 0 := h38
      rw [show (0 : Int32) = s.getD (66 + i) 0 from hz.symm, set_back s (66 + i) 1 (by omega)] at e3
      refine h_s rfl ?_
      refine h1_lt rfl rfl (fun h74 => ?_) (fun h74 => ?_)
      · iterate 4 refine h_s rfl ?_
        refine h_ii rfl rfl rfl ?_
        refine h_s rfl ?_
        have e : bestD (fun d => !dB s d) (fun d => offN (s.set (66 + d) 1) n (nI c)) (i + 1) = if (!dB s i) = true ∧ (b < 0 ∨ W < lw) then (nI i, W) else (b, lw) := by
          show (if (!dB s i) = true ∧ ((bestD (fun d => !dB s d) (fun d => offN (s.set (66 + d) 1) n (nI c)) i).1 < 0 ∨ offN (s.set (66 + i) 1) n (nI c) < (bestD (fun d => !dB s d) (fun d => offN (s.set (66 + d) 1) n (nI c)) i).2) then (nI i, offN (s.set (66 + i) 1) n (nI c)) else bestD (fun d => !dB s d) (fun d => offN (s.set (66 + d) 1) n (nI c)) i) = _
          rw [hW, hbl]
        try rw [nI_leI (by omega) (by omega)] at h80
        first | rw [if_pos (show (!dB s i) = true ∧ (b < 0 ∨ W < lw) from ⟨by rw [hd, decide_eq_false h38d]; rfl, Or.inl h74⟩)] at e | rw [if_pos (show (!dB s i) = true ∧ (b < 0 ∨ W < lw) from ⟨by rw [hd, decide_eq_false h38d]; rfl, Or.inr (by omega)⟩)] at e | rw [if_neg (show ¬ ((!dB s i) = true ∧ (b < 0 ∨ W < lw)) from fun q => q.2.elim h74 (by omega))] at e
        exact ih _ _ ⟨fun j hj => (f3 j hj).trans ((f2 j hj).trans (F j hj)), e3, _, _, _, e, by omega, rfl⟩
      · iterate 2 refine h_s rfl ?_
        refine h2_ge rfl rfl (fun h80 => ?_) (fun h80 => ?_)
        · refine h_ii rfl rfl rfl ?_
          refine h_s rfl ?_
          have e : bestD (fun d => !dB s d) (fun d => offN (s.set (66 + d) 1) n (nI c)) (i + 1) = if (!dB s i) = true ∧ (b < 0 ∨ W < lw) then (nI i, W) else (b, lw) := by
            show (if (!dB s i) = true ∧ ((bestD (fun d => !dB s d) (fun d => offN (s.set (66 + d) 1) n (nI c)) i).1 < 0 ∨ offN (s.set (66 + i) 1) n (nI c) < (bestD (fun d => !dB s d) (fun d => offN (s.set (66 + d) 1) n (nI c)) i).2) then (nI i, offN (s.set (66 + i) 1) n (nI c)) else bestD (fun d => !dB s d) (fun d => offN (s.set (66 + d) 1) n (nI c)) i) = _
            rw [hW, hbl]
          try rw [nI_leI (by omega) (by omega)] at h80
          first | rw [if_pos (show (!dB s i) = true ∧ (b < 0 ∨ W < lw) from ⟨by rw [hd, decide_eq_false h38d]; rfl, Or.inl h74⟩)] at e | rw [if_pos (show (!dB s i) = true ∧ (b < 0 ∨ W < lw) from ⟨by rw [hd, decide_eq_false h38d]; rfl, Or.inr (by omega)⟩)] at e | rw [if_neg (show ¬ ((!dB s i) = true ∧ (b < 0 ∨ W < lw)) from fun q => q.2.elim h74 (by omega))] at e
          exact ih _ _ ⟨fun j hj => (f3 j hj).trans ((f2 j hj).trans (F j hj)), e3, _, _, _, e, by omega, rfl⟩
        · iterate 4 refine h_s rfl ?_
          refine h_ii rfl rfl rfl ?_
          refine h_s rfl ?_
          have e : bestD (fun d => !dB s d) (fun d => offN (s.set (66 + d) 1) n (nI c)) (i + 1) = if (!dB s i) = true ∧ (b < 0 ∨ W < lw) then (nI i, W) else (b, lw) := by
            show (if (!dB s i) = true ∧ ((bestD (fun d => !dB s d) (fun d => offN (s.set (66 + d) 1) n (nI c)) i).1 < 0 ∨ offN (s.set (66 + i) 1) n (nI c) < (bestD (fun d => !dB s d) (fun d => offN (s.set (66 + d) 1) n (nI c)) i).2) then (nI i, offN (s.set (66 + i) 1) n (nI c)) else bestD (fun d => !dB s d) (fun d => offN (s.set (66 + d) 1) n (nI c)) i) = _
            rw [hW, hbl]
          try rw [nI_leI (by omega) (by omega)] at h80
          first | rw [if_pos (show (!dB s i) = true ∧ (b < 0 ∨ W < lw) from ⟨by rw [hd, decide_eq_false h38d]; rfl, Or.inl h74⟩)] at e | rw [if_pos (show (!dB s i) = true ∧ (b < 0 ∨ W < lw) from ⟨by rw [hd, decide_eq_false h38d]; rfl, Or.inr (by omega)⟩)] at e | rw [if_neg (show ¬ ((!dB s i) = true ∧ (b < 0 ∨ W < lw)) from fun q => q.2.elim h74 (by omega))] at e
          exact ih _ _ ⟨fun j hj => (f3 j hj).trans ((f2 j hj).trans (F j hj)), e3, _, _, _, e, by omega, rfl⟩
  · obtain ⟨F, a55', b, lw, x, hbl, hlw, rfl⟩ := hJ
    rw [hB] at hbl
    subst hbl
    have R1 := R0.s55 a55' l.1 h0 hn F
    have a54' := (F 54 (by decide)).trans a54
    refine h_s rfl ?_
    refine h_k (y := 14) rfl rfl ?_
    refine h2_ge rfl rfl (fun h25 => ?_) (fun h25 => absurd (nI_le (a := 14) (b := 14) (Nat.le_refl _) (by omega)) h25)
    refine h_s rfl ?_
    refine h1_ge rfl rfl (fun h96 => ?_) (fun h96 => ?_)
    · refine h_s rfl ?_
      have hb : ¬ b < 0 := by
        rw [lt_iff]
        rw [le_iff] at h96
        have : (0 : Int32).toInt = 0 := rfl
        omega
      exact h_ri rfl rfl (by rw [if_neg hb]; exact ⟨rfl, R1, fun i hi => F i (by omega)⟩)
    · iterate 2 refine h_s rfl ?_
      refine hq_v rfl rfl rfl a54' rfl rfl (m_finds R1 3 (by omega) _ (by decide)) (fun v1 w1 q1 => ?_)
      obtain ⟨rfl, q2, q3⟩ := q1
      refine h_n (st2 := [_]) rfl ?_
      refine h_s rfl ?_
      have hb : b < 0 := by
        rw [lt_iff]
        rw [le_iff] at h96
        have : (0 : Int32).toInt = 0 := rfl
        omega
      exact h_ri rfl rfl (by rw [if_pos hb]; exact ⟨rfl, q2, fun i hi => (q3 i hi).trans (F i (by omega))⟩)
end MG
end
section
/-! THE REFERENCE: leaves given for a try -/
/-- the leaves of the first i houses, if those of q also had f -/
def giveS (s : List Int32) (q : Nat → Bool) (f : Nat) : Nat → List Int32
  | 0 => s
  | i + 1 => (giveS s q f i).set (2 + 8 * i + 2) (fld s i 2 ||| (if q i then (1 : Int32) <<< (nI f &&& 31) else 0))
theorem give_l (s : List Int32) (q : Nat → Bool) (f : Nat) : ∀ i, (giveS s q f i).length = s.length
  | 0 => rfl
  | i + 1 => by rw [giveS, List.length_set]; exact give_l s q f i
theorem give_D (s : List Int32) (q : Nat → Bool) (f : Nat) {j : Nat} : ∀ i, (∀ h, h < i → j ≠ 2 + 8 * h + 2) → (giveS s q f i).getD j 0 = s.getD j 0
  | 0, _ => rfl
  | i + 1, h => by
    rw [giveS, gD_ne (fun e => h i (by omega) e.symm)]
    exact give_D s q f i (fun h' hh' => h h' (by omega))
theorem give_inn {s : List Int32} {n f i : Nat} (I : SI s n) (hf : f < 8) (hi : i < n) (b : Bool) : inn (fld s i 2 ||| (if b then (1 : Int32) <<< (nI f &&& 31) else 0)) 8 := by
  intro j h1 h2
  rw [b_or, (I.1 i hi).2.2.1 j h1 h2, Bool.false_or]
  cases b with
  | true => rw [if_pos rfl, b_sh (by omega) h2, decide_eq_false (by omega)]
  | false => rw [if_neg (by decide), b_0]
theorem give_SI {s : List Int32} {n f : Nat} (I : SI s n) (hl : s.length = 90) (hn : n ≤ 8) (hf : f < 8) (q : Nat → Bool) : ∀ i, i ≤ n → SI (giveS s q f i) n
  | 0, _ => I
  | i + 1, h => SI_leave (give_SI I hl hn hf q i (by omega)) ((give_l s q f i).trans hl) (by omega) (give_inn I hf (by omega) (q i))
section MH
variable {X : List Int32} {w : ab_W} {s : List Int32} {n : Nat} {st ks : List Int32} {kp : Bool} {tp : List Int32} {tn : Nat} {bo so nu : List Int32}
set_option maxRecDepth 100000 in
set_option maxHeartbeats 4000000 in
theorem m_isOffWith (R : MW w s n st ks kp tp tn bo so nu) (I : SI s n) (ho : w[57]? = some (.inr s)) (f : Nat) (hf : f < n) (c x : Int32) : ab_Q X kX6_isOffWith [.ref 54, .int (nI f), .int c, .int x] w (fun v w1 => v = some (.int (z01 (offB (giveS s (bt x) f n) n f c))) ∧ MW w1 s n st ks kp tp tn bo so nu ∧ w1[55]? = some (.inr s) ∧ ∀ i, i ≠ 55 → w1[i]? = w[i]?) := by
  have M := R.ms
  have R0 := R
  obtain ⟨oth, nz, mv, fr, to, vl, wr, a54, a55, a56, a57, a58, a59, a60, a61, a62, a63, a64, l, h0, hn, ht⟩ := R
  show ab_H X kX6_isOffWith 0 [some (.ref 54), some (.int (nI f)), some (.int c), some (.int x), none, none] [] w _
  refine h_k (y := 0) rfl rfl ?_
  refine h_s rfl ?_
  refine h_loop0 n (fun i ls w1 => (∀ j, j ≠ 55 → w1[j]? = w[j]?) ∧ w1[55]? = some (.inr (giveS s (bt x) f i)) ∧ ls = [some (.ref 54), some (.int (nI f)), some (.int c), some (.int x), some (.int (nI i)), none]) ⟨fun _ _ => rfl, a55, rfl⟩ (fun i ls w1 hi hJ ih => ?_) (fun ls w1 hJ => ?_)
  · obtain ⟨F, b55, rfl⟩ := hJ
    have b54 := (F 54 (by decide)).trans a54
    have gl : (giveS s (bt x) f i).length = 90 := (give_l ..).trans l.1
    have g0 : (giveS s (bt x) f i).getD 0 0 = nI n := (give_D _ _ _ _ (fun h _ => by omega)).trans h0
    have g2 : (giveS s (bt x) f i).getD (2 + 8 * i + 2) 0 = fld s i 2 := give_D _ _ _ _ (fun h hh => by omega)
    iterate 2 refine h_s rfl ?_
    refine h_gf rfl rfl rfl b54 rfl ?_
    refine h_k (y := 0) rfl rfl ?_
    refine h_ia 0 rfl b55 (by omega) rfl (by omega) ?_
    refine h_t g0 ?_
    refine h2_ge rfl rfl (fun h11 => absurd h11 (nI_ge hi (by omega))) (fun h11 => ?_)
    refine h_s rfl ?_
    refine h_gf rfl rfl rfl b54 rfl ?_
    refine h_s rfl ?_
    refine h_k (y := 2) rfl rfl ?_
    refine h_c rfl (m_at i 2 rfl rfl) ?_
    refine h_n (st2 := [_, _]) rfl ?_
    refine h_s rfl ?_
    refine h_ia (2 + 8 * i + 2) rfl b55 (by omega) rfl (by omega) ?_
    refine h_t g2 ?_
    iterate 2 refine h_s rfl ?_
    refine h_c rfl (m_has i (by omega)) ?_
    refine h_n (st2 := [_, _, _, _]) rfl ?_
    refine hz_eq rfl rfl (fun h32 => ?_) (fun h32 => ?_)
    · refine h_k (y := 0) rfl rfl ?_
      refine h_s rfl ?_
      refine h_is (2 + 8 * i + 2) rfl b55 (by omega) rfl (by omega) (fun w2 e2 f2 => ?_)
      refine h_ii rfl rfl rfl ?_
      refine h_s rfl ?_
      exact ih _ _ ⟨fun j hj => (f2 j hj).trans (F j hj), by rw [giveS, h32]; exact e2, rfl⟩
    · refine h_k (y := 1) rfl rfl ?_
      iterate 4 refine h_s rfl ?_
      refine h_is (2 + 8 * i + 2) rfl b55 (by omega) rfl (by omega) (fun w2 e2 f2 => ?_)
      refine h_ii rfl rfl rfl ?_
      refine h_s rfl ?_
      exact ih _ _ ⟨fun j hj => (f2 j hj).trans (F j hj), by rw [giveS, h32]; exact e2, rfl⟩
  · obtain ⟨F, b55, rfl⟩ := hJ
    have b54 := (F 54 (by decide)).trans a54
    have gl : (giveS s (bt x) f n).length = 90 := (give_l ..).trans l.1
    have g0 : (giveS s (bt x) f n).getD 0 0 = nI n := (give_D _ _ _ _ (fun h _ => by omega)).trans h0
    have M1 := (R0.s55 b55 gl g0 hn F).ms
    have I1 := give_SI I l.1 hn (show f < 8 by omega) (bt x) n (Nat.le_refl _)
    iterate 2 refine h_s rfl ?_
    refine h_gf rfl rfl rfl b54 rfl ?_
    refine h_k (y := 0) rfl rfl ?_
    refine h_ia 0 rfl b55 (by omega) rfl (by omega) ?_
    refine h_t g0 ?_
    refine h2_ge rfl rfl (fun h11 => ?_) (fun h11 => absurd (nI_le (Nat.le_refl _) (by omega)) h11)
    iterate 3 refine h_s rfl ?_
    refine h_cv rfl rfl rfl b54 rfl rfl (m_isOff M1 I1 f hf c) ?_
    refine h_n (st2 := [_]) rfl ?_
    refine h_s rfl ?_
    refine h_k (y := 0) rfl rfl ?_
    refine h_s rfl ?_
    refine h_loop0 n (fun i ls w2 => (∀ j, j ≠ 55 → w2[j]? = w1[j]?) ∧ (∃ xs : List Int32, w2[55]? = some (.inr xs) ∧ xs.length = 90 ∧ ∀ j, (∀ h, i ≤ h → h < n → j ≠ 2 + 8 * h + 2) → xs.getD j 0 = s.getD j 0) ∧ ls = [some (.ref 54), some (.int (nI f)), some (.int c), some (.int x), some (.int (z01 (offB (giveS s (bt x) f n) n f c))), some (.int (nI i))]) ⟨fun _ _ => rfl, ⟨_, b55, gl, fun j hj => give_D _ _ _ _ (fun h hh => hj h (by omega) hh)⟩, rfl⟩ (fun i ls w2 hi hJ ih => ?_) (fun ls w2 hJ => ?_)
    · obtain ⟨F2, ⟨xs, x55, xl, hx⟩, rfl⟩ := hJ
      have x54 := (F2 54 (by decide)).trans b54
      have x57 := ((F2 57 (by decide)).trans (F 57 (by decide))).trans ho
      have x0 : xs.getD 0 0 = nI n := (hx 0 (fun h _ _ => by omega)).trans h0
      iterate 2 refine h_s rfl ?_
      refine h_gf rfl rfl rfl x54 rfl ?_
      refine h_k (y := 0) rfl rfl ?_
      refine h_ia 0 rfl x55 (by omega) rfl (by omega) ?_
      refine h_t x0 ?_
      refine h2_ge rfl rfl (fun h69 => absurd h69 (nI_ge hi (by omega))) (fun h69 => ?_)
      refine h_s rfl ?_
      refine h_gf rfl rfl rfl x54 rfl ?_
      refine h_s rfl ?_
      refine h_k (y := 2) rfl rfl ?_
      refine h_c rfl (m_at i 2 rfl rfl) ?_
      refine h_n (st2 := [_, _]) rfl ?_
      refine h_s rfl ?_
      refine h_gf rfl rfl rfl x54 rfl ?_
      refine h_s rfl ?_
      refine h_k (y := 2) rfl rfl ?_
      refine h_c rfl (m_at i 2 rfl rfl) ?_
      refine h_n (st2 := [_, _, _, _]) rfl ?_
      refine h_ia (2 + 8 * i + 2) rfl x57 (by omega) rfl (by omega) ?_
      refine h_is (2 + 8 * i + 2) rfl x55 (by omega) rfl (by omega) (fun w3 e3 f3 => ?_)
      refine h_ii rfl rfl rfl ?_
      refine h_s rfl ?_
      refine ih _ _ ⟨fun j hj => (f3 j hj).trans (F2 j hj), ⟨_, e3, (List.length_set ..).trans xl, fun j hj => ?_⟩, rfl⟩
      rw [gD_set _ _ _ _ (by omega)]
      by_cases e : j = 2 + 8 * i + 2
      · rw [if_pos e, e]
      · rw [if_neg e]
        refine hx j (fun h h1 h2 => ?_)
        by_cases e4 : h = i
        · rw [e4]; exact e
        · exact hj h (by omega) h2
    · obtain ⟨F2, ⟨xs, x55, xl, hx⟩, rfl⟩ := hJ
      have x54 := (F2 54 (by decide)).trans b54
      have x0 : xs.getD 0 0 = nI n := (hx 0 (fun h _ _ => by omega)).trans h0
      have hE : xs = s := l_ext (m := 90) xl l.1 (fun j _ => hx j (fun h h1 h2 => by omega))
      iterate 2 refine h_s rfl ?_
      refine h_gf rfl rfl rfl x54 rfl ?_
      refine h_k (y := 0) rfl rfl ?_
      refine h_ia 0 rfl x55 (by omega) rfl (by omega) ?_
      refine h_t x0 ?_
      refine h2_ge rfl rfl (fun h69 => ?_) (fun h69 => absurd (nI_le (Nat.le_refl _) (by omega)) h69)
      refine h_s rfl ?_
      subst hE
      exact h_rz rfl rfl ⟨rfl, R0.s55 x55 l.1 h0 hn (fun j hj => (F2 j hj).trans (F j hj)), x55, fun j hj => (F2 j hj).trans (F j hj)⟩
end MH
end
section
/-! THE REFERENCE: helps, needs, law -/
/-- off, if the houses of the set x gave f leave -/
def offG (s : List Int32) (n f : Nat) (c x : Int32) : Bool := offB (giveS s (bt x) f n) n f c
def needB (s : List Int32) (n f : Nat) (c : Int32) : Int32 × Nat := bestD (fun m => !offG s n f c (nI m)) (fun m => cntR (bt (nI m)) 8) (2 ^ n)
/-- what the law asks of the first m families -/
def lawO (s : List Int32) (n : Nat) (c : Int32) : Nat → Option Nat
  | 0 => some 0
  | m + 1 => match lawO s n c m with
    | none => none
    | some a => if (needB s n m c).1 < 0 then none else some (a + cntR (bt (needB s n m c).1) 8)
theorem lawO_none {s : List Int32} {n : Nat} {c : Int32} {i : Nat} (h : lawO s n c i = none) : ∀ d, lawO s n c (i + d) = none
  | 0 => h
  | d + 1 => by
    show lawO s n c (i + d + 1) = none
    rw [lawO, lawO_none h d]
theorem bestD_ok {p : Nat → Bool} {g : Nat → Nat} : ∀ {m : Nat}, ((bestD p g m).1 = -1) ∨ ∃ k, k < m ∧ (bestD p g m).1 = nI k ∧ (bestD p g m).2 = g k
  | 0 => Or.inl rfl
  | m + 1 => by
    rw [bestD]
    split
    · exact Or.inr ⟨m, by omega, rfl, rfl⟩
    · rcases bestD_ok (p := p) (g := g) (m := m) with h | ⟨k, h1, h2⟩
      · exact Or.inl h
      · exact Or.inr ⟨k, by omega, h2⟩
theorem sh_n : ∀ n, n ≤ 8 → (1 : Int32) <<< (nI n &&& 31) = nI (2 ^ n) := by decide +kernel
theorem pw_n : ∀ n, n ≤ 8 → 2 ^ n ≤ 256 := by decide +kernel
section MI
variable {X : List Int32} {w : ab_W} {s : List Int32} {n : Nat} {st ks : List Int32} {kp : Bool} {tp : List Int32} {tn : Nat} {bo so nu : List Int32}
set_option maxRecDepth 100000 in
set_option maxHeartbeats 4000000 in
theorem m_helps_z (R : MW w s n st ks kp tp tn bo so nu) (I : SI s n) (f c : Nat) (hf : f < n) (hc : c < 24) (ho : offB s n f (nI c) = false) : ab_Q X kX6_helps [.ref 54, .int (nI f), .int (nI c)] w (MP w 0 s n st ks kp tp tn bo so nu) := by
  have M := R.ms
  have R0 := R
  obtain ⟨oth, nz, mv, fr, to, vl, wr, a54, a55, a56, a57, a58, a59, a60, a61, a62, a63, a64, l, h0, hn, ht⟩ := R
  show ab_H X kX6_helps 0 [some (.ref 54), some (.int (nI f)), some (.int (nI c)), none, none] [] w _
  iterate 3 refine h_s rfl ?_
  refine h_cv rfl rfl rfl a54 rfl rfl (m_isAsk1 M ⟨f, by omega, rfl⟩ ⟨c, by omega, rfl⟩) ?_
  refine h_n (st2 := [_]) rfl ?_
  iterate 4 refine h_s rfl ?_
  refine h_cv rfl rfl rfl a54 rfl rfl (m_isOff M I f hf (nI c)) ?_
  refine h_n (st2 := [_]) rfl ?_
  refine hz_ne rfl rfl (fun h22 => absurd h22 (by rw [ho]; decide)) (fun h22 => ?_)
  refine h_k (y := 0) rfl rfl ?_
  exact h_ri rfl rfl (MP.same R0 _)
set_option maxRecDepth 100000 in
set_option maxHeartbeats 4000000 in
theorem m_helps_k (R : MW w s n st ks kp tp tn bo so nu) (I : SI s n) (f c : Nat) (hf : f < n) (hc : c < 24) (ho : offB s n f (nI c) = true) : ab_Q X kX6_helps [.ref 54, .int (nI f), .int (nI c)] w (MP w (bs (fun h => !offG s n f (nI c) ((1 : Int32) <<< (nI h &&& 31))) n) s n st ks kp tp tn bo so nu) := by
  have M := R.ms
  have R0 := R
  obtain ⟨oth, nz, mv, fr, to, vl, wr, a54, a55, a56, a57, a58, a59, a60, a61, a62, a63, a64, l, h0, hn, ht⟩ := R
  show ab_H X kX6_helps 0 [some (.ref 54), some (.int (nI f)), some (.int (nI c)), none, none] [] w _
  iterate 3 refine h_s rfl ?_
  refine h_cv rfl rfl rfl a54 rfl rfl (m_isAsk1 M ⟨f, by omega, rfl⟩ ⟨c, by omega, rfl⟩) ?_
  refine h_n (st2 := [_]) rfl ?_
  iterate 4 refine h_s rfl ?_
  refine h_cv rfl rfl rfl a54 rfl rfl (m_isOff M I f hf (nI c)) ?_
  refine h_n (st2 := [_]) rfl ?_
  refine hz_ne rfl rfl (fun h22 => ?_) (fun h22 => absurd h22 (by rw [ho]; decide))
  refine h_s rfl ?_
  refine hq_v rfl rfl rfl a54 rfl rfl (m_puts R0) (fun v1 w1 q1 => ?_)
  obtain ⟨rfl, R1, o1, F1⟩ := q1
  refine h_n (st2 := []) rfl ?_
  refine h_k (y := 0) rfl rfl ?_
  refine h_s rfl ?_
  refine h_k (y := 0) rfl rfl ?_
  refine h_s rfl ?_
  refine h_loop0 n (fun i ls w1 => (MW w1 s n st ks kp tp tn bo so nu ∧ w1[57]? = some (.inr s) ∧ ∀ j, j < 54 → w1[j]? = w[j]?) ∧ ls = [some (.ref 54), some (.int (nI f)), some (.int (nI c)), some (.int (bs (fun h => !offG s n f (nI c) ((1 : Int32) <<< (nI h &&& 31))) i)), some (.int (nI i))]) ⟨⟨R1, o1, fun j hj => F1 j (by omega)⟩, rfl⟩ (fun i ls w1 hi hJ ih => ?_) (fun ls w1 hJ => ?_)
  · obtain ⟨⟨R1, o1, F⟩, rfl⟩ := hJ
    obtain ⟨vs, b54, bv, bs55, -⟩ := R1.ms
    iterate 2 refine h_s rfl ?_
    refine h_gf rfl rfl rfl b54 bv ?_
    refine h_k (y := 0) rfl rfl ?_
    refine h_ia 0 rfl bs55 (by omega) rfl (by omega) ?_
    refine h_t h0 ?_
    refine h2_ge rfl rfl (fun h44 => absurd h44 (nI_ge hi (by omega))) (fun h44 => ?_)
    iterate 4 refine h_s rfl ?_
    refine h_k (y := 1) rfl rfl ?_
    iterate 2 refine h_s rfl ?_
    refine hq_v rfl rfl rfl b54 rfl rfl (m_isOffWith R1 I o1 f hf (nI c) ((1 : Int32) <<< (nI i &&& 31))) (fun v2 w2 q2 => ?_)
    obtain ⟨rfl, R2, -, F2⟩ := q2
    refine h_n (st2 := [_, _]) rfl ?_
    refine hz_eq rfl rfl (fun h58 => ?_) (fun h58 => ?_)
    · refine h_k (y := 1) rfl rfl ?_
      iterate 4 refine h_s rfl ?_
      refine h_ii rfl rfl rfl ?_
      refine h_s rfl ?_
      exact ih _ _ ⟨⟨R2, (F2 57 (by decide)).trans o1, fun j hj => (F2 j (by omega)).trans (F j hj)⟩, by first | (rw [← bs_succ_t (p := (fun h => !offG s n f (nI c) ((1 : Int32) <<< (nI h &&& 31)))) (show (!offG s n f (nI c) ((1 : Int32) <<< (nI i &&& 31))) = true by rw [show offG s n f (nI c) ((1 : Int32) <<< (nI i &&& 31)) = false from h58]; rfl)]; rfl) | (rw [← bs_succ_f0 (p := (fun h => !offG s n f (nI c) ((1 : Int32) <<< (nI h &&& 31)))) (show (!offG s n f (nI c) ((1 : Int32) <<< (nI i &&& 31))) = false by rw [show offG s n f (nI c) ((1 : Int32) <<< (nI i &&& 31)) = true from h58]; rfl)]; rfl)⟩
    · refine h_k (y := 0) rfl rfl ?_
      iterate 3 refine h_s rfl ?_
      refine h_ii rfl rfl rfl ?_
      refine h_s rfl ?_
      exact ih _ _ ⟨⟨R2, (F2 57 (by decide)).trans o1, fun j hj => (F2 j (by omega)).trans (F j hj)⟩, by first | (rw [← bs_succ_t (p := (fun h => !offG s n f (nI c) ((1 : Int32) <<< (nI h &&& 31)))) (show (!offG s n f (nI c) ((1 : Int32) <<< (nI i &&& 31))) = true by rw [show offG s n f (nI c) ((1 : Int32) <<< (nI i &&& 31)) = false from h58]; rfl)]; rfl) | (rw [← bs_succ_f0 (p := (fun h => !offG s n f (nI c) ((1 : Int32) <<< (nI h &&& 31)))) (show (!offG s n f (nI c) ((1 : Int32) <<< (nI i &&& 31))) = false by rw [show offG s n f (nI c) ((1 : Int32) <<< (nI i &&& 31)) = true from h58]; rfl)]; rfl)⟩
  · obtain ⟨⟨R1, o1, F⟩, rfl⟩ := hJ
    obtain ⟨vs, b54, bv, bs55, -⟩ := R1.ms
    iterate 2 refine h_s rfl ?_
    refine h_gf rfl rfl rfl b54 bv ?_
    refine h_k (y := 0) rfl rfl ?_
    refine h_ia 0 rfl bs55 (by omega) rfl (by omega) ?_
    refine h_t h0 ?_
    refine h2_ge rfl rfl (fun h44 => ?_) (fun h44 => absurd (nI_le (Nat.le_refl _) (by omega)) h44)
    refine h_s rfl ?_
    exact h_ri rfl rfl ⟨rfl, R1, F⟩
set_option maxRecDepth 100000 in
set_option maxHeartbeats 4000000 in
theorem m_needed (R : MW w s n st ks kp tp tn bo so nu) (I : SI s n) (f c : Nat) (hf : f < n) : ab_Q X kX6_needed [.ref 54, .int (nI f), .int (nI c)] w (MP w (needB s n f (nI c)).1 s n st ks kp tp tn bo so nu) := by
  have M := R.ms
  have R0 := R
  obtain ⟨oth, nz, mv, fr, to, vl, wr, a54, a55, a56, a57, a58, a59, a60, a61, a62, a63, a64, l, h0, hn, ht⟩ := R
  show ab_H X kX6_needed 0 [some (.ref 54), some (.int (nI f)), some (.int (nI c)), none, none] [] w _
  refine h_s rfl ?_
  refine hq_v rfl rfl rfl a54 rfl rfl (m_puts R0) (fun v1 w1 q1 => ?_)
  obtain ⟨rfl, R1, o1, F1⟩ := q1
  refine h_n (st2 := []) rfl ?_
  refine h_k (y := (-1)) rfl rfl ?_
  refine h_s rfl ?_
  refine h_k (y := 0) rfl rfl ?_
  refine h_s rfl ?_
  refine h_loop0 (2 ^ n) (fun i ls w1 => (MW w1 s n st ks kp tp tn bo so nu ∧ w1[57]? = some (.inr s) ∧ ∀ j, j < 54 → w1[j]? = w[j]?) ∧ ∃ b lw, bestD (fun m => !offG s n f (nI c) (nI m)) (fun m => cntR (bt (nI m)) 8) i = (b, lw) ∧ (b = -1 ∨ ∃ k, k < i ∧ b = nI k ∧ lw = cntR (bt (nI k)) 8) ∧ ls = [some (.ref 54), some (.int (nI f)), some (.int (nI c)), some (.int b), some (.int (nI i))]) ⟨⟨R1, o1, fun j hj => F1 j (by omega)⟩, -1, 0, rfl, Or.inl rfl, rfl⟩ (fun i ls w1 hi hJ ih => ?_) (fun ls w1 hJ => ?_)
  · obtain ⟨⟨R1, o1, F⟩, b, lw, hbl, hbk, rfl⟩ := hJ
    obtain ⟨vs, b54, bv, bs55, -⟩ := R1.ms
    have hpw := pw_n n hn
    have c1 := cntR_le (bt (nI i)) 8
    refine h_s rfl ?_
    refine h_k (y := 1) rfl rfl ?_
    refine h_s rfl ?_
    refine h_gf rfl rfl rfl b54 bv ?_
    refine h_k (y := 0) rfl rfl ?_
    refine h_ia 0 rfl bs55 (by omega) rfl (by omega) ?_
    refine h_t h0 ?_
    refine h_s rfl ?_
    refine h_t (sh_n n hn) ?_
    refine h2_ge rfl rfl (fun h19 => absurd h19 (nI_ge hi (by omega))) (fun h19 => ?_)
    refine h_s rfl ?_
    refine h1_lt rfl rfl (fun h23 => ?_) (fun h23 => ?_)
    · iterate 4 refine h_s rfl ?_
      refine hq_v rfl rfl rfl b54 rfl rfl (m_isOffWith R1 I o1 f hf (nI c) (nI i)) (fun v2 w2 q2 => ?_)
      obtain ⟨rfl, R2, -, F2⟩ := q2
      refine h_n (st2 := [_]) rfl ?_
      refine hz_ne rfl rfl (fun h46 => ?_) (fun h46 => ?_)
      · iterate 2 refine h_s rfl ?_
        refine h_ii rfl rfl rfl ?_
        refine h_s rfl ?_
        have e : bestD (fun m => !offG s n f (nI c) (nI m)) (fun m => cntR (bt (nI m)) 8) (i + 1) = if (!offG s n f (nI c) (nI i)) = true ∧ (b < 0 ∨ cntR (bt (nI i)) 8 < lw) then (nI i, cntR (bt (nI i)) 8) else (b, lw) := by
          show (if (!offG s n f (nI c) (nI i)) = true ∧ ((bestD (fun m => !offG s n f (nI c) (nI m)) (fun m => cntR (bt (nI m)) 8) i).1 < 0 ∨ cntR (bt (nI i)) 8 < (bestD (fun m => !offG s n f (nI c) (nI m)) (fun m => cntR (bt (nI m)) 8) i).2) then (nI i, cntR (bt (nI i)) 8) else bestD (fun m => !offG s n f (nI c) (nI m)) (fun m => cntR (bt (nI m)) 8) i) = _
          rw [hbl]
        first
          | (rw [if_pos (show (!offG s n f (nI c) (nI i)) = true ∧ (b < 0 ∨ cntR (bt (nI i)) 8 < lw) from ⟨by rw [show offG s n f (nI c) (nI i) = false from h46]; rfl, Or.inl h23⟩)] at e; exact ih _ _ ⟨⟨R2, (F2 57 (by decide)).trans o1, fun j hj => (F2 j (by omega)).trans (F j hj)⟩, _, _, e, Or.inr ⟨i, by omega, rfl, rfl⟩, rfl⟩)
          | (rw [if_neg (show ¬ ((!offG s n f (nI c) (nI i)) = true ∧ (b < 0 ∨ cntR (bt (nI i)) 8 < lw)) from fun q => absurd q.1 (by rw [show offG s n f (nI c) (nI i) = true from h46]; decide))] at e; exact ih _ _ ⟨⟨R2, (F2 57 (by decide)).trans o1, fun j hj => (F2 j (by omega)).trans (F j hj)⟩, b, lw, e, hbk.imp id (fun ⟨k, a1, a2⟩ => ⟨k, by omega, a2⟩), rfl⟩)
      · iterate 3 refine h_s rfl ?_
        refine h_ii rfl rfl rfl ?_
        refine h_s rfl ?_
        have e : bestD (fun m => !offG s n f (nI c) (nI m)) (fun m => cntR (bt (nI m)) 8) (i + 1) = if (!offG s n f (nI c) (nI i)) = true ∧ (b < 0 ∨ cntR (bt (nI i)) 8 < lw) then (nI i, cntR (bt (nI i)) 8) else (b, lw) := by
          show (if (!offG s n f (nI c) (nI i)) = true ∧ ((bestD (fun m => !offG s n f (nI c) (nI m)) (fun m => cntR (bt (nI m)) 8) i).1 < 0 ∨ cntR (bt (nI i)) 8 < (bestD (fun m => !offG s n f (nI c) (nI m)) (fun m => cntR (bt (nI m)) 8) i).2) then (nI i, cntR (bt (nI i)) 8) else bestD (fun m => !offG s n f (nI c) (nI m)) (fun m => cntR (bt (nI m)) 8) i) = _
          rw [hbl]
        first
          | (rw [if_pos (show (!offG s n f (nI c) (nI i)) = true ∧ (b < 0 ∨ cntR (bt (nI i)) 8 < lw) from ⟨by rw [show offG s n f (nI c) (nI i) = false from h46]; rfl, Or.inl h23⟩)] at e; exact ih _ _ ⟨⟨R2, (F2 57 (by decide)).trans o1, fun j hj => (F2 j (by omega)).trans (F j hj)⟩, _, _, e, Or.inr ⟨i, by omega, rfl, rfl⟩, rfl⟩)
          | (rw [if_neg (show ¬ ((!offG s n f (nI c) (nI i)) = true ∧ (b < 0 ∨ cntR (bt (nI i)) 8 < lw)) from fun q => absurd q.1 (by rw [show offG s n f (nI c) (nI i) = true from h46]; decide))] at e; exact ih _ _ ⟨⟨R2, (F2 57 (by decide)).trans o1, fun j hj => (F2 j (by omega)).trans (F j hj)⟩, b, lw, e, hbk.imp id (fun ⟨k, a1, a2⟩ => ⟨k, by omega, a2⟩), rfl⟩)
    · refine h_s rfl ?_
      have hk : ∃ k, k < 256 ∧ b = nI k ∧ lw = cntR (bt (nI k)) 8 := by
        rcases hbk with rfl | ⟨k, a1, a2⟩
        · exact absurd (by decide) h23
        · exact ⟨k, by omega, a2⟩
      obtain ⟨k, hk1, hk2, hk3⟩ := hk
      have c2 := cntR_le (bt (nI k)) 8
      refine h_c rfl (m_ones i (by omega)) ?_
      refine h_n (st2 := [_]) rfl ?_
      refine h_s rfl ?_
      refine h_c rfl (show ab_M X kX6_ones [.int b] w1 (some (.int (nI lw))) w1 by rw [hk2, hk3]; exact m_ones k hk1) ?_
      refine h_n (st2 := [_, _]) rfl ?_
      refine h2_ge rfl rfl (fun h35 => ?_) (fun h35 => ?_)
      · iterate 2 refine h_s rfl ?_
        refine h_ii rfl rfl rfl ?_
        refine h_s rfl ?_
        have e : bestD (fun m => !offG s n f (nI c) (nI m)) (fun m => cntR (bt (nI m)) 8) (i + 1) = if (!offG s n f (nI c) (nI i)) = true ∧ (b < 0 ∨ cntR (bt (nI i)) 8 < lw) then (nI i, cntR (bt (nI i)) 8) else (b, lw) := by
          show (if (!offG s n f (nI c) (nI i)) = true ∧ ((bestD (fun m => !offG s n f (nI c) (nI m)) (fun m => cntR (bt (nI m)) 8) i).1 < 0 ∨ cntR (bt (nI i)) 8 < (bestD (fun m => !offG s n f (nI c) (nI m)) (fun m => cntR (bt (nI m)) 8) i).2) then (nI i, cntR (bt (nI i)) 8) else bestD (fun m => !offG s n f (nI c) (nI m)) (fun m => cntR (bt (nI m)) 8) i) = _
          rw [hbl]
        rw [nI_leI (by omega) (by omega)] at h35
        rw [if_neg (show ¬ ((!offG s n f (nI c) (nI i)) = true ∧ (b < 0 ∨ cntR (bt (nI i)) 8 < lw)) from fun q => q.2.elim h23 (by omega))] at e
        exact ih _ _ ⟨⟨R1, o1, F⟩, b, lw, e, hbk.imp id (fun ⟨k, a1, a2⟩ => ⟨k, by omega, a2⟩), rfl⟩
      · iterate 4 refine h_s rfl ?_
        refine hq_v rfl rfl rfl b54 rfl rfl (m_isOffWith R1 I o1 f hf (nI c) (nI i)) (fun v2 w2 q2 => ?_)
        obtain ⟨rfl, R2, -, F2⟩ := q2
        refine h_n (st2 := [_]) rfl ?_
        refine hz_ne rfl rfl (fun h46 => ?_) (fun h46 => ?_)
        · iterate 2 refine h_s rfl ?_
          refine h_ii rfl rfl rfl ?_
          refine h_s rfl ?_
          have e : bestD (fun m => !offG s n f (nI c) (nI m)) (fun m => cntR (bt (nI m)) 8) (i + 1) = if (!offG s n f (nI c) (nI i)) = true ∧ (b < 0 ∨ cntR (bt (nI i)) 8 < lw) then (nI i, cntR (bt (nI i)) 8) else (b, lw) := by
            show (if (!offG s n f (nI c) (nI i)) = true ∧ ((bestD (fun m => !offG s n f (nI c) (nI m)) (fun m => cntR (bt (nI m)) 8) i).1 < 0 ∨ cntR (bt (nI i)) 8 < (bestD (fun m => !offG s n f (nI c) (nI m)) (fun m => cntR (bt (nI m)) 8) i).2) then (nI i, cntR (bt (nI i)) 8) else bestD (fun m => !offG s n f (nI c) (nI m)) (fun m => cntR (bt (nI m)) 8) i) = _
            rw [hbl]
          rw [nI_leI (by omega) (by omega)] at h35
          first
            | (rw [if_pos (show (!offG s n f (nI c) (nI i)) = true ∧ (b < 0 ∨ cntR (bt (nI i)) 8 < lw) from ⟨by rw [show offG s n f (nI c) (nI i) = false from h46]; rfl, Or.inr (by omega)⟩)] at e; exact ih _ _ ⟨⟨R2, (F2 57 (by decide)).trans o1, fun j hj => (F2 j (by omega)).trans (F j hj)⟩, _, _, e, Or.inr ⟨i, by omega, rfl, rfl⟩, rfl⟩)
            | (rw [if_neg (show ¬ ((!offG s n f (nI c) (nI i)) = true ∧ (b < 0 ∨ cntR (bt (nI i)) 8 < lw)) from fun q => absurd q.1 (by rw [show offG s n f (nI c) (nI i) = true from h46]; decide))] at e; exact ih _ _ ⟨⟨R2, (F2 57 (by decide)).trans o1, fun j hj => (F2 j (by omega)).trans (F j hj)⟩, b, lw, e, hbk.imp id (fun ⟨k, a1, a2⟩ => ⟨k, by omega, a2⟩), rfl⟩)
        · iterate 3 refine h_s rfl ?_
          refine h_ii rfl rfl rfl ?_
          refine h_s rfl ?_
          have e : bestD (fun m => !offG s n f (nI c) (nI m)) (fun m => cntR (bt (nI m)) 8) (i + 1) = if (!offG s n f (nI c) (nI i)) = true ∧ (b < 0 ∨ cntR (bt (nI i)) 8 < lw) then (nI i, cntR (bt (nI i)) 8) else (b, lw) := by
            show (if (!offG s n f (nI c) (nI i)) = true ∧ ((bestD (fun m => !offG s n f (nI c) (nI m)) (fun m => cntR (bt (nI m)) 8) i).1 < 0 ∨ cntR (bt (nI i)) 8 < (bestD (fun m => !offG s n f (nI c) (nI m)) (fun m => cntR (bt (nI m)) 8) i).2) then (nI i, cntR (bt (nI i)) 8) else bestD (fun m => !offG s n f (nI c) (nI m)) (fun m => cntR (bt (nI m)) 8) i) = _
            rw [hbl]
          rw [nI_leI (by omega) (by omega)] at h35
          first
            | (rw [if_pos (show (!offG s n f (nI c) (nI i)) = true ∧ (b < 0 ∨ cntR (bt (nI i)) 8 < lw) from ⟨by rw [show offG s n f (nI c) (nI i) = false from h46]; rfl, Or.inr (by omega)⟩)] at e; exact ih _ _ ⟨⟨R2, (F2 57 (by decide)).trans o1, fun j hj => (F2 j (by omega)).trans (F j hj)⟩, _, _, e, Or.inr ⟨i, by omega, rfl, rfl⟩, rfl⟩)
            | (rw [if_neg (show ¬ ((!offG s n f (nI c) (nI i)) = true ∧ (b < 0 ∨ cntR (bt (nI i)) 8 < lw)) from fun q => absurd q.1 (by rw [show offG s n f (nI c) (nI i) = true from h46]; decide))] at e; exact ih _ _ ⟨⟨R2, (F2 57 (by decide)).trans o1, fun j hj => (F2 j (by omega)).trans (F j hj)⟩, b, lw, e, hbk.imp id (fun ⟨k, a1, a2⟩ => ⟨k, by omega, a2⟩), rfl⟩)
  · obtain ⟨⟨R1, o1, F⟩, b, lw, hbl, hbk, rfl⟩ := hJ
    obtain ⟨vs, b54, bv, bs55, -⟩ := R1.ms
    have hB : needB s n f (nI c) = (b, lw) := hbl
    have hpw := pw_n n hn
    rw [hB]
    refine h_s rfl ?_
    refine h_k (y := 1) rfl rfl ?_
    refine h_s rfl ?_
    refine h_gf rfl rfl rfl b54 bv ?_
    refine h_k (y := 0) rfl rfl ?_
    refine h_ia 0 rfl bs55 (by omega) rfl (by omega) ?_
    refine h_t h0 ?_
    refine h_s rfl ?_
    refine h_t (sh_n n hn) ?_
    refine h2_ge rfl rfl (fun h19 => ?_) (fun h19 => absurd (nI_le (Nat.le_refl _) (by omega)) h19)
    refine h_s rfl ?_
    exact h_ri rfl rfl ⟨rfl, R1, F⟩
end MI
end
section
/-! THE REFERENCE: needs, law; ring; seeds and shifts -/
theorem neg_of {x : Int32} (h : ¬ 0 ≤ x) : x < 0 := by
  rw [lt_iff]
  rw [le_iff] at h
  have : (0 : Int32).toInt = 0 := rfl
  omega
theorem neg_n {x : Int32} (h : 0 ≤ x) : ¬ x < 0 := by
  rw [lt_iff]
  rw [le_iff] at h
  have : (0 : Int32).toInt = 0 := rfl
  omega
section MJ
variable {X : List Int32} {w : ab_W} {s : List Int32} {n : Nat} {st ks : List Int32} {kp : Bool} {tp : List Int32} {tn : Nat} {bo so nu : List Int32}
set_option maxRecDepth 100000 in
set_option maxHeartbeats 4000000 in
theorem m_needs_k (R : MW w s n st ks kp tp tn bo so nu) (I : SI s n) (f c : Nat) (hf : f < n) (hc : c < 24) (B : Int32) (hB : (needB s n f (nI c)).1 = B) : ab_Q X kX6_needs [.ref 54, .int (nI f), .int (nI c)] w (fun v w1 => if B < 0 then MP w (-1000004) s n (bump st 3) ks kp tp tn bo so nu v w1 else MP w B s n st ks kp tp tn bo so nu v w1) := by
  have M := R.ms
  have R0 := R
  obtain ⟨oth, nz, mv, fr, to, vl, wr, a54, a55, a56, a57, a58, a59, a60, a61, a62, a63, a64, l, h0, hn, ht⟩ := R
  show ab_H X kX6_needs 0 [some (.ref 54), some (.int (nI f)), some (.int (nI c)), none] [] w _
  iterate 3 refine h_s rfl ?_
  refine h_cv rfl rfl rfl a54 rfl rfl (m_isAsk1 M ⟨f, by omega, rfl⟩ ⟨c, by omega, rfl⟩) ?_
  refine h_n (st2 := [_]) rfl ?_
  iterate 4 refine h_s rfl ?_
  refine hq_v rfl rfl rfl a54 rfl rfl (m_needed R0 I f c hf) (fun v1 w1 q1 => ?_)
  obtain ⟨rfl, R1, F⟩ := q1
  rw [hB]
  obtain ⟨vs, b54, -⟩ := R1.ms
  refine h_n (st2 := [_]) rfl ?_
  iterate 2 refine h_s rfl ?_
  refine h1_ge rfl rfl (fun h24 => ?_) (fun h24 => ?_)
  · refine h_s rfl ?_
    exact h_ri rfl rfl (by rw [if_neg (neg_n h24)]; exact ⟨rfl, R1, F⟩)
  · iterate 2 refine h_s rfl ?_
    refine hq_v rfl rfl rfl b54 rfl rfl (m_finds R1 3 (by omega) _ (by decide)) (fun v1 w1 q1 => ?_)
    obtain ⟨rfl, q2, q3⟩ := q1
    refine h_n (st2 := [_]) rfl ?_
    refine h_s rfl ?_
    exact h_ri rfl rfl (by rw [if_pos (neg_of h24)]; exact ⟨rfl, q2, fun i hi => (q3 i hi).trans (F i hi)⟩)
set_option maxRecDepth 100000 in
set_option maxHeartbeats 4000000 in
theorem m_law_k (R : MW w s n st ks kp tp tn bo so nu) (I : SI s n) (c : Nat) (hc : c < 24) (L : Option Nat) (hL : lawO s n (nI c) n = L) : ab_Q X kX6_law [.ref 54, .int (nI c)] w (fun v w1 => match L with
    | none => MP w (-1000004) s n (bump st 3) ks kp tp tn bo so nu v w1
    | some a => MP w (nI a) s n st ks kp tp tn bo so nu v w1) := by
  have M := R.ms
  have R0 := R
  obtain ⟨oth, nz, mv, fr, to, vl, wr, a54, a55, a56, a57, a58, a59, a60, a61, a62, a63, a64, l, h0, hn, ht⟩ := R
  show ab_H X kX6_law 0 [some (.ref 54), some (.int (nI c)), none, none, none] [] w _
  refine h_s rfl ?_
  refine h_c rfl (m_isClock1 ⟨c, by omega, rfl⟩) ?_
  refine h_n (st2 := [_]) rfl ?_
  refine h_s rfl ?_
  refine h_k (y := 0) rfl rfl ?_
  refine h_s rfl ?_
  refine h_k (y := 0) rfl rfl ?_
  refine h_s rfl ?_
  refine h_loop0 n (fun i ls w1 => (MW w1 s n st ks kp tp tn bo so nu ∧ ∀ j, j < 54 → w1[j]? = w[j]?) ∧ ∃ x y, ((x = -1 ∧ lawO s n (nI c) i = none) ∨ ∃ a, x = nI a ∧ lawO s n (nI c) i = some a ∧ a ≤ 8 * i) ∧ ls = [some (.ref 54), some (.int (nI c)), some (.int x), some (.int (nI i)), y]) ⟨⟨R0, fun j hj => rfl⟩, 0, none, Or.inr ⟨0, rfl, rfl, by omega⟩, rfl⟩ (fun i ls w1 hi hJ ih => ?_) (fun ls w1 hJ => ?_)
  · obtain ⟨⟨R1, F⟩, x, y, hx, rfl⟩ := hJ
    have R10 := R1
    obtain ⟨vs, b54, bv, bs55, -⟩ := R1.ms
    rcases hx with ⟨rfl, hn0⟩ | ⟨a, rfl, ha, ha8⟩
    · have hN : L = none := by have q := lawO_none hn0 (n - i); rw [show i + (n - i) = n by omega] at q; exact hL.symm.trans q
      subst hN
      iterate 2 refine h_s rfl ?_
      refine h_gf rfl rfl rfl b54 bv ?_
      refine h_k (y := 0) rfl rfl ?_
      refine h_ia 0 rfl bs55 (by omega) rfl (by omega) ?_
      refine h_t h0 ?_
      refine h2_ge rfl rfl (fun h25 => absurd h25 (nI_ge hi (by omega))) (fun h25 => ?_)
      iterate 6 refine h_s rfl ?_
      refine hq_v rfl rfl rfl b54 rfl rfl (m_finds R10 3 (by omega) _ (by decide)) (fun v1 w1 q1 => ?_)
      obtain ⟨rfl, q2, q3⟩ := q1
      refine h_n (st2 := [_]) rfl ?_
      refine h_s rfl ?_
      exact h_ri rfl rfl ⟨rfl, q2, fun i hi => (q3 i hi).trans (F i hi)⟩
    · obtain ⟨B, hB⟩ : ∃ B, (needB s n i (nI c)).1 = B := ⟨_, rfl⟩
      have hB2 : B = -1 ∨ ∃ k, k < 256 ∧ B = nI k := by
        rw [← hB]
        rcases bestD_ok (p := fun m => !offG s n i (nI c) (nI m)) (g := fun m => cntR (bt (nI m)) 8) (m := 2 ^ n) with h | ⟨k, h1, h2, -⟩
        · exact Or.inl h
        · have := pw_n n hn
          exact Or.inr ⟨k, by omega, h2⟩
      have c1 := cntR_le (bt B) 8
      iterate 2 refine h_s rfl ?_
      refine h_gf rfl rfl rfl b54 bv ?_
      refine h_k (y := 0) rfl rfl ?_
      refine h_ia 0 rfl bs55 (by omega) rfl (by omega) ?_
      refine h_t h0 ?_
      refine h2_ge rfl rfl (fun h25 => absurd h25 (nI_ge hi (by omega))) (fun h25 => ?_)
      refine h_s rfl ?_
      refine h1_lt rfl rfl (fun h29 => absurd h29 (nI_pos (by omega))) (fun h29 => ?_)
      iterate 3 refine h_s rfl ?_
      refine hq_v rfl rfl rfl b54 rfl rfl (m_needed R10 I i c hi) (fun v2 w2 q2 => ?_)
      obtain ⟨rfl, R2, F2'⟩ := q2
      have F2 : ∀ j, j < 54 → w2[j]? = w[j]? := fun j hj => (F2' j hj).trans (F j hj)
      rw [hB]
      refine h_n (st2 := [_]) rfl ?_
      iterate 2 refine h_s rfl ?_
      refine h1_ge rfl rfl (fun h42 => ?_) (fun h42 => ?_)
      · iterate 2 refine h_s rfl ?_
        have hk : ∃ k, k < 256 ∧ B = nI k := hB2.resolve_left (fun q => by rw [q] at h42; exact absurd h42 (by decide))
        obtain ⟨k, hk1, hk2⟩ := hk
        refine h_c rfl (show ab_M X kX6_ones [.int B] w2 (some (.int (nI (cntR (bt B) 8)))) w2 by rw [hk2]; exact m_ones k hk1) ?_
        refine h_n (st2 := [_, _]) rfl ?_
        iterate 2 refine h_s rfl ?_
        refine h_ii rfl rfl rfl ?_
        refine h_s rfl ?_
        first
          | (have e : lawO s n (nI c) (i + 1) = none := by rw [lawO, ha]; dsimp only; rw [hB, if_pos (neg_of h42)]
             exact ih _ _ ⟨⟨R2, F2⟩, -1, _, Or.inl ⟨rfl, e⟩, rfl⟩)
          | (have e : lawO s n (nI c) (i + 1) = some (a + cntR (bt B) 8) := by rw [lawO, ha]; dsimp only; rw [hB, if_neg (neg_n h42)]
             exact ih _ _ ⟨⟨R2, F2⟩, _, _, Or.inr ⟨_, rfl, e, by omega⟩, by rw [nI_add]; rfl⟩)
      · refine h_k (y := (-1)) rfl rfl ?_
        iterate 2 refine h_s rfl ?_
        refine h_ii rfl rfl rfl ?_
        refine h_s rfl ?_
        first
          | (have e : lawO s n (nI c) (i + 1) = none := by rw [lawO, ha]; dsimp only; rw [hB, if_pos (neg_of h42)]
             exact ih _ _ ⟨⟨R2, F2⟩, -1, _, Or.inl ⟨rfl, e⟩, rfl⟩)
          | (have e : lawO s n (nI c) (i + 1) = some (a + cntR (bt B) 8) := by rw [lawO, ha]; dsimp only; rw [hB, if_neg (neg_n h42)]
             exact ih _ _ ⟨⟨R2, F2⟩, _, _, Or.inr ⟨_, rfl, e, by omega⟩, by rw [nI_add]; rfl⟩)
  · obtain ⟨⟨R1, F⟩, x, y, hx, rfl⟩ := hJ
    have R10 := R1
    obtain ⟨vs, b54, bv, bs55, -⟩ := R1.ms
    rcases hx with ⟨rfl, hn0⟩ | ⟨a, rfl, ha, ha8⟩
    · rw [hn0] at hL
      subst hL
      iterate 2 refine h_s rfl ?_
      refine h_gf rfl rfl rfl b54 bv ?_
      refine h_k (y := 0) rfl rfl ?_
      refine h_ia 0 rfl bs55 (by omega) rfl (by omega) ?_
      refine h_t h0 ?_
      refine h2_ge rfl rfl (fun h25 => ?_) (fun h25 => absurd (nI_le (Nat.le_refl _) (by omega)) h25)
      iterate 4 refine h_s rfl ?_
      refine hq_v rfl rfl rfl b54 rfl rfl (m_finds R10 3 (by omega) _ (by decide)) (fun v1 w1 q1 => ?_)
      obtain ⟨rfl, q2, q3⟩ := q1
      refine h_n (st2 := [_]) rfl ?_
      refine h_s rfl ?_
      exact h_ri rfl rfl ⟨rfl, q2, fun i hi => (q3 i hi).trans (F i hi)⟩
    · rw [ha] at hL
      subst hL
      iterate 2 refine h_s rfl ?_
      refine h_gf rfl rfl rfl b54 bv ?_
      refine h_k (y := 0) rfl rfl ?_
      refine h_ia 0 rfl bs55 (by omega) rfl (by omega) ?_
      refine h_t h0 ?_
      refine h2_ge rfl rfl (fun h25 => ?_) (fun h25 => absurd (nI_le (Nat.le_refl _) (by omega)) h25)
      refine h_s rfl ?_
      refine h1_ge rfl rfl (fun h64 => ?_) (fun h64 => absurd (nI_pos' (by omega)) h64)
      refine h_s rfl ?_
      exact h_ri rfl rfl ⟨rfl, R1, F⟩
end MJ
end
section
/-! THE REFERENCE: shift, gossip -/
section RD
variable {X : List Int32} {k pc n : Nat} {ls : List (Option Value)} {st : List Value} {w w2 : ab_W} {v : Option Value} {Q : Option Value → ab_W → Prop}
theorem ab_rem {x y z : Int32} (h : ab_lk (it_ (ab_mi k)) pc = some (.irem, n)) (hy : ¬ y = 0) (e : x - x / y * y = z) (t : ab_G X k (pc + 1) ls (.int z :: st) w v w2) : ab_G X k pc ls (.int y :: .int x :: st) w v w2 := by
  subst e
  refine ab_s ?_ t
  rw [ab_stp_of h]
  show (match decide (y = 0) with | true => none | false => ab_nx (pc + 1) ls (.int (x - x / y * y) :: st) w) = _
  rw [decide_eq_false hy]
  rfl
theorem h_rem {x y z : Int32} (h : ab_lk (it_ (ab_mi k)) pc = some (.irem, n)) (hy : ¬ y = 0) (e : x - x / y * y = z) (t : ab_H X k (pc + 1) ls (.int z :: st) w Q) : ab_H X k pc ls (.int y :: .int x :: st) w Q := by
  obtain ⟨v, w2, h1, h2⟩ := t
  exact ⟨v, w2, ab_rem h hy e h1, h2⟩
theorem ab_div {x y z : Int32} (h : ab_lk (it_ (ab_mi k)) pc = some (.idiv, n)) (hy : ¬ y = 0) (e : x / y = z) (t : ab_G X k (pc + 1) ls (.int z :: st) w v w2) : ab_G X k pc ls (.int y :: .int x :: st) w v w2 := by
  subst e
  refine ab_s ?_ t
  rw [ab_stp_of h]
  show (match decide (y = 0) with | true => none | false => ab_nx (pc + 1) ls (.int (x / y) :: st) w) = _
  rw [decide_eq_false hy]
  rfl
theorem h_div {x y z : Int32} (h : ab_lk (it_ (ab_mi k)) pc = some (.idiv, n)) (hy : ¬ y = 0) (e : x / y = z) (t : ab_H X k (pc + 1) ls (.int z :: st) w Q) : ab_H X k pc ls (.int y :: .int x :: st) w Q := by
  obtain ⟨v, w2, h1, h2⟩ := t
  exact ⟨v, w2, ab_div h hy e h1, h2⟩
end RD
def shiftS (s : List Int32) (n : Nat) : Nat → List Int32
  | 0 => s
  | i + 1 => (shiftS s n i).set (2 + 8 * i + 7) (nI ((bedN s i + 1) % n))
theorem shift_l (s : List Int32) (n : Nat) : ∀ i, (shiftS s n i).length = s.length
  | 0 => rfl
  | i + 1 => by rw [shiftS, List.length_set]; exact shift_l s n i
theorem shift_D (s : List Int32) (n : Nat) {j : Nat} : ∀ i, (∀ h, h < i → j ≠ 2 + 8 * h + 7) → (shiftS s n i).getD j 0 = s.getD j 0
  | 0, _ => rfl
  | i + 1, h => by
    rw [shiftS, gD_ne (fun e => h i (by omega) e.symm)]
    exact shift_D s n i (fun h' hh' => h h' (by omega))
theorem shift_SI {s : List Int32} {n : Nat} (I : SI s n) (hl : s.length = 90) (hn : n ≤ 8) : ∀ i, i ≤ n → SI (shiftS s n i) n
  | 0, _ => I
  | i + 1, h => SI_bed (shift_SI I hl hn i (by omega)) ((shift_l s n i).trans hl) (by omega) ⟨_, Nat.mod_lt _ (by omega), rfl⟩
section MK
variable {X : List Int32} {w : ab_W} {s : List Int32} {n : Nat} {st ks : List Int32} {kp : Bool} {tp : List Int32} {tn : Nat} {bo so nu : List Int32}
set_option maxRecDepth 100000 in
set_option maxHeartbeats 4000000 in
theorem m_shift_k (R : MW w s n st ks kp tp tn bo so nu) (I : SI s n) : ab_Q X kX6_shift [.ref 54] w (MP w (nI (offN (shiftS s n n) n 20)) (shiftS s n n) n st ks kp tp tn bo so nu) := by
  have M := R.ms
  have R0 := R
  obtain ⟨oth, nz, mv, fr, to, vl, wr, a54, a55, a56, a57, a58, a59, a60, a61, a62, a63, a64, l, h0, hn, ht⟩ := R
  show ab_H X kX6_shift 0 [some (.ref 54), none] [] w _
  refine h_k (y := 0) rfl rfl ?_
  refine h_s rfl ?_
  refine h_loop0 n (fun i ls w1 => (∀ j, j ≠ 55 → w1[j]? = w[j]?) ∧ w1[55]? = some (.inr (shiftS s n i)) ∧ ls = [some (.ref 54), some (.int (nI i))]) ⟨fun _ _ => rfl, a55, rfl⟩ (fun i ls w1 hi hJ ih => ?_) (fun ls w1 hJ => ?_)
  · obtain ⟨F, b55, rfl⟩ := hJ
    have b54 := (F 54 (by decide)).trans a54
    have gl : (shiftS s n i).length = 90 := (shift_l ..).trans l.1
    have g0 : (shiftS s n i).getD 0 0 = nI n := (shift_D _ _ _ (fun h _ => by omega)).trans h0
    have M1 := (R0.s55 b55 gl g0 hn F).ms
    obtain ⟨hb1, hb2⟩ := bedN_e I hn hi
    have g7 : fld (shiftS s n i) i 7 = nI (bedN s i) := (shift_D _ _ _ (fun h hh => by omega)).trans hb1
    iterate 2 refine h_s rfl ?_
    refine h_gf rfl rfl rfl b54 rfl ?_
    refine h_k (y := 0) rfl rfl ?_
    refine h_ia 0 rfl b55 (by omega) rfl (by omega) ?_
    refine h_t g0 ?_
    refine h2_ge rfl rfl (fun h9 => absurd h9 (nI_ge hi (by omega))) (fun h9 => ?_)
    refine h_s rfl ?_
    refine h_gf rfl rfl rfl b54 rfl ?_
    refine h_s rfl ?_
    refine h_k (y := 7) rfl rfl ?_
    refine h_c rfl (m_at i 7 rfl rfl) ?_
    refine h_n (st2 := [_, _]) rfl ?_
    iterate 2 refine h_s rfl ?_
    refine h_k (y := 7) rfl rfl ?_
    refine h_cv rfl rfl rfl b54 rfl rfl (m_its M1 i 7 (by omega) (by omega) rfl rfl) ?_
    refine h_t g7 ?_
    refine h_n (st2 := [_, _, _]) rfl ?_
    refine h_k (y := 1) rfl rfl ?_
    refine h_s rfl ?_
    refine h_t (nI_1 (bedN s i)) ?_
    refine h_s rfl ?_
    refine h_gf rfl rfl rfl b54 rfl ?_
    refine h_k (y := 0) rfl rfl ?_
    refine h_ia 0 rfl b55 (by omega) rfl (by omega) ?_
    refine h_t g0 ?_
    refine h_rem rfl (nI_ne0 (by omega) (by omega)) (pk_rem (a := bedN s i + 1) (d := n) (by omega) (by omega) (by omega)) ?_
    refine h_is (2 + 8 * i + 7) rfl b55 (by omega) rfl (by omega) (fun w2 e2 f2 => ?_)
    refine h_ii rfl rfl rfl ?_
    refine h_s rfl ?_
    exact ih _ _ ⟨fun j hj => (f2 j hj).trans (F j hj), e2, rfl⟩
  · obtain ⟨F, b55, rfl⟩ := hJ
    have b54 := (F 54 (by decide)).trans a54
    have gl : (shiftS s n n).length = 90 := (shift_l ..).trans l.1
    have g0 : (shiftS s n n).getD 0 0 = nI n := (shift_D _ _ _ (fun h _ => by omega)).trans h0
    have R1 := R0.s55 b55 gl g0 hn F
    have I1 := shift_SI I l.1 hn n (Nat.le_refl _)
    iterate 2 refine h_s rfl ?_
    refine h_gf rfl rfl rfl b54 rfl ?_
    refine h_k (y := 0) rfl rfl ?_
    refine h_ia 0 rfl b55 (by omega) rfl (by omega) ?_
    refine h_t g0 ?_
    refine h2_ge rfl rfl (fun h9 => ?_) (fun h9 => absurd (nI_le (Nat.le_refl _) (by omega)) h9)
    refine h_s rfl ?_
    refine h_k (y := 20) rfl rfl ?_
    refine h_cv rfl rfl rfl b54 rfl rfl (m_offSet R1.ms I1 20) ?_
    refine h_n (st2 := [_]) rfl ?_
    refine h_c rfl (m_onesO (shiftS s n n) 20 hn) ?_
    refine h_n (st2 := [_]) rfl ?_
    exact h_ri rfl rfl ⟨rfl, R1, fun i hi => F i (by omega)⟩
set_option maxRecDepth 100000 in
set_option maxHeartbeats 4000000 in
theorem m_wipe_k (R : MW w s n st ks kp tp tn bo so nu)  : ab_Q X kX6_wipe [.ref 54] w (MP w (nI tn) s n st ks kp tp 0 bo so nu) := by
  have M := R.ms
  have R0 := R
  obtain ⟨oth, nz, mv, fr, to, vl, wr, a54, a55, a56, a57, a58, a59, a60, a61, a62, a63, a64, l, h0, hn, ht⟩ := R
  show ab_H X kX6_wipe 0 [some (.ref 54), none] [] w _
  refine h_s rfl ?_
  refine h_gf rfl rfl rfl a54 rfl ?_
  iterate 2 refine h_s rfl ?_
  refine h_k (y := 0) rfl rfl ?_
  refine h_pf rfl rfl a54 rfl (fun w3 e3 f3 => ?_)
  refine h_s rfl ?_
  exact h_ri rfl rfl ⟨rfl, R0.o54 kp 0 fr to vl wr (by omega) e3 f3, fun i hi => f3 i (by omega)⟩
end MK
end
section
/-! THE REFERENCE: sheets -/
def bitOK (b : Int32) : Bool := decide (b = 0) || decide (b = 8) || decide (b = 16) || decide (b = 32)
def zeroN (nu : List Int32) (k : Nat) : Nat → List Int32
  | 0 => nu
  | i + 1 => (zeroN nu k i).set (40 * k + i) 0
theorem zero_l (nu : List Int32) (k : Nat) : ∀ i, (zeroN nu k i).length = nu.length
  | 0 => rfl
  | i + 1 => by rw [zeroN, List.length_set]; exact zero_l nu k i
def narI (b v : Int32) : Int32 := if b = 8 then v.toInt8.toInt32 else if b = 16 then v.toInt16.toInt32 else v
theorem pos_40 {c : Int32} (h : 40 < c) : 0 ≤ c := by
  rw [lt_iff] at h
  rw [le_iff]
  have e1 : (40 : Int32).toInt = 40 := rfl
  have e2 : (0 : Int32).toInt = 0 := rfl
  omega
theorem not_le40 {c : Int32} (h : 40 < c) : ¬ c ≤ 40 := by
  rw [lt_iff] at h
  rw [le_iff]
  omega
section ML
variable {X : List Int32} {w : ab_W} {s : List Int32} {n : Nat} {st ks : List Int32} {kp : Bool} {tp : List Int32} {tn : Nat} {bo so nu : List Int32}
theorem MW.sh (R : MW w s n st ks kp tp tn bo so nu) {w1 : ab_W} {b1 s1 u1 m1 : List Int32} (h1 : w1[61]? = some (.inr b1)) (h2 : w1[62]? = some (.inr s1)) (h3 : w1[63]? = some (.inr u1)) (h4 : w1[64]? = some (.inr m1)) (l1 : b1.length = 4) (l2 : s1.length = 4) (l3 : u1.length = 160) (l4 : m1.length = 40) (hf : ∀ i, i < 61 → w1[i]? = w[i]?) : MW w1 s n st ks kp tp tn b1 s1 u1 := by
  obtain ⟨oth, nz, mv, fr, to, vl, wr, a54, a55, a56, a57, a58, a59, a60, a61, a62, a63, a64, l, h0, hn, ht⟩ := R
  exact ⟨oth, nz, m1, fr, to, vl, wr, by rw [hf _ (by decide)]; exact a54, by rw [hf _ (by decide)]; exact a55, by rw [hf _ (by decide)]; exact a56, by rw [hf _ (by decide)]; exact a57, by rw [hf _ (by decide)]; exact a58, by rw [hf _ (by decide)]; exact a59, by rw [hf _ (by decide)]; exact a60, h1, h2, h3, h4, ⟨l.1, l.2.1, l.2.2.1, l.2.2.2.1, l.2.2.2.2.1, l.2.2.2.2.2.1, l1, l2, l3, l4⟩, h0, hn, ht⟩
set_option maxRecDepth 100000 in
set_option maxHeartbeats 4000000 in
theorem m_isOne (x : Int32) : ab_M X kX6_isOne [.int x] w (some (.int (z01 (inN x 4)))) w := by
  show ab_G X kX6_isOne 0 [some (.int x)] [] w _ _
  iterate 4 refine ab_s rfl ?_
  refine ab_c rfl (m_inZ (m := 4) _ rfl rfl) ?_
  refine ab_n (st2 := [_]) rfl ?_
  exact ab_rz rfl rfl rfl
set_option maxRecDepth 100000 in
set_option maxHeartbeats 4000000 in
theorem m_sheet_b (R : MW w s n st ks kp tp tn bo so nu) (a b c : Int32) (hb : (inN a 4 && bitOK b) = false)  : ab_Q X kX6_sheet [.ref 54, .int a, .int b, .int c] w (MP w (-1000001) s n (bump st 0) ks kp tp tn bo so nu) := by
  have M := R.ms
  have R0 := R
  obtain ⟨oth, nz, mv, fr, to, vl, wr, a54, a55, a56, a57, a58, a59, a60, a61, a62, a63, a64, l, h0, hn, ht⟩ := R
  show ab_H X kX6_sheet 0 [some (.ref 54), some (.int a), some (.int b), some (.int c), none] [] w _
  refine h_s rfl ?_
  refine h_c rfl (m_isOne _) ?_
  refine h_n (st2 := [_]) rfl ?_
  refine hz_eq rfl rfl (fun h4 => ?_) (fun h4 => ?_)
  · iterate 2 refine h_s rfl ?_
    refine hq_v rfl rfl rfl a54 rfl rfl (m_finds R0 0 (by omega) _ (by decide)) (fun v1 w1 q1 => ?_)
    obtain ⟨rfl, q2, q3⟩ := q1
    refine h_n (st2 := [_]) rfl ?_
    exact h_ri rfl rfl ⟨rfl, q2, q3⟩
  · refine h_s rfl ?_
    refine h1_eq rfl rfl (fun h8 => ?_) (fun h8 => ?_)
    · exact absurd hb (by simp [bitOK, h4, h8])
    · refine h_s rfl ?_
      refine h_k (y := 8) rfl rfl ?_
      refine h2_eq rfl rfl (fun h14 => ?_) (fun h14 => ?_)
      · exact absurd hb (by simp [bitOK, h4, h8, h14])
      · refine h_s rfl ?_
        refine h_k (y := 16) rfl rfl ?_
        refine h2_eq rfl rfl (fun h20 => ?_) (fun h20 => ?_)
        · exact absurd hb (by simp [bitOK, h4, h8, h14, h20])
        · refine h_s rfl ?_
          refine h_k (y := 32) rfl rfl ?_
          refine h2_eq rfl rfl (fun h26 => ?_) (fun h26 => ?_)
          · exact absurd hb (by simp [bitOK, h4, h8, h14, h20, h26])
          · iterate 2 refine h_s rfl ?_
            refine hq_v rfl rfl rfl a54 rfl rfl (m_finds R0 0 (by omega) _ (by decide)) (fun v1 w1 q1 => ?_)
            obtain ⟨rfl, q2, q3⟩ := q1
            refine h_n (st2 := [_]) rfl ?_
            exact h_ri rfl rfl ⟨rfl, q2, q3⟩
set_option maxRecDepth 100000 in
set_option maxHeartbeats 4000000 in
theorem m_sh36s (R : MW w s n st ks kp tp tn bo so nu) (k : Nat) (b c : Int32) (hk : k < 4) (hc : c < 0) : ab_H X kX6_sheet 36 [some (.ref 54), some (.int (nI k)), some (.int b), some (.int c), none] [] w (MP w (-1000007) s n (bump st 6) ks kp tp tn bo so nu) := by
  have M := R.ms
  have R0 := R
  obtain ⟨oth, nz, mv, fr, to, vl, wr, a54, a55, a56, a57, a58, a59, a60, a61, a62, a63, a64, l, h0, hn, ht⟩ := R
  refine h_s rfl ?_
  refine h1_ge rfl rfl (fun h37 => absurd hc (neg_n h37)) (fun h37 => ?_)
  iterate 2 refine h_s rfl ?_
  refine hq_v rfl rfl rfl a54 rfl rfl (m_finds R0 6 (by omega) _ (by decide)) (fun v1 w1 q1 => ?_)
  obtain ⟨rfl, q2, q3⟩ := q1
  refine h_n (st2 := [_]) rfl ?_
  exact h_ri rfl rfl ⟨rfl, q2, q3⟩
set_option maxRecDepth 100000 in
set_option maxHeartbeats 4000000 in
theorem m_sh36m (R : MW w s n st ks kp tp tn bo so nu) (k : Nat) (b c : Int32) (hk : k < 4) (hc : 40 < c) : ab_H X kX6_sheet 36 [some (.ref 54), some (.int (nI k)), some (.int b), some (.int c), none] [] w (MP w (-1000001) s n (bump st 0) ks kp tp tn bo so nu) := by
  have M := R.ms
  have R0 := R
  obtain ⟨oth, nz, mv, fr, to, vl, wr, a54, a55, a56, a57, a58, a59, a60, a61, a62, a63, a64, l, h0, hn, ht⟩ := R
  refine h_s rfl ?_
  refine h1_ge rfl rfl (fun h37 => ?_) (fun h37 => absurd (pos_40 hc) h37)
  refine h_s rfl ?_
  refine h_k (y := 40) rfl rfl ?_
  refine h2_le rfl rfl (fun h51 => absurd h51 (not_le40 hc)) (fun h51 => ?_)
  iterate 2 refine h_s rfl ?_
  refine hq_v rfl rfl rfl a54 rfl rfl (m_finds R0 0 (by omega) _ (by decide)) (fun v1 w1 q1 => ?_)
  obtain ⟨rfl, q2, q3⟩ := q1
  refine h_n (st2 := [_]) rfl ?_
  exact h_ri rfl rfl ⟨rfl, q2, q3⟩
set_option maxRecDepth 100000 in
set_option maxHeartbeats 4000000 in
theorem m_sh36k (R : MW w s n st ks kp tp tn bo so nu) (k m : Nat) (b : Int32) (hk : k < 4) (hm : m ≤ 40) : ab_H X kX6_sheet 36 [some (.ref 54), some (.int (nI k)), some (.int b), some (.int (nI m)), none] [] w (MP w (if b = 0 then 0 else nI m) s n st ks kp tp tn (bo.set k b) (so.set k (if b = 0 then 0 else nI m)) (zeroN nu k 40)) := by
  have M := R.ms
  have R0 := R
  obtain ⟨oth, nz, mv, fr, to, vl, wr, a54, a55, a56, a57, a58, a59, a60, a61, a62, a63, a64, l, h0, hn, ht⟩ := R
  have go : ∀ w2 : ab_W, (∀ i, i < 61 → w2[i]? = w[i]?) → w2[54]? = some (.inl (6, mObj kp tn fr to vl wr)) → w2[61]? = some (.inr (bo.set k b)) → w2[62]? = some (.inr (so.set k (if b = 0 then 0 else nI m))) → w2[63]? = some (.inr nu) → w2[64]? = some (.inr mv) → ab_H X kX6_sheet 86 [some (.ref 54), some (.int (nI k)), some (.int b), some (.int (nI m)), some (.int 0)] [] w2 (MP w (if b = 0 then 0 else nI m) s n st ks kp tp tn (bo.set k b) (so.set k (if b = 0 then 0 else nI m)) (zeroN nu k 40)) := by
    intro w2 F b54 b61 b62 b63 b64
    refine h_loop0 40 (fun i ls w3 => (∀ j, j ≠ 63 → w3[j]? = w2[j]?) ∧ w3[63]? = some (.inr (zeroN nu k i)) ∧ ls = [some (.ref 54), some (.int (nI k)), some (.int b), some (.int (nI m)), some (.int (nI i))]) ⟨fun _ _ => rfl, b63, rfl⟩ (fun i ls w3 hi hJ ih => ?_) (fun ls w3 hJ => ?_)
    · obtain ⟨F3, c63, rfl⟩ := hJ
      have c54 := (F3 54 (by decide)).trans b54
      have zl := (zero_l nu k i).trans l.2.2.2.2.2.2.2.2.1
      refine h_s rfl ?_
      refine h_k (y := 40) rfl rfl ?_
      refine h2_ge rfl rfl (fun h90 => absurd h90 (nI_ge (b := 40) hi (by omega))) (fun h90 => ?_)
      refine h_s rfl ?_
      refine h_gf rfl rfl rfl c54 rfl ?_
      refine h_k (y := 40) rfl rfl ?_
      refine h_s rfl ?_
      refine h_s rfl ?_
      refine h_t (pk_mul 40 k) ?_
      refine h_s rfl ?_
      refine h_s rfl ?_
      refine h_t (nI_add (40 * k) i) ?_
      refine h_k (y := 0) rfl rfl ?_
      refine h_is (40 * k + i) rfl c63 (by omega) rfl (by omega) (fun w4 e4 f4 => ?_)
      refine h_ii rfl rfl rfl ?_
      refine h_s rfl ?_
      exact ih _ _ ⟨fun j hj => (f4 j hj).trans (F3 j hj), e4, rfl⟩
    · obtain ⟨F3, c63, rfl⟩ := hJ
      have c54 := (F3 54 (by decide)).trans b54
      have c62 := (F3 62 (by decide)).trans b62
      refine h_s rfl ?_
      refine h_k (y := 40) rfl rfl ?_
      refine h2_ge rfl rfl (fun h90 => ?_) (fun h90 => absurd (nI_le (a := 40) (b := 40) (Nat.le_refl _) (by omega)) h90)
      refine h_s rfl ?_
      refine h_gf rfl rfl rfl c54 rfl ?_
      refine h_s rfl ?_
      refine h_ia k rfl c62 (by rw [List.length_set]; omega) rfl (by rw [List.length_set]; omega) ?_
      refine h_t (gD_eq (by omega)) ?_
      exact h_ri rfl rfl ⟨rfl, R0.sh ((F3 61 (by decide)).trans b61) c62 c63 ((F3 64 (by decide)).trans b64) ((List.length_set ..).trans l.2.2.2.2.2.2.1) ((List.length_set ..).trans l.2.2.2.2.2.2.2.1) ((zero_l nu k 40).trans l.2.2.2.2.2.2.2.2.1) l.2.2.2.2.2.2.2.2.2 (fun i hi => (F3 i (by omega)).trans (F i hi)), fun i hi => (F3 i (by omega)).trans (F i (by omega))⟩
  refine h_s rfl ?_
  refine h1_ge rfl rfl (fun h37 => ?_) (fun h37 => absurd (nI_pos' (by omega)) h37)
  refine h_s rfl ?_
  refine h_k (y := 40) rfl rfl ?_
  refine h2_le rfl rfl (fun h51 => ?_) (fun h51 => absurd (nI_le (a := m) (b := 40) hm (by omega)) h51)
  refine h_s rfl ?_
  refine h_gf rfl rfl rfl a54 rfl ?_
  iterate 2 refine h_s rfl ?_
  refine h_is k rfl a61 (by omega) rfl (by omega) (fun w1 e1 f1 => ?_)
  have a54 := (f1 54 (by decide)).trans a54
  have a62 := (f1 62 (by decide)).trans a62
  have a63 := (f1 63 (by decide)).trans a63
  have a64 := (f1 64 (by decide)).trans a64
  refine h_s rfl ?_
  refine h_gf rfl rfl rfl a54 rfl ?_
  iterate 2 refine h_s rfl ?_
  refine h1_ne rfl rfl (fun h74 => ?_) (fun h74 => ?_)
  · refine h_s rfl ?_
    refine h_is k rfl a62 (by omega) rfl (by omega) (fun w2 e2 f2 => ?_)
    refine h_k (y := 0) rfl rfl ?_
    refine h_s rfl ?_
    have c1 := (f2 61 (by decide)).trans e1
    refine go w2 ?_ ((f2 54 (by decide)).trans a54) c1 ?_ ((f2 63 (by decide)).trans a63) ((f2 64 (by decide)).trans a64)
    · exact fun i hi => (f2 i (by omega)).trans (f1 i (by omega))
    · first | (rw [if_pos h74]; exact e2) | (rw [if_neg h74]; exact e2)
  · refine h_k (y := 0) rfl rfl ?_
    refine h_s rfl ?_
    refine h_is k rfl a62 (by omega) rfl (by omega) (fun w2 e2 f2 => ?_)
    refine h_k (y := 0) rfl rfl ?_
    refine h_s rfl ?_
    have c1 := (f2 61 (by decide)).trans e1
    refine go w2 ?_ ((f2 54 (by decide)).trans a54) c1 ?_ ((f2 63 (by decide)).trans a63) ((f2 64 (by decide)).trans a64)
    · exact fun i hi => (f2 i (by omega)).trans (f1 i (by omega))
    · first | (rw [if_pos h74]; exact e2) | (rw [if_neg h74]; exact e2)
set_option maxRecDepth 100000 in
set_option maxHeartbeats 4000000 in
theorem m_sheet_s (R : MW w s n st ks kp tp tn bo so nu) (k : Nat) (b c : Int32) (hk : k < 4) (hb : bitOK b = true) (hc : c < 0) : ab_Q X kX6_sheet [.ref 54, .int (nI k), .int b, .int c] w (MP w (-1000007) s n (bump st 6) ks kp tp tn bo so nu) := by
  have M := R.ms
  have R0 := R
  obtain ⟨oth, nz, mv, fr, to, vl, wr, a54, a55, a56, a57, a58, a59, a60, a61, a62, a63, a64, l, h0, hn, ht⟩ := R
  show ab_H X kX6_sheet 0 [some (.ref 54), some (.int (nI k)), some (.int b), some (.int c), none] [] w _
  refine h_s rfl ?_
  refine h_c rfl (m_isOne _) ?_
  refine h_t (show z01 (inN (nI k) 4) = 1 by rw [inN_n (by omega) hk]; rfl) ?_
  refine h_n (st2 := [_]) rfl ?_
  iterate 2 refine h_s rfl ?_
  refine h1_eq rfl rfl (fun h8 => ?_) (fun h8 => ?_)
  · exact m_sh36s R0 k b c hk hc
  · refine h_s rfl ?_
    refine h_k (y := 8) rfl rfl ?_
    refine h2_eq rfl rfl (fun h14 => ?_) (fun h14 => ?_)
    · exact m_sh36s R0 k b c hk hc
    · refine h_s rfl ?_
      refine h_k (y := 16) rfl rfl ?_
      refine h2_eq rfl rfl (fun h20 => ?_) (fun h20 => ?_)
      · exact m_sh36s R0 k b c hk hc
      · refine h_s rfl ?_
        refine h_k (y := 32) rfl rfl ?_
        refine h2_eq rfl rfl (fun h26 => ?_) (fun h26 => ?_)
        · exact m_sh36s R0 k b c hk hc
        · exact absurd hb (by simp [bitOK, h8, h14, h20, h26])
set_option maxRecDepth 100000 in
set_option maxHeartbeats 4000000 in
theorem m_sheet_m (R : MW w s n st ks kp tp tn bo so nu) (k : Nat) (b c : Int32) (hk : k < 4) (hb : bitOK b = true) (hc : 40 < c) : ab_Q X kX6_sheet [.ref 54, .int (nI k), .int b, .int c] w (MP w (-1000001) s n (bump st 0) ks kp tp tn bo so nu) := by
  have M := R.ms
  have R0 := R
  obtain ⟨oth, nz, mv, fr, to, vl, wr, a54, a55, a56, a57, a58, a59, a60, a61, a62, a63, a64, l, h0, hn, ht⟩ := R
  show ab_H X kX6_sheet 0 [some (.ref 54), some (.int (nI k)), some (.int b), some (.int c), none] [] w _
  refine h_s rfl ?_
  refine h_c rfl (m_isOne _) ?_
  refine h_t (show z01 (inN (nI k) 4) = 1 by rw [inN_n (by omega) hk]; rfl) ?_
  refine h_n (st2 := [_]) rfl ?_
  iterate 2 refine h_s rfl ?_
  refine h1_eq rfl rfl (fun h8 => ?_) (fun h8 => ?_)
  · exact m_sh36m R0 k b c hk hc
  · refine h_s rfl ?_
    refine h_k (y := 8) rfl rfl ?_
    refine h2_eq rfl rfl (fun h14 => ?_) (fun h14 => ?_)
    · exact m_sh36m R0 k b c hk hc
    · refine h_s rfl ?_
      refine h_k (y := 16) rfl rfl ?_
      refine h2_eq rfl rfl (fun h20 => ?_) (fun h20 => ?_)
      · exact m_sh36m R0 k b c hk hc
      · refine h_s rfl ?_
        refine h_k (y := 32) rfl rfl ?_
        refine h2_eq rfl rfl (fun h26 => ?_) (fun h26 => ?_)
        · exact m_sh36m R0 k b c hk hc
        · exact absurd hb (by simp [bitOK, h8, h14, h20, h26])
set_option maxRecDepth 100000 in
set_option maxHeartbeats 4000000 in
theorem m_sheet_k (R : MW w s n st ks kp tp tn bo so nu) (k m : Nat) (b : Int32) (hk : k < 4) (hb : bitOK b = true) (hm : m ≤ 40) : ab_Q X kX6_sheet [.ref 54, .int (nI k), .int b, .int (nI m)] w (MP w (if b = 0 then 0 else nI m) s n st ks kp tp tn (bo.set k b) (so.set k (if b = 0 then 0 else nI m)) (zeroN nu k 40)) := by
  have M := R.ms
  have R0 := R
  obtain ⟨oth, nz, mv, fr, to, vl, wr, a54, a55, a56, a57, a58, a59, a60, a61, a62, a63, a64, l, h0, hn, ht⟩ := R
  show ab_H X kX6_sheet 0 [some (.ref 54), some (.int (nI k)), some (.int b), some (.int (nI m)), none] [] w _
  refine h_s rfl ?_
  refine h_c rfl (m_isOne _) ?_
  refine h_t (show z01 (inN (nI k) 4) = 1 by rw [inN_n (by omega) hk]; rfl) ?_
  refine h_n (st2 := [_]) rfl ?_
  iterate 2 refine h_s rfl ?_
  refine h1_eq rfl rfl (fun h8 => ?_) (fun h8 => ?_)
  · exact m_sh36k R0 k m b hk hm
  · refine h_s rfl ?_
    refine h_k (y := 8) rfl rfl ?_
    refine h2_eq rfl rfl (fun h14 => ?_) (fun h14 => ?_)
    · exact m_sh36k R0 k m b hk hm
    · refine h_s rfl ?_
      refine h_k (y := 16) rfl rfl ?_
      refine h2_eq rfl rfl (fun h20 => ?_) (fun h20 => ?_)
      · exact m_sh36k R0 k m b hk hm
      · refine h_s rfl ?_
        refine h_k (y := 32) rfl rfl ?_
        refine h2_eq rfl rfl (fun h26 => ?_) (fun h26 => ?_)
        · exact m_sh36k R0 k m b hk hm
        · exact absurd hb (by simp [bitOK, h8, h14, h20, h26])
end ML
end
section
/-! THE REFERENCE: write, load -/
theorem nsubN {z : Nat} (h : z < 2 ^ 30) : (nI z - 1).toInt64.toInt = (z : Int) - 1 := by
  rw [Int32.toInt_toInt64]
  match z, h with
  | 0, _ => decide
  | z + 1, h =>
    rw [nI_pred, nI_toInt (by omega)]
    omega
/-- the row after a load of i leaves -/
def loadS (s nu : List Int32) (k : Nat) : Nat → List Int32
  | 0 => s
  | i + 1 => (loadS s nu k i).set (2 + 8 * i + 2) (nu.getD (40 * k + i) 0 &&& 255)
theorem load_l (s nu : List Int32) (k : Nat) : ∀ i, (loadS s nu k i).length = s.length
  | 0 => rfl
  | i + 1 => by rw [loadS, List.length_set]; exact load_l s nu k i
theorem load_D (s nu : List Int32) (k : Nat) {j : Nat} : ∀ i, (∀ h, h < i → j ≠ 2 + 8 * h + 2) → (loadS s nu k i).getD j 0 = s.getD j 0
  | 0, _ => rfl
  | i + 1, h => by
    rw [loadS, gD_ne (fun e => h i (by omega) e.symm)]
    exact load_D s nu k i (fun h' hh' => h h' (by omega))
theorem inn_255 (x : Int32) : inn (x &&& 255) 8 := by
  intro i h1 h2
  rw [b_and, b_255, decide_eq_false (by omega), Bool.and_false]
theorem load_SI {s nu : List Int32} {n k : Nat} (I : SI s n) (hl : s.length = 90) (hn : n ≤ 8) : ∀ i, i ≤ n → SI (loadS s nu k i) n
  | 0, _ => I
  | i + 1, h => SI_leave (load_SI I hl hn i (by omega)) ((load_l s nu k i).trans hl) (by omega) (inn_255 _)
section MM
variable {X : List Int32} {w : ab_W} {s : List Int32} {n : Nat} {st ks : List Int32} {kp : Bool} {tp : List Int32} {tn : Nat} {bo so nu : List Int32}
set_option maxRecDepth 100000 in
set_option maxHeartbeats 4000000 in
theorem m_wrong_b (R : MW w s n st ks kp tp tn bo so nu) (a : Int32) (ha : inN a 4 = false) : ab_Q X kX6_wrong [.ref 54, .int a] w (fun v w1 => v = some (.int (-1000001)) ∧ w1 = w) := by
  have M := R.ms
  have R0 := R
  obtain ⟨oth, nz, mv, fr, to, vl, wr, a54, a55, a56, a57, a58, a59, a60, a61, a62, a63, a64, l, h0, hn, ht⟩ := R
  show ab_H X kX6_wrong 0 [some (.ref 54), some (.int a)] [] w _
  refine h_s rfl ?_
  refine h_c rfl (m_isOne a) ?_
  refine h_n (st2 := [_]) rfl ?_
  refine hz_ne rfl rfl (fun h4 => absurd h4 (by rw [ha]; decide)) (fun h4 => ?_)
  iterate 2 refine h_s rfl ?_
  exact h_ri rfl rfl ⟨rfl, rfl⟩
set_option maxRecDepth 100000 in
set_option maxHeartbeats 4000000 in
theorem m_wrong_m (R : MW w s n st ks kp tp tn bo so nu) (k : Nat) (hk : k < 4) (hb : bo.getD k 0 = 0) : ab_Q X kX6_wrong [.ref 54, .int (nI k)] w (fun v w1 => v = some (.int (-1000006)) ∧ w1 = w) := by
  have M := R.ms
  have R0 := R
  obtain ⟨oth, nz, mv, fr, to, vl, wr, a54, a55, a56, a57, a58, a59, a60, a61, a62, a63, a64, l, h0, hn, ht⟩ := R
  show ab_H X kX6_wrong 0 [some (.ref 54), some (.int (nI k))] [] w _
  refine h_s rfl ?_
  refine h_c rfl (m_isOne _) ?_
  refine h_t (show z01 (inN (nI k) 4) = 1 by rw [inN_n (by omega) hk]; rfl) ?_
  refine h_n (st2 := [_]) rfl ?_
  iterate 2 refine h_s rfl ?_
  refine h_gf rfl rfl rfl a54 rfl ?_
  refine h_s rfl ?_
  refine h_ia k rfl a61 (by omega) rfl (by omega) ?_
  refine h1_ne rfl rfl (fun h18 => absurd h18 (fun q => q hb)) (fun h18 => ?_)
  iterate 2 refine h_s rfl ?_
  exact h_ri rfl rfl ⟨rfl, rfl⟩
set_option maxRecDepth 100000 in
set_option maxHeartbeats 4000000 in
theorem m_wrong_k (R : MW w s n st ks kp tp tn bo so nu) (k : Nat) (hk : k < 4) (hb : ¬ bo.getD k 0 = 0) : ab_Q X kX6_wrong [.ref 54, .int (nI k)] w (fun v w1 => v = some (.int 0) ∧ w1 = w) := by
  have M := R.ms
  have R0 := R
  obtain ⟨oth, nz, mv, fr, to, vl, wr, a54, a55, a56, a57, a58, a59, a60, a61, a62, a63, a64, l, h0, hn, ht⟩ := R
  show ab_H X kX6_wrong 0 [some (.ref 54), some (.int (nI k))] [] w _
  refine h_s rfl ?_
  refine h_c rfl (m_isOne _) ?_
  refine h_t (show z01 (inN (nI k) 4) = 1 by rw [inN_n (by omega) hk]; rfl) ?_
  refine h_n (st2 := [_]) rfl ?_
  iterate 2 refine h_s rfl ?_
  refine h_gf rfl rfl rfl a54 rfl ?_
  refine h_s rfl ?_
  refine h_ia k rfl a61 (by omega) rfl (by omega) ?_
  refine h1_ne rfl rfl (fun h18 => ?_) (fun h18 => absurd h18 (hb))
  refine h_k (y := 0) rfl rfl ?_
  exact h_ri rfl rfl ⟨rfl, rfl⟩
set_option maxRecDepth 100000 in
set_option maxHeartbeats 4000000 in
theorem m_narrowed (b v : Int32) : ab_M X kX6_narrowed [.int b, .int v] w (some (.int (narI b v))) w := by
  show ab_G X kX6_narrowed 0 [some (.int b), some (.int v)] [] w _ _
  refine ab_s rfl ?_
  refine ab_k (y := 8) rfl rfl ?_
  refine j2_ne rfl rfl (fun h3 => ?_) (fun h3 => ?_)
  · refine ab_s rfl ?_
    refine ab_k (y := 16) rfl rfl ?_
    refine j2_ne rfl rfl (fun h14 => ?_) (fun h14 => ?_)
    · refine ab_s rfl ?_
      exact ab_ri rfl (by unfold narI; simp [h3, h14])
    · iterate 3 refine ab_s rfl ?_
      exact ab_ri rfl (by unfold narI; simp [h3, h14])
  · iterate 3 refine ab_s rfl ?_
    exact ab_ri rfl (by unfold narI; simp [h3])
set_option maxRecDepth 100000 in
set_option maxHeartbeats 4000000 in
theorem m_write_b (R : MW w s n st ks kp tp tn bo so nu) (a : Int32) (i v : Int32) (ha : inN a 4 = false) : ab_Q X kX6_write [.ref 54, .int a, .int i, .int v] w (MP w (-1000001) s n (bump st 0) ks kp tp tn bo so nu) := by
  have M := R.ms
  have R0 := R
  obtain ⟨oth, nz, mv, fr, to, vl, wr, a54, a55, a56, a57, a58, a59, a60, a61, a62, a63, a64, l, h0, hn, ht⟩ := R
  show ab_H X kX6_write 0 [some (.ref 54), some (.int a), some (.int i), some (.int v), none] [] w _
  iterate 2 refine h_s rfl ?_
  refine hq_v rfl rfl rfl a54 rfl rfl (m_wrong_b R0 a ha) (fun v0 w0 q0 => ?_)
  obtain ⟨rfl, rfl⟩ := q0
  refine h_n (st2 := [_]) rfl ?_
  iterate 5 refine h_s rfl ?_
  refine hq_v rfl rfl rfl a54 rfl rfl (m_finds R0 0 (by omega) _ (by decide)) (fun v1 w1 q1 => ?_)
  obtain ⟨rfl, q2, q3⟩ := q1
  refine h_n (st2 := [_]) rfl ?_
  exact h_ri rfl rfl ⟨rfl, q2, q3⟩
set_option maxRecDepth 100000 in
set_option maxHeartbeats 4000000 in
theorem m_write_m (R : MW w s n st ks kp tp tn bo so nu) (k : Nat) (i v : Int32) (hk : k < 4) (hb : bo.getD k 0 = 0) : ab_Q X kX6_write [.ref 54, .int (nI k), .int i, .int v] w (MP w (-1000006) s n (bump st 5) ks kp tp tn bo so nu) := by
  have M := R.ms
  have R0 := R
  obtain ⟨oth, nz, mv, fr, to, vl, wr, a54, a55, a56, a57, a58, a59, a60, a61, a62, a63, a64, l, h0, hn, ht⟩ := R
  show ab_H X kX6_write 0 [some (.ref 54), some (.int (nI k)), some (.int i), some (.int v), none] [] w _
  iterate 2 refine h_s rfl ?_
  refine hq_v rfl rfl rfl a54 rfl rfl (m_wrong_m R0 k hk hb) (fun v0 w0 q0 => ?_)
  obtain ⟨rfl, rfl⟩ := q0
  refine h_n (st2 := [_]) rfl ?_
  iterate 5 refine h_s rfl ?_
  refine hq_v rfl rfl rfl a54 rfl rfl (m_finds R0 5 (by omega) _ (by decide)) (fun v1 w1 q1 => ?_)
  obtain ⟨rfl, q2, q3⟩ := q1
  refine h_n (st2 := [_]) rfl ?_
  exact h_ri rfl rfl ⟨rfl, q2, q3⟩
set_option maxRecDepth 100000 in
set_option maxHeartbeats 4000000 in
theorem m_load_b (R : MW w s n st ks kp tp tn bo so nu) (a : Int32)  (ha : inN a 4 = false) : ab_Q X kX6_load [.ref 54, .int a] w (MP w (-1000001) s n (bump st 0) ks kp tp tn bo so nu) := by
  have M := R.ms
  have R0 := R
  obtain ⟨oth, nz, mv, fr, to, vl, wr, a54, a55, a56, a57, a58, a59, a60, a61, a62, a63, a64, l, h0, hn, ht⟩ := R
  show ab_H X kX6_load 0 [some (.ref 54), some (.int a), none, none] [] w _
  iterate 2 refine h_s rfl ?_
  refine hq_v rfl rfl rfl a54 rfl rfl (m_wrong_b R0 a ha) (fun v0 w0 q0 => ?_)
  obtain ⟨rfl, rfl⟩ := q0
  refine h_n (st2 := [_]) rfl ?_
  iterate 5 refine h_s rfl ?_
  refine hq_v rfl rfl rfl a54 rfl rfl (m_finds R0 0 (by omega) _ (by decide)) (fun v1 w1 q1 => ?_)
  obtain ⟨rfl, q2, q3⟩ := q1
  refine h_n (st2 := [_]) rfl ?_
  exact h_ri rfl rfl ⟨rfl, q2, q3⟩
set_option maxRecDepth 100000 in
set_option maxHeartbeats 4000000 in
theorem m_load_m (R : MW w s n st ks kp tp tn bo so nu) (k : Nat)  (hk : k < 4) (hb : bo.getD k 0 = 0) : ab_Q X kX6_load [.ref 54, .int (nI k)] w (MP w (-1000006) s n (bump st 5) ks kp tp tn bo so nu) := by
  have M := R.ms
  have R0 := R
  obtain ⟨oth, nz, mv, fr, to, vl, wr, a54, a55, a56, a57, a58, a59, a60, a61, a62, a63, a64, l, h0, hn, ht⟩ := R
  show ab_H X kX6_load 0 [some (.ref 54), some (.int (nI k)), none, none] [] w _
  iterate 2 refine h_s rfl ?_
  refine hq_v rfl rfl rfl a54 rfl rfl (m_wrong_m R0 k hk hb) (fun v0 w0 q0 => ?_)
  obtain ⟨rfl, rfl⟩ := q0
  refine h_n (st2 := [_]) rfl ?_
  iterate 5 refine h_s rfl ?_
  refine hq_v rfl rfl rfl a54 rfl rfl (m_finds R0 5 (by omega) _ (by decide)) (fun v1 w1 q1 => ?_)
  obtain ⟨rfl, q2, q3⟩ := q1
  refine h_n (st2 := [_]) rfl ?_
  exact h_ri rfl rfl ⟨rfl, q2, q3⟩
set_option maxRecDepth 100000 in
set_option maxHeartbeats 4000000 in
theorem m_judge_b (R : MW w s n st ks kp tp tn bo so nu) (a : Int32) (f c : Int32) (ha : inN a 4 = false) : ab_Q X kX6_judge [.ref 54, .int a, .int f, .int c] w (MP w (-1000001) s n (bump st 0) ks kp tp tn bo so nu) := by
  have M := R.ms
  have R0 := R
  obtain ⟨oth, nz, mv, fr, to, vl, wr, a54, a55, a56, a57, a58, a59, a60, a61, a62, a63, a64, l, h0, hn, ht⟩ := R
  show ab_H X kX6_judge 0 [some (.ref 54), some (.int a), some (.int f), some (.int c), none, none, none, none, none] [] w _
  iterate 2 refine h_s rfl ?_
  refine hq_v rfl rfl rfl a54 rfl rfl (m_wrong_b R0 a ha) (fun v0 w0 q0 => ?_)
  obtain ⟨rfl, rfl⟩ := q0
  refine h_n (st2 := [_]) rfl ?_
  iterate 5 refine h_s rfl ?_
  refine hq_v rfl rfl rfl a54 rfl rfl (m_finds R0 0 (by omega) _ (by decide)) (fun v1 w1 q1 => ?_)
  obtain ⟨rfl, q2, q3⟩ := q1
  refine h_n (st2 := [_]) rfl ?_
  exact h_ri rfl rfl ⟨rfl, q2, q3⟩
set_option maxRecDepth 100000 in
set_option maxHeartbeats 4000000 in
theorem m_judge_m (R : MW w s n st ks kp tp tn bo so nu) (k : Nat) (f c : Int32) (hk : k < 4) (hb : bo.getD k 0 = 0) : ab_Q X kX6_judge [.ref 54, .int (nI k), .int f, .int c] w (MP w (-1000006) s n (bump st 5) ks kp tp tn bo so nu) := by
  have M := R.ms
  have R0 := R
  obtain ⟨oth, nz, mv, fr, to, vl, wr, a54, a55, a56, a57, a58, a59, a60, a61, a62, a63, a64, l, h0, hn, ht⟩ := R
  show ab_H X kX6_judge 0 [some (.ref 54), some (.int (nI k)), some (.int f), some (.int c), none, none, none, none, none] [] w _
  iterate 2 refine h_s rfl ?_
  refine hq_v rfl rfl rfl a54 rfl rfl (m_wrong_m R0 k hk hb) (fun v0 w0 q0 => ?_)
  obtain ⟨rfl, rfl⟩ := q0
  refine h_n (st2 := [_]) rfl ?_
  iterate 5 refine h_s rfl ?_
  refine hq_v rfl rfl rfl a54 rfl rfl (m_finds R0 5 (by omega) _ (by decide)) (fun v1 w1 q1 => ?_)
  obtain ⟨rfl, q2, q3⟩ := q1
  refine h_n (st2 := [_]) rfl ?_
  exact h_ri rfl rfl ⟨rfl, q2, q3⟩
set_option maxRecDepth 100000 in
set_option maxHeartbeats 4000000 in
theorem m_write_i (R : MW w s n st ks kp tp tn bo so nu) (k z : Nat) (hk : k < 4) (hb : ¬ bo.getD k 0 = 0) (hz : so.getD k 0 = nI z) (hz40 : z ≤ 40) (i v : Int32) (hi : inN i z = false) : ab_Q X kX6_write [.ref 54, .int (nI k), .int i, .int v] w (MP w (-1000001) s n (bump st 0) ks kp tp tn bo so nu) := by
  have M := R.ms
  have R0 := R
  obtain ⟨oth, nz, mv, fr, to, vl, wr, a54, a55, a56, a57, a58, a59, a60, a61, a62, a63, a64, l, h0, hn, ht⟩ := R
  show ab_H X kX6_write 0 [some (.ref 54), some (.int (nI k)), some (.int i), some (.int v), none] [] w _
  iterate 2 refine h_s rfl ?_
  refine hq_v rfl rfl rfl a54 rfl rfl (m_wrong_k R0 k hk hb) (fun v0 w0 q0 => ?_)
  obtain ⟨rfl, rfl⟩ := q0
  refine h_n (st2 := [_]) rfl ?_
  iterate 7 refine h_s rfl ?_
  refine h_gf rfl rfl rfl a54 rfl ?_
  refine h_s rfl ?_
  refine h_ia k rfl a62 (by omega) rfl (by omega) ?_
  refine h_t hz ?_
  refine h_k (y := 1) rfl rfl ?_
  iterate 2 refine h_s rfl ?_
  refine h_c rfl (m_inZ (m := z) i rfl (nsubN (by omega))) ?_
  refine h_n (st2 := [_]) rfl ?_
  refine hz_ne rfl rfl (fun h34 => absurd h34 (by rw [hi]; decide)) (fun h34 => ?_)
  iterate 2 refine h_s rfl ?_
  refine hq_v rfl rfl rfl a54 rfl rfl (m_finds R0 0 (by omega) _ (by decide)) (fun v1 w1 q1 => ?_)
  obtain ⟨rfl, q2, q3⟩ := q1
  refine h_n (st2 := [_]) rfl ?_
  exact h_ri rfl rfl ⟨rfl, q2, q3⟩
set_option maxRecDepth 100000 in
set_option maxHeartbeats 4000000 in
theorem m_write_k (R : MW w s n st ks kp tp tn bo so nu) (k z : Nat) (hk : k < 4) (hb : ¬ bo.getD k 0 = 0) (hz : so.getD k 0 = nI z) (hz40 : z ≤ 40) (i : Nat) (v : Int32) (hi : i < z) : ab_Q X kX6_write [.ref 54, .int (nI k), .int (nI i), .int v] w (MP w 1 s n st ks kp tp tn bo so (nu.set (40 * k + i) (narI (bo.getD k 0) v))) := by
  have M := R.ms
  have R0 := R
  obtain ⟨oth, nz, mv, fr, to, vl, wr, a54, a55, a56, a57, a58, a59, a60, a61, a62, a63, a64, l, h0, hn, ht⟩ := R
  show ab_H X kX6_write 0 [some (.ref 54), some (.int (nI k)), some (.int (nI i)), some (.int v), none] [] w _
  iterate 2 refine h_s rfl ?_
  refine hq_v rfl rfl rfl a54 rfl rfl (m_wrong_k R0 k hk hb) (fun v0 w0 q0 => ?_)
  obtain ⟨rfl, rfl⟩ := q0
  refine h_n (st2 := [_]) rfl ?_
  iterate 7 refine h_s rfl ?_
  refine h_gf rfl rfl rfl a54 rfl ?_
  refine h_s rfl ?_
  refine h_ia k rfl a62 (by omega) rfl (by omega) ?_
  refine h_t hz ?_
  refine h_k (y := 1) rfl rfl ?_
  iterate 2 refine h_s rfl ?_
  refine h_c rfl (m_inZ (m := z) (nI i) rfl (nsubN (by omega))) ?_
  refine h_n (st2 := [_]) rfl ?_
  refine hz_ne rfl rfl (fun h34 => ?_) (fun h34 => absurd h34 (by rw [inN_n (by omega) hi]; decide))
  refine h_s rfl ?_
  refine h_gf rfl rfl rfl a54 rfl ?_
  refine h_k (y := 40) rfl rfl ?_
  refine h_s rfl ?_
  refine h_s rfl ?_
  refine h_t (pk_mul 40 k) ?_
  refine h_s rfl ?_
  refine h_s rfl ?_
  refine h_t (nI_add (40 * k) i) ?_
  refine h_s rfl ?_
  refine h_gf rfl rfl rfl a54 rfl ?_
  refine h_s rfl ?_
  refine h_ia k rfl a61 (by omega) rfl (by omega) ?_
  refine h_s rfl ?_
  refine h_c rfl (m_narrowed _ v) ?_
  refine h_n (st2 := [_, _, _]) rfl ?_
  refine h_is (40 * k + i) rfl a63 (by omega) rfl (by omega) (fun w1 e1 f1 => ?_)
  refine h_k (y := 1) rfl rfl ?_
  exact h_ri rfl rfl ⟨rfl, R0.sh ((f1 61 (by decide)).trans a61) ((f1 62 (by decide)).trans a62) e1 ((f1 64 (by decide)).trans a64) l.2.2.2.2.2.2.1 l.2.2.2.2.2.2.2.1 ((List.length_set ..).trans l.2.2.2.2.2.2.2.2.1) l.2.2.2.2.2.2.2.2.2 (fun i hi => f1 i (by omega)), fun i hi => f1 i (by omega)⟩
set_option maxRecDepth 100000 in
set_option maxHeartbeats 4000000 in
theorem m_load_k (R : MW w s n st ks kp tp tn bo so nu) (k z : Nat) (hk : k < 4) (hb : ¬ bo.getD k 0 = 0) (hz : so.getD k 0 = nI z) (hz40 : z ≤ 40) : ab_Q X kX6_load [.ref 54, .int (nI k)] w (MP w (nI (min z n)) (loadS s nu k (min z n)) n st ks kp tp tn bo so nu) := by
  have M := R.ms
  have R0 := R
  obtain ⟨oth, nz, mv, fr, to, vl, wr, a54, a55, a56, a57, a58, a59, a60, a61, a62, a63, a64, l, h0, hn, ht⟩ := R
  show ab_H X kX6_load 0 [some (.ref 54), some (.int (nI k)), none, none] [] w _
  iterate 2 refine h_s rfl ?_
  refine hq_v rfl rfl rfl a54 rfl rfl (m_wrong_k R0 k hk hb) (fun v0 w0 q0 => ?_)
  obtain ⟨rfl, rfl⟩ := q0
  refine h_n (st2 := [_]) rfl ?_
  iterate 3 refine h_s rfl ?_
  refine h_k (y := 0) rfl rfl ?_
  refine h_s rfl ?_
  refine h_loop0 (min z n) (fun i ls w1 => (∀ j, j ≠ 55 → w1[j]? = w0[j]?) ∧ w1[55]? = some (.inr (loadS s nu k i)) ∧ ls = [some (.ref 54), some (.int (nI k)), some (.int 0), some (.int (nI i))]) ⟨fun _ _ => rfl, a55, rfl⟩ (fun i ls w1 hi hJ ih => ?_) (fun ls w1 hJ => ?_)
  · obtain ⟨F, b55, rfl⟩ := hJ
    have b54 := (F 54 (by decide)).trans a54
    have b62 := (F 62 (by decide)).trans a62
    have b63 := (F 63 (by decide)).trans a63
    have hi1 : i < z := Nat.lt_of_lt_of_le hi (Nat.min_le_left ..)
    have hi2 : i < n := Nat.lt_of_lt_of_le hi (Nat.min_le_right ..)
    have gl : (loadS s nu k i).length = 90 := (load_l ..).trans l.1
    have g0 : (loadS s nu k i).getD 0 0 = nI n := (load_D _ _ _ _ (fun h _ => by omega)).trans h0
    iterate 2 refine h_s rfl ?_
    refine h_gf rfl rfl rfl b54 rfl ?_
    refine h_s rfl ?_
    refine h_ia k rfl b62 (by omega) rfl (by omega) ?_
    refine h_t hz ?_
    refine h2_ge rfl rfl (fun h25 => absurd h25 (nI_ge hi1 (by omega))) (fun h25 => ?_)
    iterate 2 refine h_s rfl ?_
    refine h_gf rfl rfl rfl b54 rfl ?_
    refine h_k (y := 0) rfl rfl ?_
    refine h_ia 0 rfl b55 (by omega) rfl (by omega) ?_
    refine h_t g0 ?_
    refine h2_ge rfl rfl (fun h35 => absurd h35 (nI_ge hi2 (by omega))) (fun h35 => ?_)
    refine h_s rfl ?_
    refine h_gf rfl rfl rfl b54 rfl ?_
    refine h_s rfl ?_
    refine h_k (y := 2) rfl rfl ?_
    refine h_c rfl (m_at i 2 rfl rfl) ?_
    refine h_n (st2 := [_, _]) rfl ?_
    refine h_s rfl ?_
    refine h_gf rfl rfl rfl b54 rfl ?_
    refine h_k (y := 40) rfl rfl ?_
    refine h_s rfl ?_
    refine h_s rfl ?_
    refine h_t (pk_mul 40 k) ?_
    refine h_s rfl ?_
    refine h_s rfl ?_
    refine h_t (nI_add (40 * k) i) ?_
    refine h_ia (40 * k + i) rfl b63 (by omega) rfl (by omega) ?_
    refine h_k (y := 255) rfl rfl ?_
    refine h_s rfl ?_
    refine h_is (2 + 8 * i + 2) rfl b55 (by omega) rfl (by omega) (fun w2 e2 f2 => ?_)
    refine h_ii rfl rfl rfl ?_
    refine h_s rfl ?_
    exact ih _ _ ⟨fun j hj => (f2 j hj).trans (F j hj), e2, rfl⟩
  · obtain ⟨F, b55, rfl⟩ := hJ
    have b54 := (F 54 (by decide)).trans a54
    have b62 := (F 62 (by decide)).trans a62
    have b63 := (F 63 (by decide)).trans a63
    obtain ⟨m, hm⟩ : ∃ m, min z n = m := ⟨_, rfl⟩
    rw [hm] at b55 ⊢
    have gl : (loadS s nu k m).length = 90 := (load_l ..).trans l.1
    have g0 : (loadS s nu k m).getD 0 0 = nI n := (load_D _ _ _ _ (fun h _ => by omega)).trans h0
    have fin := R0.s55 b55 gl g0 hn F
    by_cases hzn : z ≤ n
    · have e : m = z := by omega
      iterate 2 refine h_s rfl ?_
      refine h_gf rfl rfl rfl b54 rfl ?_
      refine h_s rfl ?_
      refine h_ia k rfl b62 (by omega) rfl (by omega) ?_
      refine h_t hz ?_
      refine h2_ge rfl rfl (fun h25 => ?_) (fun h25 => absurd (nI_le (by omega) (by omega)) h25)
      refine h_s rfl ?_
      exact h_ri rfl rfl ⟨rfl, fin, fun i hi => F i (by omega)⟩
    · have e : m = n := by omega
      iterate 2 refine h_s rfl ?_
      refine h_gf rfl rfl rfl b54 rfl ?_
      refine h_s rfl ?_
      refine h_ia k rfl b62 (by omega) rfl (by omega) ?_
      refine h_t hz ?_
      refine h2_ge rfl rfl (fun h25 => absurd h25 (nI_ge (by omega) (by omega))) (fun h25 => ?_)
      iterate 2 refine h_s rfl ?_
      refine h_gf rfl rfl rfl b54 rfl ?_
      refine h_k (y := 0) rfl rfl ?_
      refine h_ia 0 rfl b55 (by omega) rfl (by omega) ?_
      refine h_t g0 ?_
      refine h2_ge rfl rfl (fun h35 => ?_) (fun h35 => absurd (nI_le (by omega) (by omega)) h35)
      refine h_s rfl ?_
      exact h_ri rfl rfl ⟨rfl, fin, fun i hi => F i (by omega)⟩
end MM
end
section
/-! THE REFERENCE: judge -/
/-- where a reader may go on after the rooms x 0 .. x (i - 1) -/
def mayB (s : List Int32) (n f : Nat) (c : Int32) (x : Nat → Int32) : Nat → Nat → Bool
  | 0, r => gB n r && opB s n f c r
  | i + 1, r => adjB s n (x i).toNatClampNeg r && opB s n f c r
def stepB (s : List Int32) (n f : Nat) (c : Int32) (x : Nat → Int32) (i : Nat) : Bool := inN (x i) (2 * n) && mayB s n f c x i (x i).toNatClampNeg
/-- how many of the first m are right from the first on -/
def leadN (p : Nat → Bool) : Nat → Nat
  | 0 => 0
  | m + 1 => if leadN p m = m ∧ p m = true then m + 1 else leadN p m
theorem leadN_le (p : Nat → Bool) : ∀ m, leadN p m ≤ m
  | 0 => Nat.le_refl _
  | m + 1 => by
    rw [leadN]
    have := leadN_le p m
    split <;> omega
theorem leadN_stop {p : Nat → Bool} {i : Nat} (h : leadN p i = i) (hf : p i = false) : ∀ d, leadN p (i + d) = i
  | 0 => h
  | d + 1 => by
    show leadN p (i + d + 1) = i
    rw [leadN, leadN_stop h hf d]
    split
    · rename_i q
      have : d = 0 := by omega
      subst this
      rw [show i + 0 = i from rfl, hf] at q
      exact absurd q.2 (by decide)
    · rfl
def lastR (x : Nat → Int32) (i : Nat) : Int32 := if i = 0 then -1 else x (i - 1)
def judI (s : List Int32) (f z R : Nat) (x : Nat → Int32) : Int32 := if R = z ∧ lastR x R = nI (homeN s f) then 0 else nI (1 + R)
section MN
variable {X : List Int32} {w : ab_W} {s : List Int32} {n : Nat} {st ks : List Int32} {kp : Bool} {tp : List Int32} {tn : Nat} {bo so nu : List Int32}
set_option maxRecDepth 100000 in
set_option maxHeartbeats 4000000 in
theorem m_judge_a (R : MW w s n st ks kp tp tn bo so nu) (k z : Nat) (hk : k < 4) (hb : ¬ bo.getD k 0 = 0) (hz : so.getD k 0 = nI z) (hz40 : z ≤ 40) (a b : Int32) (ha : (inN a n && inN b 24) = false) : ab_Q X kX6_judge [.ref 54, .int (nI k), .int a, .int b] w (MP w (-1000001) s n (bump st 0) ks kp tp tn bo so nu) := by
  have M := R.ms
  have R0 := R
  obtain ⟨oth, nz, mv, fr, to, vl, wr, a54, a55, a56, a57, a58, a59, a60, a61, a62, a63, a64, l, h0, hn, ht⟩ := R
  show ab_H X kX6_judge 0 [some (.ref 54), some (.int (nI k)), some (.int a), some (.int b), none, none, none, none, none] [] w _
  iterate 2 refine h_s rfl ?_
  refine hq_v rfl rfl rfl a54 rfl rfl (m_wrong_k R0 k hk hb) (fun v0 w0 q0 => ?_)
  obtain ⟨rfl, rfl⟩ := q0
  refine h_n (st2 := [_]) rfl ?_
  iterate 6 refine h_s rfl ?_
  refine h_cv rfl rfl rfl a54 rfl rfl (m_isAsk M a b) ?_
  refine h_n (st2 := [_]) rfl ?_
  refine hz_ne rfl rfl (fun h25 => absurd h25 (by rw [ha]; decide)) (fun h25 => ?_)
  iterate 2 refine h_s rfl ?_
  refine hq_v rfl rfl rfl a54 rfl rfl (m_finds R0 0 (by omega) _ (by decide)) (fun v1 w1 q1 => ?_)
  obtain ⟨rfl, q2, q3⟩ := q1
  refine h_n (st2 := [_]) rfl ?_
  exact h_ri rfl rfl ⟨rfl, q2, q3⟩
set_option maxRecDepth 100000 in
set_option maxHeartbeats 4000000 in
theorem m_judge_k (R : MW w s n st ks kp tp tn bo so nu) (k z : Nat) (hk : k < 4) (hb : ¬ bo.getD k 0 = 0) (hz : so.getD k 0 = nI z) (hz40 : z ≤ 40) (I : SI s n) (f c : Nat) (hf : f < n) (hc : c < 24) (G : Nat) (hR : leadN (stepB s n f (nI c) (fun i => nu.getD (40 * k + i) 0)) z = G) : ab_Q X kX6_judge [.ref 54, .int (nI k), .int (nI f), .int (nI c)] w (MP w (judI s f z G (fun i => nu.getD (40 * k + i) 0)) s n st ks kp tp tn bo so nu) := by
  have M := R.ms
  have R0 := R
  obtain ⟨oth, nz, mv, fr, to, vl, wr, a54, a55, a56, a57, a58, a59, a60, a61, a62, a63, a64, l, h0, hn, ht⟩ := R
  show ab_H X kX6_judge 0 [some (.ref 54), some (.int (nI k)), some (.int (nI f)), some (.int (nI c)), none, none, none, none, none] [] w _
  iterate 2 refine h_s rfl ?_
  refine hq_v rfl rfl rfl a54 rfl rfl (m_wrong_k R0 k hk hb) (fun v0 w0 q0 => ?_)
  obtain ⟨rfl, rfl⟩ := q0
  refine h_n (st2 := [_]) rfl ?_
  iterate 6 refine h_s rfl ?_
  refine h_cv rfl rfl rfl a54 rfl rfl (m_isAsk1 M ⟨f, by omega, rfl⟩ ⟨c, by omega, rfl⟩) ?_
  refine h_n (st2 := [_]) rfl ?_
  iterate 4 refine h_s rfl ?_
  refine h_cv rfl rfl rfl a54 rfl rfl (m_openRooms M I f (by omega) (nI c)) ?_
  refine h_n (st2 := [_]) rfl ?_
  iterate 2 refine h_s rfl ?_
  refine h_cv rfl rfl rfl a54 rfl rfl (m_grounds M) ?_
  refine h_n (st2 := [_]) rfl ?_
  refine h_s rfl ?_
  refine h_s rfl ?_
  refine h_t (bs_and (by omega)) ?_
  refine h_s rfl ?_
  refine h_k (y := 0) rfl rfl ?_
  refine h_s rfl ?_
  refine h_k (y := (-1)) rfl rfl ?_
  refine h_s rfl ?_
  have hR0 := hR
  refine h_loop0 (z + 1) (fun i ls w1 => w1 = w0 ∧ i ≤ z ∧ leadN (stepB s n f (nI c) (fun i => nu.getD (40 * k + i) 0)) i = i ∧ ls = [some (.ref 54), some (.int (nI k)), some (.int (nI f)), some (.int (nI c)), some (.int 0), some (.int (bs (opB s n f (nI c)) 16)), some (.int (bs (mayB s n f (nI c) (fun i => nu.getD (40 * k + i) 0) i) 16)), some (.int (nI i)), some (.int (lastR (fun i => nu.getD (40 * k + i) 0) i))]) ⟨rfl, by omega, rfl, rfl⟩ (fun i ls w1 hi hJ ih => ?_) (fun ls w1 hJ => absurd hJ.2.1 (by omega))
  obtain ⟨rfl, hiz, hle, rfl⟩ := hJ
  have hstop : stepB s n f (nI c) (fun i => nu.getD (40 * k + i) 0) i = false → i < z → G = i := fun h h1 => by
    rw [← hR, show z = i + (z - i) by omega]
    exact leadN_stop hle h _
  by_cases hzi : i = z
  · have hRi : G = i := by rw [← hR, ← hzi]; exact hle
    have hh := homeN_lt I hn hf
    iterate 2 refine h_s rfl ?_
    refine h_gf rfl rfl rfl a54 rfl ?_
    refine h_s rfl ?_
    refine h_ia k rfl a62 (by omega) rfl (by omega) ?_
    refine h_t hz ?_
    refine h2_ge rfl rfl (fun h66 => ?_) (fun h66 => absurd (nI_le (by omega) (by omega)) h66)
    iterate 2 refine h_s rfl ?_
    refine h_gf rfl rfl rfl a54 rfl ?_
    refine h_s rfl ?_
    refine h_ia k rfl a62 (by omega) rfl (by omega) ?_
    refine h_t hz ?_
    refine h2_ne rfl rfl (fun h147 => absurd h147 (fun q => q (by rw [hzi]))) (fun h147 => ?_)
    iterate 3 refine h_s rfl ?_
    refine h_cv rfl rfl rfl a54 rfl rfl (m_homeOf M I f hf) ?_
    refine h_n (st2 := [_, _]) rfl ?_
    refine h2_ne rfl rfl (fun h157 => ?_) (fun h157 => ?_)
    · refine h_k (y := 1) rfl rfl ?_
      refine h_s rfl ?_
      refine h_s rfl ?_
      refine h_t (nI_add 1 i) ?_
      exact h_ri rfl (by unfold judI; first | rw [if_pos ⟨by omega, by rw [hRi]; exact h157⟩] | rw [if_neg (fun q => h157 (by rw [← hRi]; exact q.2)), hRi]) (MP.same R0 _)
    · refine h_k (y := 0) rfl rfl ?_
      refine h_s rfl ?_
      exact h_ri rfl (by unfold judI; first | rw [if_pos ⟨by omega, by rw [hRi]; exact h157⟩] | rw [if_neg (fun q => h157 (by rw [← hRi]; exact q.2)), hRi]) (MP.same R0 _)
  · have hx : nu.getD (40 * k + i) 0 = (fun i => nu.getD (40 * k + i) 0) i := rfl
    obtain ⟨x, hx2⟩ : ∃ x, (fun i => nu.getD (40 * k + i) 0) i = x := ⟨_, rfl⟩
    rw [hx2] at hx
    have hsx : stepB s n f (nI c) (fun i => nu.getD (40 * k + i) 0) i = (inN x (2 * n) && mayB s n f (nI c) (fun i => nu.getD (40 * k + i) 0) i x.toNatClampNeg) := by unfold stepB; rw [hx2]
    iterate 2 refine h_s rfl ?_
    refine h_gf rfl rfl rfl a54 rfl ?_
    refine h_s rfl ?_
    refine h_ia k rfl a62 (by omega) rfl (by omega) ?_
    refine h_t hz ?_
    refine h2_ge rfl rfl (fun h66 => absurd h66 (nI_ge (by omega) (by omega))) (fun h66 => ?_)
    iterate 2 refine h_s rfl ?_
    refine h_gf rfl rfl rfl a54 rfl ?_
    refine h_k (y := 40) rfl rfl ?_
    refine h_s rfl ?_
    refine h_s rfl ?_
    refine h_t (pk_mul 40 k) ?_
    refine h_s rfl ?_
    refine h_s rfl ?_
    refine h_t (nI_add (40 * k) i) ?_
    refine h_ia (40 * k + i) rfl a63 (by omega) rfl (by omega) ?_
    refine h_t hx ?_
    refine h_cv rfl rfl rfl a54 rfl rfl (m_isRoom M x) ?_
    refine h_n (st2 := [_]) rfl ?_
    refine hz_eq rfl rfl (fun h85 => ?_) (fun h85 => ?_)
    · iterate 2 refine h_s rfl ?_
      refine h_gf rfl rfl rfl a54 rfl ?_
      refine h_s rfl ?_
      refine h_ia k rfl a62 (by omega) rfl (by omega) ?_
      refine h_t hz ?_
      refine h2_ne rfl rfl (fun h147 => ?_) (fun h147 => absurd h147 (fun q => hzi ((nI_eq (by omega) (by omega)).mp q)))
      refine h_k (y := 1) rfl rfl ?_
      refine h_s rfl ?_
      refine h_s rfl ?_
      refine h_t (nI_add 1 i) ?_
      have hRi : G = i := hstop (by rw [hsx]; first | (rw [h85]; rfl) | (rw [h85, hcl, h105]; rfl)) (by omega)
      exact h_ri rfl (by unfold judI; rw [if_neg (fun q => hzi (by omega)), hRi]) (MP.same R0 _)
    · iterate 2 refine h_s rfl ?_
      refine h_gf rfl rfl rfl a54 rfl ?_
      refine h_k (y := 40) rfl rfl ?_
      refine h_s rfl ?_
      refine h_s rfl ?_
      refine h_t (pk_mul 40 k) ?_
      refine h_s rfl ?_
      refine h_s rfl ?_
      refine h_t (nI_add (40 * k) i) ?_
      refine h_ia (40 * k + i) rfl a63 (by omega) rfl (by omega) ?_
      refine h_t hx ?_
      obtain ⟨r, hr, hxr⟩ := inN_t (by omega) h85
      have hcl : x.toNatClampNeg = r := by rw [hxr]; exact nI_clamp (by omega)
      have hbt : bt (bs (mayB s n f (nI c) (fun i => nu.getD (40 * k + i) 0) i) 16) r = mayB s n f (nI c) (fun i => nu.getD (40 * k + i) 0) i r := by rw [bt_bs _ _ _ (by omega) (by omega), decide_eq_true (by omega), Bool.true_and]
      refine h_c rfl (show ab_M X kX6_has [.int (bs (mayB s n f (nI c) (fun i => nu.getD (40 * k + i) 0) i) 16), .int x] w1 (some (.int (z01 (mayB s n f (nI c) (fun i => nu.getD (40 * k + i) 0) i r)))) w1 by rw [← hbt, hxr]; exact m_has r (by omega)) ?_
      refine h_n (st2 := [_]) rfl ?_
      refine hz_eq rfl rfl (fun h105 => ?_) (fun h105 => ?_)
      · iterate 2 refine h_s rfl ?_
        refine h_gf rfl rfl rfl a54 rfl ?_
        refine h_s rfl ?_
        refine h_ia k rfl a62 (by omega) rfl (by omega) ?_
        refine h_t hz ?_
        refine h2_ne rfl rfl (fun h147 => ?_) (fun h147 => absurd h147 (fun q => hzi ((nI_eq (by omega) (by omega)).mp q)))
        refine h_k (y := 1) rfl rfl ?_
        refine h_s rfl ?_
        refine h_s rfl ?_
        refine h_t (nI_add 1 i) ?_
        have hRi : G = i := hstop (by rw [hsx]; first | (rw [h85]; rfl) | (rw [h85, hcl, h105]; rfl)) (by omega)
        exact h_ri rfl (by unfold judI; rw [if_neg (fun q => hzi (by omega)), hRi]) (MP.same R0 _)
      · refine h_s rfl ?_
        refine h_gf rfl rfl rfl a54 rfl ?_
        refine h_k (y := 40) rfl rfl ?_
        refine h_s rfl ?_
        refine h_s rfl ?_
        refine h_t (pk_mul 40 k) ?_
        refine h_s rfl ?_
        refine h_s rfl ?_
        refine h_t (nI_add (40 * k) i) ?_
        refine h_ia (40 * k + i) rfl a63 (by omega) rfl (by omega) ?_
        refine h_t hx ?_
        iterate 3 refine h_s rfl ?_
        refine h_cv rfl rfl rfl a54 rfl rfl (show ab_M X kX6_joinedTo [.ref 54, .int x] w1 (some (.int (bs (adjB s n r) 16))) w1 by rw [hxr]; exact m_joinedTo M I r hr) ?_
        refine h_n (st2 := [_]) rfl ?_
        refine h_s rfl ?_
        refine h_s rfl ?_
        refine h_t (bs_and (by omega)) ?_
        refine h_s rfl ?_
        refine h_ii rfl rfl rfl ?_
        refine h_s rfl ?_
        refine ih _ _ ⟨rfl, by omega, ?_, ?_⟩
        · rw [leadN, hle, if_pos ⟨rfl, by rw [hsx, h85, hcl, h105]; rfl⟩]
        · rw [show lastR (fun i => nu.getD (40 * k + i) 0) (i + 1) = x from hx2]
          have hm : mayB s n f (nI c) (fun i => nu.getD (40 * k + i) 0) (i + 1) = fun r' => adjB s n r r' && opB s n f (nI c) r' := by
            funext r'
            show (adjB s n ((fun i => nu.getD (40 * k + i) 0) i).toNatClampNeg r' && opB s n f (nI c) r') = _
            rw [hx2, hcl]
          rw [hm]
          rfl
end MN
end
section
/-! ROWS of the abstract machine for values of a known form: nI a, z01 (decide p) -/
theorem nd_lt {a b : Nat} (ha : a < 2 ^ 31) (hb : b < 2 ^ 31) : (nI a < nI b) = (a < b) := propext (nI_ltI ha hb)
theorem nd_le {a b : Nat} (ha : a < 2 ^ 31) (hb : b < 2 ^ 31) : (nI a ≤ nI b) = (a ≤ b) := propext (nI_leI ha hb)
theorem nd_eq {a b : Nat} (ha : a < 2 ^ 31) (hb : b < 2 ^ 31) : (nI a = nI b) = (a = b) := propext (nI_eq ha hb)
section RN
variable {X : List Int32} {k pc n : Nat} {ls : List (Option Value)} {st st2 : List Value} {w w2 : ab_W} {v : Option Value} {Q : Option Value → ab_W → Prop}
theorem ab_Nadd {a b : Nat} {x y : Int32} (h : ab_lk (it_ (ab_mi k)) pc = some (.iadd, n)) (hx : x = nI a) (hy : y = nI b) (t : ab_G X k (pc + 1) ls (.int (nI (a + b)) :: st) w v w2) : ab_G X k pc ls (.int y :: .int x :: st) w v w2 := by
  refine ab_s (st' := .int (x + y) :: st) (pc' := pc + 1) (ls' := ls) (w' := w) ?_ ?_
  · rw [ab_stp_of h]
    rfl
  · rw [show x + y = nI (a + b) from by rw [hx, hy, nI_add]]
    exact t
theorem h_Nadd {a b : Nat} {x y : Int32} (h : ab_lk (it_ (ab_mi k)) pc = some (.iadd, n)) (hx : x = nI a) (hy : y = nI b) (t : ab_H X k (pc + 1) ls (.int (nI (a + b)) :: st) w Q) : ab_H X k pc ls (.int y :: .int x :: st) w Q := by
  obtain ⟨v, w2, h1, h2⟩ := t
  exact ⟨v, w2, ab_Nadd h hx hy h1, h2⟩
theorem ab_Nmul {a b : Nat} {x y : Int32} (h : ab_lk (it_ (ab_mi k)) pc = some (.imul, n)) (hx : x = nI a) (hy : y = nI b) (t : ab_G X k (pc + 1) ls (.int (nI (a * b)) :: st) w v w2) : ab_G X k pc ls (.int y :: .int x :: st) w v w2 := by
  refine ab_s (st' := .int (x * y) :: st) (pc' := pc + 1) (ls' := ls) (w' := w) ?_ ?_
  · rw [ab_stp_of h]
    rfl
  · rw [show x * y = nI (a * b) from by rw [hx, hy, pk_mul]]
    exact t
theorem h_Nmul {a b : Nat} {x y : Int32} (h : ab_lk (it_ (ab_mi k)) pc = some (.imul, n)) (hx : x = nI a) (hy : y = nI b) (t : ab_H X k (pc + 1) ls (.int (nI (a * b)) :: st) w Q) : ab_H X k pc ls (.int y :: .int x :: st) w Q := by
  obtain ⟨v, w2, h1, h2⟩ := t
  exact ⟨v, w2, ab_Nmul h hx hy h1, h2⟩
theorem ab_Nsub {a b : Nat} {x y : Int32} (h : ab_lk (it_ (ab_mi k)) pc = some (.isub, n)) (hx : x = nI a) (hy : y = nI b) (hle : b ≤ a) (t : ab_G X k (pc + 1) ls (.int (nI (a - b)) :: st) w v w2) : ab_G X k pc ls (.int y :: .int x :: st) w v w2 := by
  refine ab_s (st' := .int (x - y) :: st) (pc' := pc + 1) (ls' := ls) (w' := w) ?_ ?_
  · rw [ab_stp_of h]
    rfl
  · rw [show x - y = nI (a - b) from by rw [hx, hy, pk_sub hle]]
    exact t
theorem h_Nsub {a b : Nat} {x y : Int32} (h : ab_lk (it_ (ab_mi k)) pc = some (.isub, n)) (hx : x = nI a) (hy : y = nI b) (hle : b ≤ a) (t : ab_H X k (pc + 1) ls (.int (nI (a - b)) :: st) w Q) : ab_H X k pc ls (.int y :: .int x :: st) w Q := by
  obtain ⟨v, w2, h1, h2⟩ := t
  exact ⟨v, w2, ab_Nsub h hx hy hle h1, h2⟩
theorem ab_Ndiv {a b : Nat} {x y : Int32} (h : ab_lk (it_ (ab_mi k)) pc = some (.idiv, n)) (hx : x = nI a) (hy : y = nI b) (ha : a < 2 ^ 31) (h0 : 0 < b) (hb : b < 2 ^ 31) (t : ab_G X k (pc + 1) ls (.int (nI (a / b)) :: st) w v w2) : ab_G X k pc ls (.int y :: .int x :: st) w v w2 :=
  ab_div h (by rw [hy]; exact nI_ne0 h0 hb) (by rw [hx, hy]; exact pk_div ha h0 hb) t
theorem h_Ndiv {a b : Nat} {x y : Int32} (h : ab_lk (it_ (ab_mi k)) pc = some (.idiv, n)) (hx : x = nI a) (hy : y = nI b) (ha : a < 2 ^ 31) (h0 : 0 < b) (hb : b < 2 ^ 31) (t : ab_H X k (pc + 1) ls (.int (nI (a / b)) :: st) w Q) : ab_H X k pc ls (.int y :: .int x :: st) w Q := by
  obtain ⟨v, w2, h1, h2⟩ := t
  exact ⟨v, w2, ab_Ndiv h hx hy ha h0 hb h1, h2⟩
theorem ab_Nrem {a b : Nat} {x y : Int32} (h : ab_lk (it_ (ab_mi k)) pc = some (.irem, n)) (hx : x = nI a) (hy : y = nI b) (ha : a < 2 ^ 31) (h0 : 0 < b) (hb : b < 2 ^ 31) (t : ab_G X k (pc + 1) ls (.int (nI (a % b)) :: st) w v w2) : ab_G X k pc ls (.int y :: .int x :: st) w v w2 :=
  ab_rem h (by rw [hy]; exact nI_ne0 h0 hb) (by rw [hx, hy]; exact pk_rem ha h0 hb) t
theorem h_Nrem {a b : Nat} {x y : Int32} (h : ab_lk (it_ (ab_mi k)) pc = some (.irem, n)) (hx : x = nI a) (hy : y = nI b) (ha : a < 2 ^ 31) (h0 : 0 < b) (hb : b < 2 ^ 31) (t : ab_H X k (pc + 1) ls (.int (nI (a % b)) :: st) w Q) : ab_H X k pc ls (.int y :: .int x :: st) w Q := by
  obtain ⟨v, w2, h1, h2⟩ := t
  exact ⟨v, w2, ab_Nrem h hx hy ha h0 hb h1, h2⟩
theorem jN_eq {off : Int} {a b t : Nat} {x y : Int32} (h : ab_lk (it_ (ab_mi k)) pc = some (.if_icmp .eq off, n)) (ht : ab_tg pc off = some t) (hx : x = nI a) (hy : y = nI b) (ha : a < 2 ^ 31) (hb : b < 2 ^ 31) (kt : a = b → ab_G X k t ls st w v w2) (kf : ¬ a = b → ab_G X k (pc + 3) ls st w v w2) : ab_G X k pc ls (.int y :: .int x :: st) w v w2 := by
  subst hx
  subst hy
  exact j2_eq h ht (fun e => kt (by rw [nd_eq ha hb] at e; exact e)) (fun e => kf (by rw [nd_eq ha hb] at e; exact e))
theorem jM_eq {off : Int} {a b t : Nat} {x : Int32} (h : ab_lk (it_ (ab_mi k)) pc = some (.ifCond .eq off, n)) (ht : ab_tg pc off = some t) (hx : x = nI a) (hb0 : 0 = b) (ha : a < 2 ^ 31) (kt : a = b → ab_G X k t ls st w v w2) (kf : ¬ a = b → ab_G X k (pc + 3) ls st w v w2) : ab_G X k pc ls (.int x :: st) w v w2 := by
  subst hx
  subst hb0
  exact j1_eq h ht (fun e => kt (by rw [show (0 : Int32) = nI 0 from rfl, nd_eq ha (by decide)] at e; exact e)) (fun e => kf (by rw [show (0 : Int32) = nI 0 from rfl, nd_eq ha (by decide)] at e; exact e))
theorem hN_eq {off : Int} {a b t : Nat} {x y : Int32} (h : ab_lk (it_ (ab_mi k)) pc = some (.if_icmp .eq off, n)) (ht : ab_tg pc off = some t) (hx : x = nI a) (hy : y = nI b) (ha : a < 2 ^ 31) (hb : b < 2 ^ 31) (kt : a = b → ab_H X k t ls st w Q) (kf : ¬ a = b → ab_H X k (pc + 3) ls st w Q) : ab_H X k pc ls (.int y :: .int x :: st) w Q := by
  subst hx
  subst hy
  exact h2_eq h ht (fun e => kt (by rw [nd_eq ha hb] at e; exact e)) (fun e => kf (by rw [nd_eq ha hb] at e; exact e))
theorem hM_eq {off : Int} {a b t : Nat} {x : Int32} (h : ab_lk (it_ (ab_mi k)) pc = some (.ifCond .eq off, n)) (ht : ab_tg pc off = some t) (hx : x = nI a) (hb0 : 0 = b) (ha : a < 2 ^ 31) (kt : a = b → ab_H X k t ls st w Q) (kf : ¬ a = b → ab_H X k (pc + 3) ls st w Q) : ab_H X k pc ls (.int x :: st) w Q := by
  subst hx
  subst hb0
  exact h1_eq h ht (fun e => kt (by rw [show (0 : Int32) = nI 0 from rfl, nd_eq ha (by decide)] at e; exact e)) (fun e => kf (by rw [show (0 : Int32) = nI 0 from rfl, nd_eq ha (by decide)] at e; exact e))
theorem jN_ne {off : Int} {a b t : Nat} {x y : Int32} (h : ab_lk (it_ (ab_mi k)) pc = some (.if_icmp .ne off, n)) (ht : ab_tg pc off = some t) (hx : x = nI a) (hy : y = nI b) (ha : a < 2 ^ 31) (hb : b < 2 ^ 31) (kt : ¬ a = b → ab_G X k t ls st w v w2) (kf : a = b → ab_G X k (pc + 3) ls st w v w2) : ab_G X k pc ls (.int y :: .int x :: st) w v w2 := by
  subst hx
  subst hy
  exact j2_ne h ht (fun e => kt (by rw [nd_eq ha hb] at e; exact e)) (fun e => kf (by rw [nd_eq ha hb] at e; exact e))
theorem jM_ne {off : Int} {a b t : Nat} {x : Int32} (h : ab_lk (it_ (ab_mi k)) pc = some (.ifCond .ne off, n)) (ht : ab_tg pc off = some t) (hx : x = nI a) (hb0 : 0 = b) (ha : a < 2 ^ 31) (kt : ¬ a = b → ab_G X k t ls st w v w2) (kf : a = b → ab_G X k (pc + 3) ls st w v w2) : ab_G X k pc ls (.int x :: st) w v w2 := by
  subst hx
  subst hb0
  exact j1_ne h ht (fun e => kt (by rw [show (0 : Int32) = nI 0 from rfl, nd_eq ha (by decide)] at e; exact e)) (fun e => kf (by rw [show (0 : Int32) = nI 0 from rfl, nd_eq ha (by decide)] at e; exact e))
theorem hN_ne {off : Int} {a b t : Nat} {x y : Int32} (h : ab_lk (it_ (ab_mi k)) pc = some (.if_icmp .ne off, n)) (ht : ab_tg pc off = some t) (hx : x = nI a) (hy : y = nI b) (ha : a < 2 ^ 31) (hb : b < 2 ^ 31) (kt : ¬ a = b → ab_H X k t ls st w Q) (kf : a = b → ab_H X k (pc + 3) ls st w Q) : ab_H X k pc ls (.int y :: .int x :: st) w Q := by
  subst hx
  subst hy
  exact h2_ne h ht (fun e => kt (by rw [nd_eq ha hb] at e; exact e)) (fun e => kf (by rw [nd_eq ha hb] at e; exact e))
theorem hM_ne {off : Int} {a b t : Nat} {x : Int32} (h : ab_lk (it_ (ab_mi k)) pc = some (.ifCond .ne off, n)) (ht : ab_tg pc off = some t) (hx : x = nI a) (hb0 : 0 = b) (ha : a < 2 ^ 31) (kt : ¬ a = b → ab_H X k t ls st w Q) (kf : a = b → ab_H X k (pc + 3) ls st w Q) : ab_H X k pc ls (.int x :: st) w Q := by
  subst hx
  subst hb0
  exact h1_ne h ht (fun e => kt (by rw [show (0 : Int32) = nI 0 from rfl, nd_eq ha (by decide)] at e; exact e)) (fun e => kf (by rw [show (0 : Int32) = nI 0 from rfl, nd_eq ha (by decide)] at e; exact e))
theorem jN_lt {off : Int} {a b t : Nat} {x y : Int32} (h : ab_lk (it_ (ab_mi k)) pc = some (.if_icmp .lt off, n)) (ht : ab_tg pc off = some t) (hx : x = nI a) (hy : y = nI b) (ha : a < 2 ^ 31) (hb : b < 2 ^ 31) (kt : a < b → ab_G X k t ls st w v w2) (kf : ¬ a < b → ab_G X k (pc + 3) ls st w v w2) : ab_G X k pc ls (.int y :: .int x :: st) w v w2 := by
  subst hx
  subst hy
  exact j2_lt h ht (fun e => kt (by rw [nd_lt ha hb] at e; exact e)) (fun e => kf (by rw [nd_lt ha hb] at e; exact e))
theorem jM_lt {off : Int} {a b t : Nat} {x : Int32} (h : ab_lk (it_ (ab_mi k)) pc = some (.ifCond .lt off, n)) (ht : ab_tg pc off = some t) (hx : x = nI a) (hb0 : 0 = b) (ha : a < 2 ^ 31) (kt : a < b → ab_G X k t ls st w v w2) (kf : ¬ a < b → ab_G X k (pc + 3) ls st w v w2) : ab_G X k pc ls (.int x :: st) w v w2 := by
  subst hx
  subst hb0
  exact j1_lt h ht (fun e => kt (by rw [show (0 : Int32) = nI 0 from rfl, nd_lt ha (by decide)] at e; exact e)) (fun e => kf (by rw [show (0 : Int32) = nI 0 from rfl, nd_lt ha (by decide)] at e; exact e))
theorem hN_lt {off : Int} {a b t : Nat} {x y : Int32} (h : ab_lk (it_ (ab_mi k)) pc = some (.if_icmp .lt off, n)) (ht : ab_tg pc off = some t) (hx : x = nI a) (hy : y = nI b) (ha : a < 2 ^ 31) (hb : b < 2 ^ 31) (kt : a < b → ab_H X k t ls st w Q) (kf : ¬ a < b → ab_H X k (pc + 3) ls st w Q) : ab_H X k pc ls (.int y :: .int x :: st) w Q := by
  subst hx
  subst hy
  exact h2_lt h ht (fun e => kt (by rw [nd_lt ha hb] at e; exact e)) (fun e => kf (by rw [nd_lt ha hb] at e; exact e))
theorem hM_lt {off : Int} {a b t : Nat} {x : Int32} (h : ab_lk (it_ (ab_mi k)) pc = some (.ifCond .lt off, n)) (ht : ab_tg pc off = some t) (hx : x = nI a) (hb0 : 0 = b) (ha : a < 2 ^ 31) (kt : a < b → ab_H X k t ls st w Q) (kf : ¬ a < b → ab_H X k (pc + 3) ls st w Q) : ab_H X k pc ls (.int x :: st) w Q := by
  subst hx
  subst hb0
  exact h1_lt h ht (fun e => kt (by rw [show (0 : Int32) = nI 0 from rfl, nd_lt ha (by decide)] at e; exact e)) (fun e => kf (by rw [show (0 : Int32) = nI 0 from rfl, nd_lt ha (by decide)] at e; exact e))
theorem jN_ge {off : Int} {a b t : Nat} {x y : Int32} (h : ab_lk (it_ (ab_mi k)) pc = some (.if_icmp .ge off, n)) (ht : ab_tg pc off = some t) (hx : x = nI a) (hy : y = nI b) (ha : a < 2 ^ 31) (hb : b < 2 ^ 31) (kt : b ≤ a → ab_G X k t ls st w v w2) (kf : ¬ b ≤ a → ab_G X k (pc + 3) ls st w v w2) : ab_G X k pc ls (.int y :: .int x :: st) w v w2 := by
  subst hx
  subst hy
  exact j2_ge h ht (fun e => kt (by rw [nd_le hb ha] at e; exact e)) (fun e => kf (by rw [nd_le hb ha] at e; exact e))
theorem jM_ge {off : Int} {a b t : Nat} {x : Int32} (h : ab_lk (it_ (ab_mi k)) pc = some (.ifCond .ge off, n)) (ht : ab_tg pc off = some t) (hx : x = nI a) (hb0 : 0 = b) (ha : a < 2 ^ 31) (kt : b ≤ a → ab_G X k t ls st w v w2) (kf : ¬ b ≤ a → ab_G X k (pc + 3) ls st w v w2) : ab_G X k pc ls (.int x :: st) w v w2 := by
  subst hx
  subst hb0
  exact j1_ge h ht (fun e => kt (by rw [show (0 : Int32) = nI 0 from rfl, nd_le (by decide) ha] at e; exact e)) (fun e => kf (by rw [show (0 : Int32) = nI 0 from rfl, nd_le (by decide) ha] at e; exact e))
theorem hN_ge {off : Int} {a b t : Nat} {x y : Int32} (h : ab_lk (it_ (ab_mi k)) pc = some (.if_icmp .ge off, n)) (ht : ab_tg pc off = some t) (hx : x = nI a) (hy : y = nI b) (ha : a < 2 ^ 31) (hb : b < 2 ^ 31) (kt : b ≤ a → ab_H X k t ls st w Q) (kf : ¬ b ≤ a → ab_H X k (pc + 3) ls st w Q) : ab_H X k pc ls (.int y :: .int x :: st) w Q := by
  subst hx
  subst hy
  exact h2_ge h ht (fun e => kt (by rw [nd_le hb ha] at e; exact e)) (fun e => kf (by rw [nd_le hb ha] at e; exact e))
theorem hM_ge {off : Int} {a b t : Nat} {x : Int32} (h : ab_lk (it_ (ab_mi k)) pc = some (.ifCond .ge off, n)) (ht : ab_tg pc off = some t) (hx : x = nI a) (hb0 : 0 = b) (ha : a < 2 ^ 31) (kt : b ≤ a → ab_H X k t ls st w Q) (kf : ¬ b ≤ a → ab_H X k (pc + 3) ls st w Q) : ab_H X k pc ls (.int x :: st) w Q := by
  subst hx
  subst hb0
  exact h1_ge h ht (fun e => kt (by rw [show (0 : Int32) = nI 0 from rfl, nd_le (by decide) ha] at e; exact e)) (fun e => kf (by rw [show (0 : Int32) = nI 0 from rfl, nd_le (by decide) ha] at e; exact e))
theorem jN_gt {off : Int} {a b t : Nat} {x y : Int32} (h : ab_lk (it_ (ab_mi k)) pc = some (.if_icmp .gt off, n)) (ht : ab_tg pc off = some t) (hx : x = nI a) (hy : y = nI b) (ha : a < 2 ^ 31) (hb : b < 2 ^ 31) (kt : b < a → ab_G X k t ls st w v w2) (kf : ¬ b < a → ab_G X k (pc + 3) ls st w v w2) : ab_G X k pc ls (.int y :: .int x :: st) w v w2 := by
  subst hx
  subst hy
  exact j2_gt h ht (fun e => kt (by rw [nd_lt hb ha] at e; exact e)) (fun e => kf (by rw [nd_lt hb ha] at e; exact e))
theorem jM_gt {off : Int} {a b t : Nat} {x : Int32} (h : ab_lk (it_ (ab_mi k)) pc = some (.ifCond .gt off, n)) (ht : ab_tg pc off = some t) (hx : x = nI a) (hb0 : 0 = b) (ha : a < 2 ^ 31) (kt : b < a → ab_G X k t ls st w v w2) (kf : ¬ b < a → ab_G X k (pc + 3) ls st w v w2) : ab_G X k pc ls (.int x :: st) w v w2 := by
  subst hx
  subst hb0
  exact j1_gt h ht (fun e => kt (by rw [show (0 : Int32) = nI 0 from rfl, nd_lt (by decide) ha] at e; exact e)) (fun e => kf (by rw [show (0 : Int32) = nI 0 from rfl, nd_lt (by decide) ha] at e; exact e))
theorem hN_gt {off : Int} {a b t : Nat} {x y : Int32} (h : ab_lk (it_ (ab_mi k)) pc = some (.if_icmp .gt off, n)) (ht : ab_tg pc off = some t) (hx : x = nI a) (hy : y = nI b) (ha : a < 2 ^ 31) (hb : b < 2 ^ 31) (kt : b < a → ab_H X k t ls st w Q) (kf : ¬ b < a → ab_H X k (pc + 3) ls st w Q) : ab_H X k pc ls (.int y :: .int x :: st) w Q := by
  subst hx
  subst hy
  exact h2_gt h ht (fun e => kt (by rw [nd_lt hb ha] at e; exact e)) (fun e => kf (by rw [nd_lt hb ha] at e; exact e))
theorem hM_gt {off : Int} {a b t : Nat} {x : Int32} (h : ab_lk (it_ (ab_mi k)) pc = some (.ifCond .gt off, n)) (ht : ab_tg pc off = some t) (hx : x = nI a) (hb0 : 0 = b) (ha : a < 2 ^ 31) (kt : b < a → ab_H X k t ls st w Q) (kf : ¬ b < a → ab_H X k (pc + 3) ls st w Q) : ab_H X k pc ls (.int x :: st) w Q := by
  subst hx
  subst hb0
  exact h1_gt h ht (fun e => kt (by rw [show (0 : Int32) = nI 0 from rfl, nd_lt (by decide) ha] at e; exact e)) (fun e => kf (by rw [show (0 : Int32) = nI 0 from rfl, nd_lt (by decide) ha] at e; exact e))
theorem jN_le {off : Int} {a b t : Nat} {x y : Int32} (h : ab_lk (it_ (ab_mi k)) pc = some (.if_icmp .le off, n)) (ht : ab_tg pc off = some t) (hx : x = nI a) (hy : y = nI b) (ha : a < 2 ^ 31) (hb : b < 2 ^ 31) (kt : a ≤ b → ab_G X k t ls st w v w2) (kf : ¬ a ≤ b → ab_G X k (pc + 3) ls st w v w2) : ab_G X k pc ls (.int y :: .int x :: st) w v w2 := by
  subst hx
  subst hy
  exact j2_le h ht (fun e => kt (by rw [nd_le ha hb] at e; exact e)) (fun e => kf (by rw [nd_le ha hb] at e; exact e))
theorem jM_le {off : Int} {a b t : Nat} {x : Int32} (h : ab_lk (it_ (ab_mi k)) pc = some (.ifCond .le off, n)) (ht : ab_tg pc off = some t) (hx : x = nI a) (hb0 : 0 = b) (ha : a < 2 ^ 31) (kt : a ≤ b → ab_G X k t ls st w v w2) (kf : ¬ a ≤ b → ab_G X k (pc + 3) ls st w v w2) : ab_G X k pc ls (.int x :: st) w v w2 := by
  subst hx
  subst hb0
  exact j1_le h ht (fun e => kt (by rw [show (0 : Int32) = nI 0 from rfl, nd_le ha (by decide)] at e; exact e)) (fun e => kf (by rw [show (0 : Int32) = nI 0 from rfl, nd_le ha (by decide)] at e; exact e))
theorem hN_le {off : Int} {a b t : Nat} {x y : Int32} (h : ab_lk (it_ (ab_mi k)) pc = some (.if_icmp .le off, n)) (ht : ab_tg pc off = some t) (hx : x = nI a) (hy : y = nI b) (ha : a < 2 ^ 31) (hb : b < 2 ^ 31) (kt : a ≤ b → ab_H X k t ls st w Q) (kf : ¬ a ≤ b → ab_H X k (pc + 3) ls st w Q) : ab_H X k pc ls (.int y :: .int x :: st) w Q := by
  subst hx
  subst hy
  exact h2_le h ht (fun e => kt (by rw [nd_le ha hb] at e; exact e)) (fun e => kf (by rw [nd_le ha hb] at e; exact e))
theorem hM_le {off : Int} {a b t : Nat} {x : Int32} (h : ab_lk (it_ (ab_mi k)) pc = some (.ifCond .le off, n)) (ht : ab_tg pc off = some t) (hx : x = nI a) (hb0 : 0 = b) (ha : a < 2 ^ 31) (kt : a ≤ b → ab_H X k t ls st w Q) (kf : ¬ a ≤ b → ab_H X k (pc + 3) ls st w Q) : ab_H X k pc ls (.int x :: st) w Q := by
  subst hx
  subst hb0
  exact h1_le h ht (fun e => kt (by rw [show (0 : Int32) = nI 0 from rfl, nd_le ha (by decide)] at e; exact e)) (fun e => kf (by rw [show (0 : Int32) = nI 0 from rfl, nd_le ha (by decide)] at e; exact e))
theorem d1_eq {off : Int} {p : Prop} {hp : Decidable p} {t : Nat} (h : ab_lk (it_ (ab_mi k)) pc = some (.ifCond .eq off, n)) (ht : ab_tg pc off = some t) (kt : ¬ p → ab_G X k t ls st w v w2) (kf : p → ab_G X k (pc + 3) ls st w v w2) : ab_G X k pc ls (.int (z01 (decide p)) :: st) w v w2 :=
  z1_eq h ht (fun e => kt (of_decide_eq_false e)) (fun e => kf (of_decide_eq_true e))
theorem d1_ne {off : Int} {p : Prop} {hp : Decidable p} {t : Nat} (h : ab_lk (it_ (ab_mi k)) pc = some (.ifCond .ne off, n)) (ht : ab_tg pc off = some t) (kt : p → ab_G X k t ls st w v w2) (kf : ¬ p → ab_G X k (pc + 3) ls st w v w2) : ab_G X k pc ls (.int (z01 (decide p)) :: st) w v w2 :=
  z1_ne h ht (fun e => kt (of_decide_eq_true e)) (fun e => kf (of_decide_eq_false e))
theorem hd_eq {off : Int} {p : Prop} {hp : Decidable p} {t : Nat} (h : ab_lk (it_ (ab_mi k)) pc = some (.ifCond .eq off, n)) (ht : ab_tg pc off = some t) (kt : ¬ p → ab_H X k t ls st w Q) (kf : p → ab_H X k (pc + 3) ls st w Q) : ab_H X k pc ls (.int (z01 (decide p)) :: st) w Q :=
  hz_eq h ht (fun e => kt (of_decide_eq_false e)) (fun e => kf (of_decide_eq_true e))
theorem hd_ne {off : Int} {p : Prop} {hp : Decidable p} {t : Nat} (h : ab_lk (it_ (ab_mi k)) pc = some (.ifCond .ne off, n)) (ht : ab_tg pc off = some t) (kt : p → ab_H X k t ls st w Q) (kf : ¬ p → ab_H X k (pc + 3) ls st w Q) : ab_H X k pc ls (.int (z01 (decide p)) :: st) w Q :=
  hz_ne h ht (fun e => kt (of_decide_eq_true e)) (fun e => kf (of_decide_eq_false e))
/-- a call on an object, what holds then -/
theorem h_ru {v0 : Option Value} {w' : ab_W} (h : ab_stp X (ab_mi k) pc ls st w = some (.inr (.inl (v0, w')))) (q : Q v0 w') : ab_H X k pc ls st w Q := h_r h q
theorem ab_rd {p : Prop} {hp : Decidable p} {x y : Int32} (h : ab_lk (it_ (ab_mi k)) pc = some (.ireturn, n)) (hr : ir (ab_mi k) = some .boolean) (e : x = z01 (decide p)) (e2 : z01 (decide p) = y) : ab_G X k pc ls [.int x] w (some (.int y)) w := by
  subst e
  subst e2
  exact ab_rb h hr (z01_or _) rfl
/-- the value of a switch by its number -/
theorem ab_Nsw {a : Nat} {d lo hi : Int} {offs : Array Int} {x : Int32} {off : Int} {t : Nat} (h : ab_lk (it_ (ab_mi k)) pc = some (.tableswitch d lo hi offs, n)) (hx : x = nI a) (h1 : (decide ((nI a).toInt < lo) || decide (hi < (nI a).toInt)) = false) (ho : offs.toList[((nI a).toInt - lo).toNat]? = some off) (ht : ab_tg pc off = some t) (kk : ab_G X k t ls st w v w2) : ab_G X k pc ls (.int x :: st) w v w2 := by
  subst hx
  exact ab_sw h h1 ho ht kk
theorem h_Nsw {a : Nat} {d lo hi : Int} {offs : Array Int} {x : Int32} {off : Int} {t : Nat} (h : ab_lk (it_ (ab_mi k)) pc = some (.tableswitch d lo hi offs, n)) (hx : x = nI a) (h1 : (decide ((nI a).toInt < lo) || decide (hi < (nI a).toInt)) = false) (ho : offs.toList[((nI a).toInt - lo).toNat]? = some off) (ht : ab_tg pc off = some t) (kk : ab_H X k t ls st w Q) : ab_H X k pc ls (.int x :: st) w Q := by
  subst hx
  exact h_sw h h1 ho ht kk
end RN
theorem z01_inj {a b : Bool} (h : z01 a = z01 b) : a = b := by cases a <;> cases b <;> first | rfl | exact absurd h (by decide)
theorem inN_nI {a m : Nat} (ha : a < 2 ^ 31) : inN (nI a) m = decide (a < m) := by
  unfold inN
  rw [nI_toInt ha]
  exact decide_eq_decide.mpr ⟨fun h => by omega, fun h => by omega⟩
theorem inN_neg {x : Int32} {m : Nat} (h : x.toInt < 0) : inN x m = false := by
  unfold inN
  exact decide_eq_false (by omega)
theorem inN_m1 (m : Nat) : inN (-1) m = false := inN_neg (by decide)
end
section
/-! THE CLASS: its small helpers -/
theorem inN_lt0 {x : Int32} {m : Nat} (h : x < 0) : inN x m = false := inN_neg (by rw [lt_iff] at h; exact h)
theorem inN_geN {x : Int32} {m : Nat} (hm : m < 2 ^ 31) (h : nI m ≤ x) : inN x m = false := by
  rw [le_iff, nI_toInt hm] at h
  exact decide_eq_false (by omega)
theorem inN_mid {x : Int32} {m : Nat} (hm : m < 2 ^ 31) (h0 : ¬ x < 0) (h : ¬ nI m ≤ x) : inN x m = true := by
  rw [le_iff, nI_toInt hm] at h
  rw [lt_iff] at h0
  have h1 : ¬ x.toInt < 0 := h0
  exact decide_eq_true (by omega)
theorem cellD {xs : List Int32} {j : Nat} (h : ¬ j < xs.length) : xs.getD j 0 = 0 := by
  rw [List.getD_eq_getElem?_getD, List.getElem?_eq_none (by omega)]
  rfl
/-- the number of ones, as Integer.bitCount finds it -/
def pcI (x : Int32) : Int32 :=
  let a := x - ((x.toUInt32 >>> ((1 : Int32).toUInt32 &&& Int32.toUInt32 31)).toInt32 &&& 1431655765)
  let b := (a &&& 858993459) + ((a.toUInt32 >>> ((2 : Int32).toUInt32 &&& Int32.toUInt32 31)).toInt32 &&& 858993459)
  let c := (b + (b.toUInt32 >>> ((4 : Int32).toUInt32 &&& Int32.toUInt32 31)).toInt32) &&& 252645135
  let d := c + (c.toUInt32 >>> ((8 : Int32).toUInt32 &&& Int32.toUInt32 31)).toInt32
  (d + (d.toUInt32 >>> ((16 : Int32).toUInt32 &&& Int32.toUInt32 31)).toInt32) &&& 63
theorem pc_256 : ∀ m, m < 256 → pcI (nI m) = nI (cntR (bt (nI m)) 8) := by decide +kernel
def wayS (h : Nat) (b : Int32) : Bool := !decide (b < -1) && !decide (1 < b) && !((decide (b = 0) && decide (h = 0)) || (decide (b = 1) && decide (h = 7)))
section XA
variable {X : List Int32} {w : ab_W}
set_option maxRecDepth 100000 in
set_option maxHeartbeats 4000000 in
theorem x_isBelow (x : Int32) (m : Nat) (hm : m < 2 ^ 31) : ab_M X kX5_isBelow [.int x, .int (nI m)] w (some (.int (z01 (inN x m)))) w := by
  show ab_G X kX5_isBelow 0 [some (.int x), some (.int (nI m))] [] w _ _
  refine ab_s rfl ?_
  refine j1_lt rfl rfl (fun h1 => ?_) (fun h1 => ?_)
  · refine ab_k (y := 0) rfl rfl ?_
    exact ab_ri rfl (by first | (rw [inN_lt0 h1]; rfl) | (rw [inN_geN hm h6]; rfl) | (rw [inN_mid hm h1 h6]; rfl))
  · iterate 2 refine ab_s rfl ?_
    refine j2_ge rfl rfl (fun h6 => ?_) (fun h6 => ?_)
    · refine ab_k (y := 0) rfl rfl ?_
      exact ab_ri rfl (by first | (rw [inN_lt0 h1]; rfl) | (rw [inN_geN hm h6]; rfl) | (rw [inN_mid hm h1 h6]; rfl))
    · refine ab_k (y := 1) rfl rfl ?_
      refine ab_s rfl ?_
      exact ab_ri rfl (by first | (rw [inN_lt0 h1]; rfl) | (rw [inN_geN hm h6]; rfl) | (rw [inN_mid hm h1 h6]; rfl))
theorem x_isBelowN {j m : Nat} (hj : j < 2 ^ 31) (hm : m < 2 ^ 31) : ab_M X kX5_isBelow [.int (nI j), .int (nI m)] w (some (.int (z01 (decide (j < m))))) w := by
  have h := x_isBelow (X := X) (w := w) (nI j) m hm
  rw [inN_nI hj] at h
  exact h
set_option maxRecDepth 100000 in
set_option maxHeartbeats 4000000 in
theorem x_isIn (x : Int32) {j : Nat} (hj : j < 32) : ab_M X kX5_isIn [.int x, .int (nI j)] w (some (.int (z01 (bt x j)))) w := by
  show ab_G X kX5_isIn 0 [some (.int x), some (.int (nI j))] [] w _ _
  iterate 3 refine ab_s rfl ?_
  refine ab_k (y := 1) rfl rfl ?_
  refine ab_s rfl ?_
  refine ab_t (x := (x >>> (nI j &&& 31)) &&& 1) (b_one x hj) ?_
  cases bt x j
  · iterate 2 refine ab_s rfl ?_
    exact ab_ri rfl rfl
  · iterate 3 refine ab_s rfl ?_
    exact ab_ri rfl rfl
theorem x_isInB (p : Nat → Bool) {m j : Nat} (hm : m ≤ 32) (hj : j < m) : ab_M X kX5_isIn [.int (bs p m), .int (nI j)] w (some (.int (z01 (p j)))) w := by
  have h := x_isIn (X := X) (w := w) (bs p m) (show j < 32 by omega)
  rw [bt_bs _ _ _ hm (by omega), decide_eq_true hj, Bool.true_and] at h
  exact h
set_option maxRecDepth 100000 in
set_option maxHeartbeats 4000000 in
theorem x_marked (x : Int32) (f : Nat) (z : Bool) : ab_M X kX5_marked [.int x, .int (nI f), .int (z01 z)] w (some (.int (markI x f z))) w := by
  show ab_G X kX5_marked 0 [some (.int x), some (.int (nI f)), some (.int (z01 z))] [] w _ _
  refine ab_s rfl ?_
  refine z1_eq rfl rfl (fun h1 => ?_) (fun h1 => ?_)
  · refine ab_s rfl ?_
    refine ab_k (y := 1) rfl rfl ?_
    iterate 2 refine ab_s rfl ?_
    refine ab_k (y := (-1)) rfl rfl ?_
    iterate 2 refine ab_s rfl ?_
    exact ab_ri rfl (by rw [h1]; rfl)
  · refine ab_s rfl ?_
    refine ab_k (y := 1) rfl rfl ?_
    iterate 4 refine ab_s rfl ?_
    exact ab_ri rfl (by rw [h1]; rfl)
set_option maxRecDepth 100000 in
set_option maxHeartbeats 4000000 in
theorem x_cell {r : Nat} {xs : List Int32} (hw : w[r]? = some (.inr xs)) (hm : xs.length < 2 ^ 31) {j : Nat} (hj : j < xs.length) : ab_M X kX5_cell [.ref r, .int (nI j)] w (some (.int (xs.getD j 0))) w := by
  show ab_G X kX5_cell 0 [some (.ref r), some (.int (nI j))] [] w _ _
  refine ab_s rfl ?_
  refine jM_lt rfl rfl rfl rfl (by omega) (fun h1 => absurd h1 (by omega)) (fun h1 => ?_)
  iterate 2 refine ab_s rfl ?_
  refine ab_al rfl hw rfl ?_
  refine jN_lt rfl rfl rfl rfl (by omega) (by omega) (fun h7 => ?_) (fun h7 => absurd (hj) h7)
  iterate 2 refine ab_s rfl ?_
  refine ab_ia _ rfl hw (by omega) rfl (by omega) ?_
  exact ab_ri rfl rfl
set_option maxRecDepth 100000 in
set_option maxHeartbeats 4000000 in
theorem x_cellO {r : Nat} {xs : List Int32} (hw : w[r]? = some (.inr xs)) (hm : xs.length < 2 ^ 31) (i : Int32) (hi : inN i xs.length = false) : ab_M X kX5_cell [.ref r, .int i] w (some (.int 0)) w := by
  show ab_G X kX5_cell 0 [some (.ref r), some (.int i)] [] w _ _
  refine ab_s rfl ?_
  refine j1_lt rfl rfl (fun h1 => ?_) (fun h1 => ?_)
  · refine ab_k (y := 0) rfl rfl ?_
    refine ab_s rfl ?_
    exact ab_ri rfl rfl
  · iterate 2 refine ab_s rfl ?_
    refine ab_al rfl hw rfl ?_
    refine j2_lt rfl rfl (fun h7 => ?_) (fun h7 => ?_)
    · exact absurd (hi.symm.trans (inN_mid hm h1 (fun q => by rw [le_iff] at q; rw [lt_iff] at h7; omega))) (by decide)
    · refine ab_k (y := 0) rfl rfl ?_
      refine ab_s rfl ?_
      exact ab_ri rfl rfl
set_option maxRecDepth 100000 in
set_option maxHeartbeats 4000000 in
theorem x_cellA {j : Nat} (hj : j < 7) : ab_M X kX5_cell [.retAddr 1, .int (nI j)] w (some (.int (ab_above.getD j 0))) w := by
  show ab_G X kX5_cell 0 [some (.retAddr 1), some (.int (nI j))] [] w _ _
  refine ab_s rfl ?_
  refine jM_lt rfl rfl rfl rfl (by omega) (fun h1 => absurd h1 (by omega)) (fun h1 => ?_)
  iterate 3 refine ab_s rfl ?_
  refine jN_lt (b := 7) rfl rfl rfl rfl (by omega) (by omega) (fun h7 => ?_) (fun h7 => absurd (hj) h7)
  iterate 2 refine ab_s rfl ?_
  refine ab_ix _ rfl rfl (by decide) rfl (by show _ < 7; omega) ?_
  exact ab_ri rfl rfl
/-- a write into an array -/
theorem x_put {r : Nat} {xs : List Int32} (hw : w[r]? = some (.inr xs)) (hm : xs.length < 2 ^ 31) {j : Nat} (hj : j < xs.length) (x : Int32) : ab_Q X kX5_put [.ref r, .int (nI j), .int x] w (fun v w1 => v = none ∧ w1[r]? = some (.inr (xs.set j x)) ∧ ∀ i, i ≠ r → w1[i]? = w[i]?) := by
  show ab_H X kX5_put 0 [some (.ref r), some (.int (nI j)), some (.int x)] [] w _
  refine h_s rfl ?_
  refine hM_lt rfl rfl rfl rfl (by omega) (fun h1 => absurd h1 (by omega)) (fun h1 => ?_)
  iterate 2 refine h_s rfl ?_
  refine h_al rfl hw rfl ?_
  refine hN_ge rfl rfl rfl rfl (by omega) (by omega) (fun h7 => absurd h7 (by omega)) (fun h7 => ?_)
  iterate 3 refine h_s rfl ?_
  refine h_is j rfl hw hm rfl hj (fun w1 e1 f1 => ?_)
  exact h_r rfl ⟨rfl, e1, f1⟩
theorem x_putO {r : Nat} {xs : List Int32} (hw : w[r]? = some (.inr xs)) (hm : xs.length < 2 ^ 31) (i x : Int32) (hi : inN i xs.length = false) : ab_M X kX5_put [.ref r, .int i, .int x] w none w := by
  show ab_G X kX5_put 0 [some (.ref r), some (.int i), some (.int x)] [] w _ _
  refine ab_s rfl ?_
  refine j1_lt rfl rfl (fun h1 => ?_) (fun h1 => ?_)
  · exact ab_r rfl
  · iterate 2 refine ab_s rfl ?_
    refine ab_al rfl hw rfl ?_
    refine j2_ge rfl rfl (fun h7 => ?_) (fun h7 => ?_)
    · exact ab_r rfl
    · exact absurd (hi.symm.trans (inN_mid hm h1 h7)) (by decide)
theorem bs_rooms_t {q : Nat → Bool} {i : Nat} (h : q i = true) (r : Nat) : (decide (r / 2 < i + 1) && q (r / 2)) = ((decide (r / 2 < i) && q (r / 2)) || (decide (r = 2 * i) || decide (r = 2 * i + 1))) := by
  by_cases h1 : r / 2 = i
  · have : r = 2 * i ∨ r = 2 * i + 1 := by omega
    rw [h1, h]
    rcases this with e | e <;> simp [e]
  · have a1 : ¬ r = 2 * i := by omega
    have a2 : ¬ r = 2 * i + 1 := by omega
    have a3 : decide (r / 2 < i + 1) = decide (r / 2 < i) := decide_eq_decide.mpr (by omega)
    rw [a3, decide_eq_false a1, decide_eq_false a2, Bool.or_false, Bool.or_false]
theorem bs_rooms_f {q : Nat → Bool} {i : Nat} (h : q i = false) (r : Nat) : (decide (r / 2 < i + 1) && q (r / 2)) = (decide (r / 2 < i) && q (r / 2)) := by
  by_cases h1 : r / 2 = i
  · rw [h1, h, Bool.and_false, Bool.and_false]
  · rw [show decide (r / 2 < i + 1) = decide (r / 2 < i) from decide_eq_decide.mpr (by omega)]
set_option maxRecDepth 100000 in
set_option maxHeartbeats 4000000 in
theorem x_roomsOf (q : Nat → Bool) : ab_M X kX5_roomsOf [.int (bs q 8)] w (some (.int (bs (fun r => q (r / 2)) 16))) w := by
  show ab_G X kX5_roomsOf 0 [some (.int (bs q 8)), none, none] [] w _ _
  refine ab_k (y := 0) rfl rfl ?_
  refine ab_s rfl ?_
  refine ab_k (y := 0) rfl rfl ?_
  refine ab_s rfl ?_
  refine g_loop0 8 (fun i ls => ls = [some (.int (bs q 8)), some (.int (bs (fun r => decide (r / 2 < i) && q (r / 2)) 16)), some (.int (nI i))]) (by rw [show bs (fun r => decide (r / 2 < 0) && q (r / 2)) 16 = 0 from (bs_zero (by omega)).mpr (fun r _ => by simp)]; rfl) (fun i ls hi hJ ih => ?_) (fun ls hJ => ?_)
  · obtain rfl := hJ
    refine ab_s rfl ?_
    refine ab_k (y := 8) rfl rfl ?_
    refine jN_ge (b := 8) rfl rfl rfl rfl (by omega) (by omega) (fun h7 => absurd h7 (by omega)) (fun h7 => ?_)
    iterate 2 refine ab_s rfl ?_
    refine ab_c rfl (x_isInB q (by omega) hi) ?_
    refine ab_n (st2 := [_]) rfl ?_
    refine z1_eq rfl rfl (fun h15 => ?_) (fun h15 => ?_)
    · refine ab_ii rfl rfl rfl ?_
      refine ab_s rfl ?_
      exact ih _ (by rw [bs_cong (fun r _ => bs_rooms_f (i := i) h15 r)]; rfl)
    · refine ab_s rfl ?_
      refine ab_k (y := 3) rfl rfl ?_
      refine ab_k (y := 2) rfl rfl ?_
      refine ab_s rfl ?_
      refine ab_Nmul (a := 2) rfl rfl rfl ?_
      iterate 3 refine ab_s rfl ?_
      refine ab_ii rfl rfl rfl ?_
      refine ab_s rfl ?_
      exact ih _ (by rw [← bs_or3 (j := 2 * i) (by omega) (by omega) (fun r _ => bs_rooms_t (i := i) h15 r)]; rfl)
  · obtain rfl := hJ
    refine ab_s rfl ?_
    refine ab_k (y := 8) rfl rfl ?_
    refine jN_ge (b := 8) rfl rfl rfl rfl (by omega) (by omega) (fun h7 => ?_) (fun h7 => absurd (by omega) h7)
    refine ab_s rfl ?_
    exact ab_ri rfl (bs_cong (fun r hr => by rw [decide_eq_true (by omega), Bool.true_and]))
set_option maxRecDepth 100000 in
set_option maxHeartbeats 4000000 in
theorem x_isKind (x : Int32) : ab_M X kX0_isKind [.int x] w (some (.int (z01 (inN x 7)))) w := by
  show ab_G X kX0_isKind 0 [some (.int x)] [] w _ _
  iterate 3 refine ab_s rfl ?_
  refine ab_c rfl (x_isBelow x 7 (by omega)) ?_
  refine ab_n (st2 := [_]) rfl ?_
  exact ab_rz rfl rfl rfl
set_option maxRecDepth 100000 in
set_option maxHeartbeats 4000000 in
theorem x_isStair (h : Nat) (hh : h < 8) (b : Int32) : ab_M X kX5_isStair [.int (nI h), .int b] w (some (.int (z01 (wayS h b)))) w := by
  show ab_G X kX5_isStair 0 [some (.int (nI h)), some (.int b), none] [] w _ _
  refine ab_s rfl ?_
  refine j1_ne rfl rfl (fun h1 => ?_) (fun h1 => ?_)
  · refine ab_s rfl ?_
    refine ab_k (y := 1) rfl rfl ?_
    refine j2_ne rfl rfl (fun h10 => ?_) (fun h10 => ?_)
    · refine ab_k (y := 0) rfl rfl ?_
      iterate 2 refine ab_s rfl ?_
      refine ab_k (y := (-1)) rfl rfl ?_
      refine j2_lt rfl rfl (fun h27 => ?_) (fun h27 => ?_)
      · refine ab_k (y := 0) rfl rfl ?_
        exact ab_ri rfl (by first | (simp [wayS, z01, *]; done) | simp_all [wayS, z01])
      · refine ab_s rfl ?_
        refine ab_k (y := 1) rfl rfl ?_
        refine j2_gt rfl rfl (fun h32 => ?_) (fun h32 => ?_)
        · refine ab_k (y := 0) rfl rfl ?_
          exact ab_ri rfl (by first | (simp [wayS, z01, *]; done) | simp_all [wayS, z01])
        · iterate 2 refine ab_s rfl ?_
          refine ab_k (y := 1) rfl rfl ?_
          refine ab_s rfl ?_
          exact ab_ri rfl (by first | (simp [wayS, z01, *]; done) | simp_all [wayS, z01])
    · refine ab_s rfl ?_
      refine ab_k (y := 7) rfl rfl ?_
      refine jN_ne (b := 7) rfl rfl rfl rfl (by omega) (by omega) (fun h16 => ?_) (fun h16 => ?_)
      · refine ab_k (y := 0) rfl rfl ?_
        iterate 2 refine ab_s rfl ?_
        refine ab_k (y := (-1)) rfl rfl ?_
        refine j2_lt rfl rfl (fun h27 => ?_) (fun h27 => ?_)
        · refine ab_k (y := 0) rfl rfl ?_
          exact ab_ri rfl (by first | (simp [wayS, z01, *]; done) | simp_all [wayS, z01])
        · refine ab_s rfl ?_
          refine ab_k (y := 1) rfl rfl ?_
          refine j2_gt rfl rfl (fun h32 => ?_) (fun h32 => ?_)
          · refine ab_k (y := 0) rfl rfl ?_
            exact ab_ri rfl (by first | (simp [wayS, z01, *]; done) | simp_all [wayS, z01])
          · iterate 2 refine ab_s rfl ?_
            refine ab_k (y := 1) rfl rfl ?_
            refine ab_s rfl ?_
            exact ab_ri rfl (by first | (simp [wayS, z01, *]; done) | simp_all [wayS, z01])
      · refine ab_k (y := 1) rfl rfl ?_
        iterate 3 refine ab_s rfl ?_
        refine ab_k (y := (-1)) rfl rfl ?_
        refine j2_lt rfl rfl (fun h27 => ?_) (fun h27 => ?_)
        · refine ab_k (y := 0) rfl rfl ?_
          exact ab_ri rfl (by first | (simp [wayS, z01, *]; done) | simp_all [wayS, z01])
        · refine ab_s rfl ?_
          refine ab_k (y := 1) rfl rfl ?_
          refine j2_gt rfl rfl (fun h32 => ?_) (fun h32 => ?_)
          · refine ab_k (y := 0) rfl rfl ?_
            exact ab_ri rfl (by first | (simp [wayS, z01, *]; done) | simp_all [wayS, z01])
          · iterate 2 refine ab_s rfl ?_
            refine ab_k (y := 0) rfl rfl ?_
            exact ab_ri rfl (by first | (simp [wayS, z01, *]; done) | simp_all [wayS, z01])
  · refine ab_s rfl ?_
    refine jM_eq rfl rfl rfl rfl (by omega) (fun h5 => ?_) (fun h5 => ?_)
    · refine ab_k (y := 1) rfl rfl ?_
      iterate 3 refine ab_s rfl ?_
      refine ab_k (y := (-1)) rfl rfl ?_
      refine j2_lt rfl rfl (fun h27 => ?_) (fun h27 => ?_)
      · refine ab_k (y := 0) rfl rfl ?_
        exact ab_ri rfl (by first | (simp [wayS, z01, *]; done) | simp_all [wayS, z01])
      · refine ab_s rfl ?_
        refine ab_k (y := 1) rfl rfl ?_
        refine j2_gt rfl rfl (fun h32 => ?_) (fun h32 => ?_)
        · refine ab_k (y := 0) rfl rfl ?_
          exact ab_ri rfl (by first | (simp [wayS, z01, *]; done) | simp_all [wayS, z01])
        · iterate 2 refine ab_s rfl ?_
          refine ab_k (y := 0) rfl rfl ?_
          exact ab_ri rfl (by first | (simp [wayS, z01, *]; done) | simp_all [wayS, z01])
    · refine ab_s rfl ?_
      refine ab_k (y := 1) rfl rfl ?_
      refine j2_ne rfl rfl (fun h10 => ?_) (fun h10 => ?_)
      · refine ab_k (y := 0) rfl rfl ?_
        iterate 2 refine ab_s rfl ?_
        refine ab_k (y := (-1)) rfl rfl ?_
        refine j2_lt rfl rfl (fun h27 => ?_) (fun h27 => ?_)
        · refine ab_k (y := 0) rfl rfl ?_
          exact ab_ri rfl (by first | (simp [wayS, z01, *]; done) | simp_all [wayS, z01])
        · refine ab_s rfl ?_
          refine ab_k (y := 1) rfl rfl ?_
          refine j2_gt rfl rfl (fun h32 => ?_) (fun h32 => ?_)
          · refine ab_k (y := 0) rfl rfl ?_
            exact ab_ri rfl (by first | (simp [wayS, z01, *]; done) | simp_all [wayS, z01])
          · iterate 2 refine ab_s rfl ?_
            refine ab_k (y := 1) rfl rfl ?_
            refine ab_s rfl ?_
            exact ab_ri rfl (by first | (simp [wayS, z01, *]; done) | simp_all [wayS, z01])
      · refine ab_s rfl ?_
        refine ab_k (y := 7) rfl rfl ?_
        refine jN_ne (b := 7) rfl rfl rfl rfl (by omega) (by omega) (fun h16 => ?_) (fun h16 => ?_)
        · refine ab_k (y := 0) rfl rfl ?_
          iterate 2 refine ab_s rfl ?_
          refine ab_k (y := (-1)) rfl rfl ?_
          refine j2_lt rfl rfl (fun h27 => ?_) (fun h27 => ?_)
          · refine ab_k (y := 0) rfl rfl ?_
            exact ab_ri rfl (by first | (simp [wayS, z01, *]; done) | simp_all [wayS, z01])
          · refine ab_s rfl ?_
            refine ab_k (y := 1) rfl rfl ?_
            refine j2_gt rfl rfl (fun h32 => ?_) (fun h32 => ?_)
            · refine ab_k (y := 0) rfl rfl ?_
              exact ab_ri rfl (by first | (simp [wayS, z01, *]; done) | simp_all [wayS, z01])
            · iterate 2 refine ab_s rfl ?_
              refine ab_k (y := 1) rfl rfl ?_
              refine ab_s rfl ?_
              exact ab_ri rfl (by first | (simp [wayS, z01, *]; done) | simp_all [wayS, z01])
        · refine ab_k (y := 1) rfl rfl ?_
          iterate 3 refine ab_s rfl ?_
          refine ab_k (y := (-1)) rfl rfl ?_
          refine j2_lt rfl rfl (fun h27 => ?_) (fun h27 => ?_)
          · refine ab_k (y := 0) rfl rfl ?_
            exact ab_ri rfl (by first | (simp [wayS, z01, *]; done) | simp_all [wayS, z01])
          · refine ab_s rfl ?_
            refine ab_k (y := 1) rfl rfl ?_
            refine j2_gt rfl rfl (fun h32 => ?_) (fun h32 => ?_)
            · refine ab_k (y := 0) rfl rfl ?_
              exact ab_ri rfl (by first | (simp [wayS, z01, *]; done) | simp_all [wayS, z01])
            · iterate 2 refine ab_s rfl ?_
              refine ab_k (y := 0) rfl rfl ?_
              exact ab_ri rfl (by first | (simp [wayS, z01, *]; done) | simp_all [wayS, z01])
set_option maxRecDepth 100000 in
set_option maxHeartbeats 4000000 in
theorem x_bits (x : Int32) : ab_M X kJ6_bitCount_0f7a4 [.int x] w (some (.int (pcI x))) w := by
  show ab_G X kJ6_bitCount_0f7a4 0 [some (.int x)] [] w _ _
  iterate 2 refine ab_s rfl ?_
  refine ab_k (y := 1) rfl rfl ?_
  iterate 9 refine ab_s rfl ?_
  refine ab_k (y := 2) rfl rfl ?_
  iterate 7 refine ab_s rfl ?_
  refine ab_k (y := 4) rfl rfl ?_
  iterate 7 refine ab_s rfl ?_
  refine ab_k (y := 8) rfl rfl ?_
  iterate 5 refine ab_s rfl ?_
  refine ab_k (y := 16) rfl rfl ?_
  iterate 4 refine ab_s rfl ?_
  refine ab_k (y := 63) rfl rfl ?_
  refine ab_s rfl ?_
  exact ab_ri rfl rfl
theorem x_bitsB {p : Nat → Bool} {m : Nat} (hm : m ≤ 8) : ab_M X kJ6_bitCount_0f7a4 [.int (bs p m)] w (some (.int (nI (cntR p m)))) w := by
  obtain ⟨k, hk, e1, e2⟩ := ones_set (p := p) hm
  have h := x_bits (X := X) (w := w) (bs p m)
  rw [e1, pc_256 k hk, e2, ← e1] at h
  exact h
end XA
end
section
/-! THE CLASS: a house -/
/-- the fields of the house h of the row s -/
def hL (s : List Int32) (h : Nat) : List Value := [.int (nI h), .int (fld s h 0), .int (fld s h 1), .int (fld s h 2), .int (fld s h 3), .int (fld s h 4), .int (fld s h 5), .int (fld s h 6), .int (fld s h 7)]
theorem hL_set {s : List Int32} {h j : Nat} {v : Int32} (hl : s.length = 90) (hh : h < 8) (hj : j < 8) : hL (s.set (2 + 8 * h + j) v) h = (hL s h).set (j + 1) (.int v) := by
  have e : ∀ k', k' < 8 → fld (s.set (2 + 8 * h + j) v) h k' = if h = h ∧ k' = j then v else fld s h k' := fun k' hk' => fld_set s v hl hh hj hk'
  unfold hL
  rw [e 0 (by decide), e 1 (by decide), e 2 (by decide), e 3 (by decide), e 4 (by decide), e 5 (by decide), e 6 (by decide), e 7 (by decide)]
  rcases (show j = 0 ∨ j = 1 ∨ j = 2 ∨ j = 3 ∨ j = 4 ∨ j = 5 ∨ j = 6 ∨ j = 7 by omega) with rfl | rfl | rfl | rfl | rfl | rfl | rfl | rfl <;> simp
theorem hL_ne {s : List Int32} {h h' j : Nat} {v : Int32} (hl : s.length = 90) (hh : h < 8) (hj : j < 8) (hne : ¬ h' = h) : hL (s.set (2 + 8 * h + j) v) h' = hL s h' := by
  have e : ∀ k', k' < 8 → fld (s.set (2 + 8 * h + j) v) h' k' = fld s h' k' := fun k' hk' => by rw [fld_set s v hl hh hj hk', if_neg (fun q => hne q.1)]
  unfold hL
  rw [e 0 (by decide), e 1 (by decide), e 2 (by decide), e 3 (by decide), e 4 (by decide), e 5 (by decide), e 6 (by decide), e 7 (by decide)]
theorem hL_eq {s s' : List Int32} {h : Nat} (e : ∀ k, k < 8 → fld s' h k = fld s h k) : hL s' h = hL s h := by
  unfold hL
  rw [e 0 (by decide), e 1 (by decide), e 2 (by decide), e 3 (by decide), e 4 (by decide), e 5 (by decide), e 6 (by decide), e 7 (by decide)]
theorem nle_i (a b : Int32) : (a ≤ b) = ¬ b < a := propext Int32.not_lt.symm
theorem c19_i (c : Int32) : (c ≤ 19) = (c < 20) := by
  rw [le_iff, lt_iff]
  exact propext ⟨fun q => Int.lt_of_le_of_lt q (by decide), fun q => Int.le_of_lt_add_one q⟩
theorem c22_i (c : Int32) : (22 ≤ c) = (21 < c) := by
  rw [le_iff, lt_iff]
  exact propext ⟨fun q => Int.lt_of_lt_of_le (by decide) q, fun q => q⟩
def hourV (fr to c : Int32) : Bool := if fr ≤ to then decide (fr ≤ c) && decide (c ≤ to) else decide (fr ≤ c) || !decide (to < c)
/-- who is let in, by kind, hours, plain leave -/
def admV (k : Int32) (c : Int32) (ih ah as no : Bool) : Bool := if k = 1 then as else if k = 2 then ih else if k = 3 then true else if k = 4 then as || decide (c = 12) else if k = 5 then ah && (decide (7 ≤ c) && decide (c ≤ 19)) else if k = 6 then as && !no else ah
/-- a house lets in, if its leaves were lv -/
def letV (s : List Int32) (h f : Nat) (c lv : Int32) : Bool := if h = f then true else admV (fld s h 0) c (hourB s h c) (bt lv f && hourB s h c) (bt lv f && hourB s h c && decide (c < 20)) (bt (fld s h 5) f)
theorem letV_B (s : List Int32) (h f : Nat) (c : Int32) : letV s h f c (fld s h 2) = letB s h f c := rfl
theorem letV_set {s : List Int32} {h f : Nat} {c lv : Int32} (hl : s.length = 90) (hh : h < 8) : letB (s.set (2 + 8 * h + 2) lv) h f c = letV s h f c lv := by
  rw [← letV_B]
  have e : ∀ k', k' < 8 → fld (s.set (2 + 8 * h + 2) lv) h k' = if h = h ∧ k' = 2 then lv else fld s h k' := fun k' hk' => fld_set s lv hl hh (by decide) hk'
  unfold letV hourB
  rw [e 0 (by decide), e 2 (by decide), e 3 (by decide), e 4 (by decide), e 5 (by decide)]
  simp
section XB
variable {X : List Int32} {w : ab_W} {q : Nat} {s : List Int32} {h : Nat}
set_option maxRecDepth 100000 in
set_option maxHeartbeats 4000000 in
theorem x_tell (hw : w[q]? = some (.inl (0, hL s h))) {j : Nat} (hj : j < 8) : ab_M X kX0_tell [.ref q, .int (nI j)] w (some (.int (fld s h j))) w := by
  show ab_G X kX0_tell 0 [some (.ref q), some (.int (nI j))] [] w _ _
  rcases (show j = 0 ∨ j = 1 ∨ j = 2 ∨ j = 3 ∨ j = 4 ∨ j = 5 ∨ j = 6 ∨ j = 7 by omega) with rfl | rfl | rfl | rfl | rfl | rfl | rfl | rfl
  · refine ab_s rfl ?_
    refine ab_Nsw (a := 0) rfl rfl (by decide) rfl rfl ?_
    refine ab_s rfl ?_
    refine ab_gf rfl rfl rfl hw rfl ?_
    exact ab_ri rfl rfl
  · refine ab_s rfl ?_
    refine ab_Nsw (a := 1) rfl rfl (by decide) rfl rfl ?_
    refine ab_s rfl ?_
    refine ab_gf rfl rfl rfl hw rfl ?_
    exact ab_ri rfl rfl
  · refine ab_s rfl ?_
    refine ab_Nsw (a := 2) rfl rfl (by decide) rfl rfl ?_
    refine ab_s rfl ?_
    refine ab_gf rfl rfl rfl hw rfl ?_
    exact ab_ri rfl rfl
  · refine ab_s rfl ?_
    refine ab_Nsw (a := 3) rfl rfl (by decide) rfl rfl ?_
    refine ab_s rfl ?_
    refine ab_gf rfl rfl rfl hw rfl ?_
    exact ab_ri rfl rfl
  · refine ab_s rfl ?_
    refine ab_Nsw (a := 4) rfl rfl (by decide) rfl rfl ?_
    refine ab_s rfl ?_
    refine ab_gf rfl rfl rfl hw rfl ?_
    exact ab_ri rfl rfl
  · refine ab_s rfl ?_
    refine ab_Nsw (a := 5) rfl rfl (by decide) rfl rfl ?_
    refine ab_s rfl ?_
    refine ab_gf rfl rfl rfl hw rfl ?_
    exact ab_ri rfl rfl
  · refine ab_s rfl ?_
    refine ab_Nsw (a := 6) rfl rfl (by decide) rfl rfl ?_
    refine ab_s rfl ?_
    refine ab_gf rfl rfl rfl hw rfl ?_
    exact ab_ri rfl rfl
  · refine ab_s rfl ?_
    refine ab_swd rfl (by decide) rfl ?_
    refine ab_s rfl ?_
    refine ab_gf rfl rfl rfl hw rfl ?_
    exact ab_ri rfl rfl
set_option maxRecDepth 100000 in
set_option maxHeartbeats 4000000 in
theorem x_become (hw : w[q]? = some (.inl (0, hL s h))) {j : Nat} (hj : j = 0 ∨ j = 3 ∨ j = 4 ∨ j = 6 ∨ j = 7) (v : Int32) (hl : s.length = 90) (hh : h < 8) : ab_Q X kX0_become [.ref q, .int (nI j), .int v] w (fun v1 w1 => v1 = none ∧ w1[q]? = some (.inl (0, hL (s.set (2 + 8 * h + j) v) h)) ∧ ∀ i, i ≠ q → w1[i]? = w[i]?) := by
  show ab_H X kX0_become 0 [some (.ref q), some (.int (nI j)), some (.int v)] [] w _
  rcases hj with rfl | rfl | rfl | rfl | rfl
  · refine h_s rfl ?_
    refine h_Nsw (a := 0) rfl rfl (by decide) rfl rfl ?_
    iterate 2 refine h_s rfl ?_
    refine h_pf rfl rfl hw rfl (fun w1 e1 f1 => ?_)
    refine h_s rfl ?_
    exact h_r rfl ⟨rfl, e1.trans (by rw [hL_set hl hh (by decide)]), f1⟩
  · refine h_s rfl ?_
    refine h_Nsw (a := 3) rfl rfl (by decide) rfl rfl ?_
    iterate 2 refine h_s rfl ?_
    refine h_pf rfl rfl hw rfl (fun w1 e1 f1 => ?_)
    refine h_s rfl ?_
    exact h_r rfl ⟨rfl, e1.trans (by rw [hL_set hl hh (by decide)]), f1⟩
  · refine h_s rfl ?_
    refine h_Nsw (a := 4) rfl rfl (by decide) rfl rfl ?_
    iterate 2 refine h_s rfl ?_
    refine h_pf rfl rfl hw rfl (fun w1 e1 f1 => ?_)
    refine h_s rfl ?_
    exact h_r rfl ⟨rfl, e1.trans (by rw [hL_set hl hh (by decide)]), f1⟩
  · refine h_s rfl ?_
    refine h_Nsw (a := 6) rfl rfl (by decide) rfl rfl ?_
    iterate 2 refine h_s rfl ?_
    refine h_pf rfl rfl hw rfl (fun w1 e1 f1 => ?_)
    refine h_s rfl ?_
    exact h_r rfl ⟨rfl, e1.trans (by rw [hL_set hl hh (by decide)]), f1⟩
  · refine h_s rfl ?_
    refine h_Nsw (a := 7) rfl rfl (by decide) rfl rfl ?_
    iterate 2 refine h_s rfl ?_
    refine h_pf rfl rfl hw rfl (fun w1 e1 f1 => ?_)
    refine h_s rfl ?_
    exact h_r rfl ⟨rfl, e1.trans (by rw [hL_set hl hh (by decide)]), f1⟩
set_option maxRecDepth 100000 in
set_option maxHeartbeats 4000000 in
theorem x_renew {vs : List Value} (hw : w[q]? = some (.inl (0, vs))) (hv : vs.length = 9) (a b : Int32) : ab_Q X kX0_renew [.ref q, .int a, .int b] w (fun v1 w1 => v1 = none ∧ w1[q]? = some (.inl (0, [.int a, .int b, .int (-1), .int 0, .int 6, .int 22, .int 0, .int 2, .int a])) ∧ ∀ i, i ≠ q → w1[i]? = w[i]?) := by
  show ab_H X kX0_renew 0 [some (.ref q), some (.int a), some (.int b)] [] w _
  match vs, hv with
  | [a0, a1, a2, a3, a4, a5, a6, a7, a8], _ =>
    iterate 2 refine h_s rfl ?_
    refine h_pf rfl rfl hw rfl (fun w1 e1 f1 => ?_)
    iterate 2 refine h_s rfl ?_
    refine h_pf rfl rfl e1 rfl (fun w2 e2 f2 => ?_)
    refine h_s rfl ?_
    refine h_k (y := (-1)) rfl rfl ?_
    refine h_pf rfl rfl e2 rfl (fun w3 e3 f3 => ?_)
    refine h_s rfl ?_
    refine h_k (y := 0) rfl rfl ?_
    refine h_pf rfl rfl e3 rfl (fun w4 e4 f4 => ?_)
    refine h_s rfl ?_
    refine h_k (y := 6) rfl rfl ?_
    refine h_pf rfl rfl e4 rfl (fun w5 e5 f5 => ?_)
    refine h_s rfl ?_
    refine h_k (y := 22) rfl rfl ?_
    refine h_pf rfl rfl e5 rfl (fun w6 e6 f6 => ?_)
    refine h_s rfl ?_
    refine h_k (y := 0) rfl rfl ?_
    refine h_pf rfl rfl e6 rfl (fun w7 e7 f7 => ?_)
    refine h_s rfl ?_
    refine h_k (y := 2) rfl rfl ?_
    refine h_pf rfl rfl e7 rfl (fun w8 e8 f8 => ?_)
    iterate 2 refine h_s rfl ?_
    refine h_pf rfl rfl e8 rfl (fun w9 e9 f9 => ?_)
    exact h_r rfl ⟨rfl, e9, fun i hi => (f9 i hi).trans ((f8 i hi).trans ((f7 i hi).trans ((f6 i hi).trans ((f5 i hi).trans ((f4 i hi).trans ((f3 i hi).trans ((f2 i hi).trans (f1 i hi))))))))⟩
set_option maxRecDepth 100000 in
set_option maxHeartbeats 4000000 in
theorem x_takeHouse {p : Nat} {vs : List Value} (hw : w[q]? = some (.inl (0, vs))) (hv : vs.length = 9) (hp : w[p]? = some (.inl (0, hL s h))) (hqp : p ≠ q) : ab_Q X kX0_takeFrom [.ref q, .ref p] w (fun v1 w1 => v1 = none ∧ w1[q]? = some (.inl (0, hL s h)) ∧ ∀ i, i ≠ q → w1[i]? = w[i]?) := by
  show ab_H X kX0_takeFrom 0 [some (.ref q), some (.ref p)] [] w _
  match vs, hv with
  | [a0, a1, a2, a3, a4, a5, a6, a7, a8], _ =>
    iterate 2 refine h_s rfl ?_
    refine h_gf rfl rfl rfl hp rfl ?_
    refine h_pf rfl rfl hw rfl (fun w1 e1 f1 => ?_)
    have g1 := (f1 p hqp).trans hp
    iterate 2 refine h_s rfl ?_
    refine h_gf rfl rfl rfl g1 rfl ?_
    refine h_pf rfl rfl e1 rfl (fun w2 e2 f2 => ?_)
    have g2 := (f2 p hqp).trans g1
    iterate 2 refine h_s rfl ?_
    refine h_gf rfl rfl rfl g2 rfl ?_
    refine h_pf rfl rfl e2 rfl (fun w3 e3 f3 => ?_)
    have g3 := (f3 p hqp).trans g2
    iterate 2 refine h_s rfl ?_
    refine h_gf rfl rfl rfl g3 rfl ?_
    refine h_pf rfl rfl e3 rfl (fun w4 e4 f4 => ?_)
    have g4 := (f4 p hqp).trans g3
    iterate 2 refine h_s rfl ?_
    refine h_gf rfl rfl rfl g4 rfl ?_
    refine h_pf rfl rfl e4 rfl (fun w5 e5 f5 => ?_)
    have g5 := (f5 p hqp).trans g4
    iterate 2 refine h_s rfl ?_
    refine h_gf rfl rfl rfl g5 rfl ?_
    refine h_pf rfl rfl e5 rfl (fun w6 e6 f6 => ?_)
    have g6 := (f6 p hqp).trans g5
    iterate 2 refine h_s rfl ?_
    refine h_gf rfl rfl rfl g6 rfl ?_
    refine h_pf rfl rfl e6 rfl (fun w7 e7 f7 => ?_)
    have g7 := (f7 p hqp).trans g6
    iterate 2 refine h_s rfl ?_
    refine h_gf rfl rfl rfl g7 rfl ?_
    refine h_pf rfl rfl e7 rfl (fun w8 e8 f8 => ?_)
    have g8 := (f8 p hqp).trans g7
    iterate 2 refine h_s rfl ?_
    refine h_gf rfl rfl rfl g8 rfl ?_
    refine h_pf rfl rfl e8 rfl (fun w9 e9 f9 => ?_)
    have g9 := (f9 p hqp).trans g8
    exact h_r rfl ⟨rfl, e9, fun i hi => (f9 i hi).trans ((f8 i hi).trans ((f7 i hi).trans ((f6 i hi).trans ((f5 i hi).trans ((f4 i hi).trans ((f3 i hi).trans ((f2 i hi).trans (f1 i hi))))))))⟩
set_option maxRecDepth 100000 in
set_option maxHeartbeats 4000000 in
theorem x_isInHours (hw : w[q]? = some (.inl (0, hL s h))) (c : Int32) : ab_M X kX0_isInHours [.ref q, .int c] w (some (.int (z01 (hourB s h c)))) w := by
  show ab_G X kX0_isInHours 0 [some (.ref q), some (.int c)] [] w _ _
  refine ab_s rfl ?_
  refine ab_gf rfl rfl rfl hw rfl ?_
  refine ab_s rfl ?_
  refine ab_gf rfl rfl rfl hw rfl ?_
  refine j2_le rfl rfl (fun h8 => ?_) (fun h8 => ?_)
  · iterate 2 refine ab_s rfl ?_
    refine ab_gf rfl rfl rfl hw rfl ?_
    refine j2_lt rfl rfl (fun h38 => ?_) (fun h38 => ?_)
    · refine ab_k (y := 0) rfl rfl ?_
      exact ab_ri rfl (by unfold hourB; (try simp only [nle_i] at *); first | (simp [z01, *]; done) | simp_all [z01])
    · iterate 2 refine ab_s rfl ?_
      refine ab_gf rfl rfl rfl hw rfl ?_
      refine j2_gt rfl rfl (fun h46 => ?_) (fun h46 => ?_)
      · refine ab_k (y := 0) rfl rfl ?_
        exact ab_ri rfl (by unfold hourB; (try simp only [nle_i] at *); first | (simp [z01, *]; done) | simp_all [z01])
      · refine ab_k (y := 1) rfl rfl ?_
        refine ab_s rfl ?_
        exact ab_ri rfl (by unfold hourB; (try simp only [nle_i] at *); first | (simp [z01, *]; done) | simp_all [z01])
  · iterate 2 refine ab_s rfl ?_
    refine ab_gf rfl rfl rfl hw rfl ?_
    refine j2_ge rfl rfl (fun h16 => ?_) (fun h16 => ?_)
    · refine ab_k (y := 1) rfl rfl ?_
      refine ab_s rfl ?_
      exact ab_ri rfl (by unfold hourB; (try simp only [nle_i] at *); first | (simp [z01, *]; done) | simp_all [z01])
    · iterate 2 refine ab_s rfl ?_
      refine ab_gf rfl rfl rfl hw rfl ?_
      refine j2_gt rfl rfl (fun h24 => ?_) (fun h24 => ?_)
      · refine ab_k (y := 0) rfl rfl ?_
        exact ab_ri rfl (by unfold hourB; (try simp only [nle_i] at *); first | (simp [z01, *]; done) | simp_all [z01])
      · refine ab_k (y := 1) rfl rfl ?_
        refine ab_s rfl ?_
        exact ab_ri rfl (by unfold hourB; (try simp only [nle_i] at *); first | (simp [z01, *]; done) | simp_all [z01])
set_option maxRecDepth 100000 in
set_option maxHeartbeats 4000000 in
theorem x_admK (hw : w[q]? = some (.inl (0, hL s h))) {f k : Nat} (hf : f < 8) (hk7 : k < 7) (hk : fld s h 0 = nI k) (c lv : Int32) (ih ah as : Bool) : ab_G X kX0_admits 55 [some (.ref q), some (.int (nI f)), some (.int c), some (.int lv), some (.int (z01 ih)), some (.int (z01 ah)), some (.int (z01 as))] [] w (some (.int (z01 (admV (fld s h 0) c ih ah as (bt (fld s h 5) f))))) w := by
  rcases (show k = 0 ∨ k = 1 ∨ k = 2 ∨ k = 3 ∨ k = 4 ∨ k = 5 ∨ k = 6 by omega) with rfl | rfl | rfl | rfl | rfl | rfl | rfl
  · refine ab_s rfl ?_
    refine ab_gf rfl rfl rfl hw rfl ?_
    refine ab_t hk ?_
    refine ab_swd rfl (by decide) rfl ?_
    refine ab_s rfl ?_
    exact ab_rz rfl rfl (by rw [hk]; rfl)
  · refine ab_s rfl ?_
    refine ab_gf rfl rfl rfl hw rfl ?_
    refine ab_t hk ?_
    refine ab_Nsw (a := 1) rfl rfl (by decide) rfl rfl ?_
    refine ab_s rfl ?_
    exact ab_rz rfl rfl (by rw [hk]; rfl)
  · refine ab_s rfl ?_
    refine ab_gf rfl rfl rfl hw rfl ?_
    refine ab_t hk ?_
    refine ab_Nsw (a := 2) rfl rfl (by decide) rfl rfl ?_
    refine ab_s rfl ?_
    exact ab_rz rfl rfl (by rw [hk]; rfl)
  · refine ab_s rfl ?_
    refine ab_gf rfl rfl rfl hw rfl ?_
    refine ab_t hk ?_
    refine ab_Nsw (a := 3) rfl rfl (by decide) rfl rfl ?_
    refine ab_k (y := 1) rfl rfl ?_
    exact ab_ri rfl (by rw [hk]; show _ = z01 true; first | rfl | (simp [z01, *]; done) | ((try simp only [c19_i] at *); (try simp only [nle_i] at *); first | (simp [z01, *]; done) | simp_all [z01]))
  · refine ab_s rfl ?_
    refine ab_gf rfl rfl rfl hw rfl ?_
    refine ab_t hk ?_
    refine ab_Nsw (a := 4) rfl rfl (by decide) rfl rfl ?_
    refine ab_s rfl ?_
    refine z1_ne rfl rfl (fun h129 => ?_) (fun h129 => ?_)
    · refine ab_k (y := 1) rfl rfl ?_
      refine ab_s rfl ?_
      exact ab_ri rfl (by rw [hk]; show _ = z01 (as || decide (c = 12)); first | rfl | (simp [z01, *]; done) | ((try simp only [c19_i] at *); (try simp only [nle_i] at *); first | (simp [z01, *]; done) | simp_all [z01]))
    · refine ab_s rfl ?_
      refine ab_k (y := 12) rfl rfl ?_
      refine j2_ne rfl rfl (fun h135 => ?_) (fun h135 => ?_)
      · refine ab_k (y := 0) rfl rfl ?_
        exact ab_ri rfl (by rw [hk]; show _ = z01 (as || decide (c = 12)); first | rfl | (simp [z01, *]; done) | ((try simp only [c19_i] at *); (try simp only [nle_i] at *); first | (simp [z01, *]; done) | simp_all [z01]))
      · refine ab_k (y := 1) rfl rfl ?_
        refine ab_s rfl ?_
        exact ab_ri rfl (by rw [hk]; show _ = z01 (as || decide (c = 12)); first | rfl | (simp [z01, *]; done) | ((try simp only [c19_i] at *); (try simp only [nle_i] at *); first | (simp [z01, *]; done) | simp_all [z01]))
  · refine ab_s rfl ?_
    refine ab_gf rfl rfl rfl hw rfl ?_
    refine ab_t hk ?_
    refine ab_Nsw (a := 5) rfl rfl (by decide) rfl rfl ?_
    refine ab_s rfl ?_
    refine z1_eq rfl rfl (fun h106 => ?_) (fun h106 => ?_)
    · refine ab_k (y := 0) rfl rfl ?_
      exact ab_ri rfl (by rw [hk]; show _ = z01 (ah && (decide (7 ≤ c) && decide (c ≤ 19))); first | rfl | (simp [z01, *]; done) | ((try simp only [c19_i] at *); (try simp only [nle_i] at *); first | (simp [z01, *]; done) | simp_all [z01]))
    · refine ab_s rfl ?_
      refine ab_k (y := 20) rfl rfl ?_
      refine j2_ge rfl rfl (fun h112 => ?_) (fun h112 => ?_)
      · refine ab_k (y := 0) rfl rfl ?_
        exact ab_ri rfl (by rw [hk]; show _ = z01 (ah && (decide (7 ≤ c) && decide (c ≤ 19))); first | rfl | (simp [z01, *]; done) | ((try simp only [c19_i] at *); (try simp only [nle_i] at *); first | (simp [z01, *]; done) | simp_all [z01]))
      · refine ab_s rfl ?_
        refine ab_k (y := 7) rfl rfl ?_
        refine j2_lt rfl rfl (fun h118 => ?_) (fun h118 => ?_)
        · refine ab_k (y := 0) rfl rfl ?_
          exact ab_ri rfl (by rw [hk]; show _ = z01 (ah && (decide (7 ≤ c) && decide (c ≤ 19))); first | rfl | (simp [z01, *]; done) | ((try simp only [c19_i] at *); (try simp only [nle_i] at *); first | (simp [z01, *]; done) | simp_all [z01]))
        · refine ab_k (y := 1) rfl rfl ?_
          refine ab_s rfl ?_
          exact ab_ri rfl (by rw [hk]; show _ = z01 (ah && (decide (7 ≤ c) && decide (c ≤ 19))); first | rfl | (simp [z01, *]; done) | ((try simp only [c19_i] at *); (try simp only [nle_i] at *); first | (simp [z01, *]; done) | simp_all [z01]))
  · refine ab_s rfl ?_
    refine ab_gf rfl rfl rfl hw rfl ?_
    refine ab_t hk ?_
    refine ab_Nsw (a := 6) rfl rfl (by decide) rfl rfl ?_
    refine ab_s rfl ?_
    refine z1_eq rfl rfl (fun h146 => ?_) (fun h146 => ?_)
    · refine ab_k (y := 0) rfl rfl ?_
      exact ab_ri rfl (by rw [hk]; show _ = z01 (as && !bt (fld s h 5) f); first | rfl | (simp [z01, *]; done) | ((try simp only [c19_i] at *); (try simp only [nle_i] at *); first | (simp [z01, *]; done) | simp_all [z01]))
    · refine ab_s rfl ?_
      refine ab_gf rfl rfl rfl hw rfl ?_
      refine ab_s rfl ?_
      refine ab_c rfl (x_isIn (fld s h 5) (by omega)) ?_
      refine ab_n (st2 := [_]) rfl ?_
      refine z1_ne rfl rfl (fun h157 => ?_) (fun h157 => ?_)
      · refine ab_k (y := 0) rfl rfl ?_
        exact ab_ri rfl (by rw [hk]; show _ = z01 (as && !bt (fld s h 5) f); first | rfl | (simp [z01, *]; done) | ((try simp only [c19_i] at *); (try simp only [nle_i] at *); first | (simp [z01, *]; done) | simp_all [z01]))
      · refine ab_k (y := 1) rfl rfl ?_
        refine ab_s rfl ?_
        exact ab_ri rfl (by rw [hk]; show _ = z01 (as && !bt (fld s h 5) f); first | rfl | (simp [z01, *]; done) | ((try simp only [c19_i] at *); (try simp only [nle_i] at *); first | (simp [z01, *]; done) | simp_all [z01]))
set_option maxRecDepth 100000 in
set_option maxHeartbeats 4000000 in
theorem x_admits (hw : w[q]? = some (.inl (0, hL s h))) {f k : Nat} (hf : f < 8) (hh : h < 8) (hk7 : k < 7) (hk : fld s h 0 = nI k) (c lv : Int32) : ab_M X kX0_admits [.ref q, .int (nI f), .int c, .int lv] w (some (.int (z01 (letV s h f c lv)))) w := by
  show ab_G X kX0_admits 0 [some (.ref q), some (.int (nI f)), some (.int c), some (.int lv), none, none, none] [] w _ _
  iterate 2 refine ab_s rfl ?_
  refine ab_gf rfl rfl rfl hw rfl ?_
  refine jN_ne rfl rfl rfl rfl (by omega) (by omega) (fun h5 => ?_) (fun h5 => ?_)
  · iterate 2 refine ab_s rfl ?_
    refine ab_cv rfl rfl rfl hw rfl rfl (x_isInHours hw c) ?_
    refine ab_n (st2 := [_]) rfl ?_
    iterate 2 refine ab_s rfl ?_
    refine z1_eq rfl rfl (fun h19 => ?_) (fun h19 => ?_)
    · refine ab_k (y := 0) rfl rfl ?_
      iterate 3 refine ab_s rfl ?_
      refine ab_k (y := 0) rfl rfl ?_
      refine ab_s rfl ?_
      have e1 : (bt lv f && hourB s h c) = false := by rw [h19, Bool.and_false]
      have e2 : (bt lv f && hourB s h c && decide (c < 20)) = false := by rw [h19, Bool.and_false, Bool.false_and]
      unfold letV
      rw [if_neg (fun q => h5 q.symm), e2, e1]
      exact x_admK hw hf hk7 hk c lv (hourB s h c) false false
    · iterate 2 refine ab_s rfl ?_
      refine ab_c rfl (x_isIn lv (by omega)) ?_
      refine ab_n (st2 := [_]) rfl ?_
      refine z1_eq rfl rfl (fun h27 => ?_) (fun h27 => ?_)
      · refine ab_k (y := 0) rfl rfl ?_
        iterate 3 refine ab_s rfl ?_
        refine ab_k (y := 0) rfl rfl ?_
        refine ab_s rfl ?_
        have e1 : (bt lv f && hourB s h c) = false := by rw [h27, Bool.false_and]
        have e2 : (bt lv f && hourB s h c && decide (c < 20)) = false := by rw [h27, Bool.false_and, Bool.false_and]
        unfold letV
        rw [if_neg (fun q => h5 q.symm), e2, e1]
        exact x_admK hw hf hk7 hk c lv (hourB s h c) false false
      · refine ab_k (y := 1) rfl rfl ?_
        iterate 5 refine ab_s rfl ?_
        refine ab_k (y := 20) rfl rfl ?_
        refine j2_ge rfl rfl (fun h45 => ?_) (fun h45 => ?_)
        · refine ab_k (y := 0) rfl rfl ?_
          refine ab_s rfl ?_
          have e1 : (bt lv f && hourB s h c) = true := by rw [h27, h19]; rfl
          have e2 : (bt lv f && hourB s h c && decide (c < 20)) = false := by rw [decide_eq_false (Int32.not_lt.mpr h45), Bool.and_false]
          unfold letV
          rw [if_neg (fun q => h5 q.symm), e2, e1]
          exact x_admK hw hf hk7 hk c lv (hourB s h c) true false
        · refine ab_k (y := 1) rfl rfl ?_
          iterate 2 refine ab_s rfl ?_
          have e1 : (bt lv f && hourB s h c) = true := by rw [h27, h19]; rfl
          have e2 : (bt lv f && hourB s h c && decide (c < 20)) = true := by rw [h27, h19, decide_eq_true (Int32.not_le.mp h45)]; rfl
          unfold letV
          rw [if_neg (fun q => h5 q.symm), e2, e1]
          exact x_admK hw hf hk7 hk c lv (hourB s h c) true true
  · refine ab_k (y := 1) rfl rfl ?_
    exact ab_ri rfl (by unfold letV; rw [if_pos (by omega)]; rfl)
end XB
end
section
/-! THE CLASS: a house, the rest; a row -/
section XC
variable {X : List Int32} {w : ab_W} {q : Nat} {s : List Int32} {h : Nat}
set_option maxRecDepth 100000 in
set_option maxHeartbeats 4000000 in
theorem x_wakes (hw : w[q]? = some (.inl (0, hL s h))) (c : Int32) : ab_M X kX0_wakes [.ref q, .int c] w (some (.int (wakeV s h c))) w := by
  show ab_G X kX0_wakes 0 [some (.ref q), some (.int c), none] [] w _ _
  refine ab_s rfl ?_
  refine ab_gf rfl rfl rfl hw rfl ?_
  refine ab_k (y := 3) rfl rfl ?_
  refine j2_ne rfl rfl (fun h5 => ?_) (fun h5 => ?_)
  · refine ab_s rfl ?_
    refine ab_k (y := 22) rfl rfl ?_
    refine j2_ge rfl rfl (fun h13 => ?_) (fun h13 => ?_)
    · refine ab_s rfl ?_
      refine ab_gf rfl rfl rfl hw rfl ?_
      iterate 3 refine ab_s rfl ?_
      refine ab_gf rfl rfl rfl hw rfl ?_
      refine ab_k (y := 5) rfl rfl ?_
      refine j2_ne rfl rfl (fun h36 => ?_) (fun h36 => ?_)
      · refine ab_s rfl ?_
        exact ab_ri rfl (by (try simp only [c22_i] at *); (try simp only [nle_i] at *); simp [wakeV, *])
      · refine ab_s rfl ?_
        refine ab_k (y := 1) rfl rfl ?_
        iterate 2 refine ab_s rfl ?_
        exact ab_ri rfl (by (try simp only [c22_i] at *); (try simp only [nle_i] at *); simp [wakeV, *])
    · refine ab_s rfl ?_
      refine ab_k (y := 6) rfl rfl ?_
      refine j2_ge rfl rfl (fun h19 => ?_) (fun h19 => ?_)
      · refine ab_k (y := 0) rfl rfl ?_
        iterate 2 refine ab_s rfl ?_
        refine ab_gf rfl rfl rfl hw rfl ?_
        refine ab_k (y := 5) rfl rfl ?_
        refine j2_ne rfl rfl (fun h36 => ?_) (fun h36 => ?_)
        · refine ab_s rfl ?_
          exact ab_ri rfl (by (try simp only [c22_i] at *); (try simp only [nle_i] at *); simp [wakeV, *])
        · refine ab_s rfl ?_
          refine ab_k (y := 1) rfl rfl ?_
          refine ab_s rfl ?_
          refine ab_t (y := 1) rfl ?_
          refine ab_s rfl ?_
          exact ab_ri rfl (by (try simp only [c22_i] at *); (try simp only [nle_i] at *); simp [wakeV, *])
      · refine ab_s rfl ?_
        refine ab_gf rfl rfl rfl hw rfl ?_
        iterate 3 refine ab_s rfl ?_
        refine ab_gf rfl rfl rfl hw rfl ?_
        refine ab_k (y := 5) rfl rfl ?_
        refine j2_ne rfl rfl (fun h36 => ?_) (fun h36 => ?_)
        · refine ab_s rfl ?_
          exact ab_ri rfl (by (try simp only [c22_i] at *); (try simp only [nle_i] at *); simp [wakeV, *])
        · refine ab_s rfl ?_
          refine ab_k (y := 1) rfl rfl ?_
          iterate 2 refine ab_s rfl ?_
          exact ab_ri rfl (by (try simp only [c22_i] at *); (try simp only [nle_i] at *); simp [wakeV, *])
  · refine ab_k (y := 0) rfl rfl ?_
    exact ab_ri rfl (by (try simp only [c22_i] at *); (try simp only [nle_i] at *); simp [wakeV, *])
set_option maxRecDepth 100000 in
set_option maxHeartbeats 4000000 in
theorem x_fallOut (hw : w[q]? = some (.inl (0, hL s h))) {f : Nat} (hf : f < 8) (hl : s.length = 90) (hh : h < 8) : ab_Q X kX0_fallOut [.ref q, .int (nI f)] w (fun v1 w1 => v1 = none ∧ w1[q]? = some (.inl (0, hL (quarS s h f) h)) ∧ ∀ i, i ≠ q → w1[i]? = w[i]?) := by
  show ab_H X kX0_fallOut 0 [some (.ref q), some (.int (nI f))] [] w _
  iterate 2 refine h_s rfl ?_
  refine h_gf rfl rfl rfl hw rfl ?_
  refine h_s rfl ?_
  refine h_k (y := 0) rfl rfl ?_
  refine h_c rfl (x_marked (fld s h 2) f false) ?_
  refine h_n (st2 := [_, _]) rfl ?_
  refine h_pf rfl rfl hw rfl (fun w1 e1 f1 => ?_)
  have hw := e1
  iterate 2 refine h_s rfl ?_
  refine h_gf rfl rfl rfl hw rfl ?_
  refine h_s rfl ?_
  refine h_k (y := 1) rfl rfl ?_
  refine h_c rfl (x_marked (fld s h 5) f true) ?_
  refine h_n (st2 := [_, _]) rfl ?_
  refine h_pf rfl rfl hw rfl (fun w2 e2 f2 => ?_)
  refine h_r rfl ⟨rfl, e2.trans ?_, fun i hi => (f2 i hi).trans (f1 i hi)⟩
  unfold quarS
  rw [hL_set (j := 5) (by rw [List.length_set]; exact hl) hh (by decide), hL_set (j := 2) hl hh (by decide)]
set_option maxRecDepth 100000 in
set_option maxHeartbeats 4000000 in
theorem x_isOne (hw : w[q]? = some (.inl (0, hL s h))) {k j : Nat} (hk7 : k < 7) (hk : fld s h 0 = nI k) (hj : j < 7) : ab_M X kX0_isOne [.ref q, .int (nI j)] w (some (.int (z01 (asI (fld s h 0) (nI j))))) w := by
  show ab_G X kX0_isOne 0 [some (.ref q), some (.int (nI j)), none, none] [] w _ _
  rw [hk]
  rcases (show k = 0 ∨ k = 1 ∨ k = 2 ∨ k = 3 ∨ k = 4 ∨ k = 5 ∨ k = 6 by omega) with rfl | rfl | rfl | rfl | rfl | rfl | rfl
  · refine ab_s rfl ?_
    refine ab_gf rfl rfl rfl hw rfl ?_
    refine ab_t (y := 0) hk ?_
    refine ab_s rfl ?_
    refine ab_k (y := 0) rfl rfl ?_
    iterate 6 refine ab_s rfl ?_
    refine ab_c rfl (x_isKind 0) ?_
    refine ab_t (y := 1) (by decide +kernel) ?_
    refine ab_n (st2 := [_]) rfl ?_
    iterate 3 refine ab_s rfl ?_
    refine jN_ne (a := 0) rfl rfl rfl rfl (by omega) (by omega) (fun h24 => ?_) (fun h24 => ?_)
    · iterate 2 refine ab_s rfl ?_
      refine ab_c rfl (x_cellA (j := 0) (by decide)) ?_
      refine ab_t (y := (-1)) rfl ?_
      refine ab_n (st2 := [_]) rfl ?_
      refine ab_s rfl ?_
      refine ab_ii (j := 0) rfl rfl rfl ?_
      iterate 6 refine ab_s rfl ?_
      refine ab_c rfl (x_isKind (-1)) ?_
      refine ab_t (y := 0) (by decide +kernel) ?_
      refine ab_n (st2 := [_]) rfl ?_
      refine ab_s rfl ?_
      refine ab_k (y := 0) rfl rfl ?_
      exact ab_ri rfl ((by decide +kernel : ∀ j, j < 7 → ¬ 0 = j → (0 : Int32) = z01 (asI (nI 0) (nI j))) j hj h24)
    · refine ab_k (y := 1) rfl rfl ?_
      exact ab_ri rfl ((by decide +kernel : ∀ j, j < 7 → 0 = j → (1 : Int32) = z01 (asI (nI 0) (nI j))) j hj h24)
  · refine ab_s rfl ?_
    refine ab_gf rfl rfl rfl hw rfl ?_
    refine ab_t (y := 1) hk ?_
    refine ab_s rfl ?_
    refine ab_k (y := 0) rfl rfl ?_
    iterate 6 refine ab_s rfl ?_
    refine ab_c rfl (x_isKind 1) ?_
    refine ab_t (y := 1) (by decide +kernel) ?_
    refine ab_n (st2 := [_]) rfl ?_
    iterate 3 refine ab_s rfl ?_
    refine jN_ne (a := 1) rfl rfl rfl rfl (by omega) (by omega) (fun h24 => ?_) (fun h24 => ?_)
    · iterate 2 refine ab_s rfl ?_
      refine ab_c rfl (x_cellA (j := 1) (by decide)) ?_
      refine ab_t (y := 0) rfl ?_
      refine ab_n (st2 := [_]) rfl ?_
      refine ab_s rfl ?_
      refine ab_ii (j := 0) rfl rfl rfl ?_
      iterate 6 refine ab_s rfl ?_
      refine ab_c rfl (x_isKind 0) ?_
      refine ab_t (y := 1) (by decide +kernel) ?_
      refine ab_n (st2 := [_]) rfl ?_
      iterate 3 refine ab_s rfl ?_
      refine jN_ne (a := 0) rfl rfl rfl rfl (by omega) (by omega) (fun h24_2 => ?_) (fun h24_2 => ?_)
      · iterate 2 refine ab_s rfl ?_
        refine ab_c rfl (x_cellA (j := 0) (by decide)) ?_
        refine ab_t (y := (-1)) rfl ?_
        refine ab_n (st2 := [_]) rfl ?_
        refine ab_s rfl ?_
        refine ab_ii (j := 1) rfl rfl rfl ?_
        iterate 6 refine ab_s rfl ?_
        refine ab_c rfl (x_isKind (-1)) ?_
        refine ab_t (y := 0) (by decide +kernel) ?_
        refine ab_n (st2 := [_]) rfl ?_
        refine ab_s rfl ?_
        refine ab_k (y := 0) rfl rfl ?_
        exact ab_ri rfl ((by decide +kernel : ∀ j, j < 7 → ¬ 1 = j → ¬ 0 = j → (0 : Int32) = z01 (asI (nI 1) (nI j))) j hj h24 h24_2)
      · refine ab_k (y := 1) rfl rfl ?_
        exact ab_ri rfl ((by decide +kernel : ∀ j, j < 7 → ¬ 1 = j → 0 = j → (1 : Int32) = z01 (asI (nI 1) (nI j))) j hj h24 h24_2)
    · refine ab_k (y := 1) rfl rfl ?_
      exact ab_ri rfl ((by decide +kernel : ∀ j, j < 7 → 1 = j → (1 : Int32) = z01 (asI (nI 1) (nI j))) j hj h24)
  · refine ab_s rfl ?_
    refine ab_gf rfl rfl rfl hw rfl ?_
    refine ab_t (y := 2) hk ?_
    refine ab_s rfl ?_
    refine ab_k (y := 0) rfl rfl ?_
    iterate 6 refine ab_s rfl ?_
    refine ab_c rfl (x_isKind 2) ?_
    refine ab_t (y := 1) (by decide +kernel) ?_
    refine ab_n (st2 := [_]) rfl ?_
    iterate 3 refine ab_s rfl ?_
    refine jN_ne (a := 2) rfl rfl rfl rfl (by omega) (by omega) (fun h24 => ?_) (fun h24 => ?_)
    · iterate 2 refine ab_s rfl ?_
      refine ab_c rfl (x_cellA (j := 2) (by decide)) ?_
      refine ab_t (y := 0) rfl ?_
      refine ab_n (st2 := [_]) rfl ?_
      refine ab_s rfl ?_
      refine ab_ii (j := 0) rfl rfl rfl ?_
      iterate 6 refine ab_s rfl ?_
      refine ab_c rfl (x_isKind 0) ?_
      refine ab_t (y := 1) (by decide +kernel) ?_
      refine ab_n (st2 := [_]) rfl ?_
      iterate 3 refine ab_s rfl ?_
      refine jN_ne (a := 0) rfl rfl rfl rfl (by omega) (by omega) (fun h24_2 => ?_) (fun h24_2 => ?_)
      · iterate 2 refine ab_s rfl ?_
        refine ab_c rfl (x_cellA (j := 0) (by decide)) ?_
        refine ab_t (y := (-1)) rfl ?_
        refine ab_n (st2 := [_]) rfl ?_
        refine ab_s rfl ?_
        refine ab_ii (j := 1) rfl rfl rfl ?_
        iterate 6 refine ab_s rfl ?_
        refine ab_c rfl (x_isKind (-1)) ?_
        refine ab_t (y := 0) (by decide +kernel) ?_
        refine ab_n (st2 := [_]) rfl ?_
        refine ab_s rfl ?_
        refine ab_k (y := 0) rfl rfl ?_
        exact ab_ri rfl ((by decide +kernel : ∀ j, j < 7 → ¬ 2 = j → ¬ 0 = j → (0 : Int32) = z01 (asI (nI 2) (nI j))) j hj h24 h24_2)
      · refine ab_k (y := 1) rfl rfl ?_
        exact ab_ri rfl ((by decide +kernel : ∀ j, j < 7 → ¬ 2 = j → 0 = j → (1 : Int32) = z01 (asI (nI 2) (nI j))) j hj h24 h24_2)
    · refine ab_k (y := 1) rfl rfl ?_
      exact ab_ri rfl ((by decide +kernel : ∀ j, j < 7 → 2 = j → (1 : Int32) = z01 (asI (nI 2) (nI j))) j hj h24)
  · refine ab_s rfl ?_
    refine ab_gf rfl rfl rfl hw rfl ?_
    refine ab_t (y := 3) hk ?_
    refine ab_s rfl ?_
    refine ab_k (y := 0) rfl rfl ?_
    iterate 6 refine ab_s rfl ?_
    refine ab_c rfl (x_isKind 3) ?_
    refine ab_t (y := 1) (by decide +kernel) ?_
    refine ab_n (st2 := [_]) rfl ?_
    iterate 3 refine ab_s rfl ?_
    refine jN_ne (a := 3) rfl rfl rfl rfl (by omega) (by omega) (fun h24 => ?_) (fun h24 => ?_)
    · iterate 2 refine ab_s rfl ?_
      refine ab_c rfl (x_cellA (j := 3) (by decide)) ?_
      refine ab_t (y := 2) rfl ?_
      refine ab_n (st2 := [_]) rfl ?_
      refine ab_s rfl ?_
      refine ab_ii (j := 0) rfl rfl rfl ?_
      iterate 6 refine ab_s rfl ?_
      refine ab_c rfl (x_isKind 2) ?_
      refine ab_t (y := 1) (by decide +kernel) ?_
      refine ab_n (st2 := [_]) rfl ?_
      iterate 3 refine ab_s rfl ?_
      refine jN_ne (a := 2) rfl rfl rfl rfl (by omega) (by omega) (fun h24_2 => ?_) (fun h24_2 => ?_)
      · iterate 2 refine ab_s rfl ?_
        refine ab_c rfl (x_cellA (j := 2) (by decide)) ?_
        refine ab_t (y := 0) rfl ?_
        refine ab_n (st2 := [_]) rfl ?_
        refine ab_s rfl ?_
        refine ab_ii (j := 1) rfl rfl rfl ?_
        iterate 6 refine ab_s rfl ?_
        refine ab_c rfl (x_isKind 0) ?_
        refine ab_t (y := 1) (by decide +kernel) ?_
        refine ab_n (st2 := [_]) rfl ?_
        iterate 3 refine ab_s rfl ?_
        refine jN_ne (a := 0) rfl rfl rfl rfl (by omega) (by omega) (fun h24_3 => ?_) (fun h24_3 => ?_)
        · iterate 2 refine ab_s rfl ?_
          refine ab_c rfl (x_cellA (j := 0) (by decide)) ?_
          refine ab_t (y := (-1)) rfl ?_
          refine ab_n (st2 := [_]) rfl ?_
          refine ab_s rfl ?_
          refine ab_ii (j := 2) rfl rfl rfl ?_
          iterate 6 refine ab_s rfl ?_
          refine ab_c rfl (x_isKind (-1)) ?_
          refine ab_t (y := 0) (by decide +kernel) ?_
          refine ab_n (st2 := [_]) rfl ?_
          refine ab_s rfl ?_
          refine ab_k (y := 0) rfl rfl ?_
          exact ab_ri rfl ((by decide +kernel : ∀ j, j < 7 → ¬ 3 = j → ¬ 2 = j → ¬ 0 = j → (0 : Int32) = z01 (asI (nI 3) (nI j))) j hj h24 h24_2 h24_3)
        · refine ab_k (y := 1) rfl rfl ?_
          exact ab_ri rfl ((by decide +kernel : ∀ j, j < 7 → ¬ 3 = j → ¬ 2 = j → 0 = j → (1 : Int32) = z01 (asI (nI 3) (nI j))) j hj h24 h24_2 h24_3)
      · refine ab_k (y := 1) rfl rfl ?_
        exact ab_ri rfl ((by decide +kernel : ∀ j, j < 7 → ¬ 3 = j → 2 = j → (1 : Int32) = z01 (asI (nI 3) (nI j))) j hj h24 h24_2)
    · refine ab_k (y := 1) rfl rfl ?_
      exact ab_ri rfl ((by decide +kernel : ∀ j, j < 7 → 3 = j → (1 : Int32) = z01 (asI (nI 3) (nI j))) j hj h24)
  · refine ab_s rfl ?_
    refine ab_gf rfl rfl rfl hw rfl ?_
    refine ab_t (y := 4) hk ?_
    refine ab_s rfl ?_
    refine ab_k (y := 0) rfl rfl ?_
    iterate 6 refine ab_s rfl ?_
    refine ab_c rfl (x_isKind 4) ?_
    refine ab_t (y := 1) (by decide +kernel) ?_
    refine ab_n (st2 := [_]) rfl ?_
    iterate 3 refine ab_s rfl ?_
    refine jN_ne (a := 4) rfl rfl rfl rfl (by omega) (by omega) (fun h24 => ?_) (fun h24 => ?_)
    · iterate 2 refine ab_s rfl ?_
      refine ab_c rfl (x_cellA (j := 4) (by decide)) ?_
      refine ab_t (y := 1) rfl ?_
      refine ab_n (st2 := [_]) rfl ?_
      refine ab_s rfl ?_
      refine ab_ii (j := 0) rfl rfl rfl ?_
      iterate 6 refine ab_s rfl ?_
      refine ab_c rfl (x_isKind 1) ?_
      refine ab_t (y := 1) (by decide +kernel) ?_
      refine ab_n (st2 := [_]) rfl ?_
      iterate 3 refine ab_s rfl ?_
      refine jN_ne (a := 1) rfl rfl rfl rfl (by omega) (by omega) (fun h24_2 => ?_) (fun h24_2 => ?_)
      · iterate 2 refine ab_s rfl ?_
        refine ab_c rfl (x_cellA (j := 1) (by decide)) ?_
        refine ab_t (y := 0) rfl ?_
        refine ab_n (st2 := [_]) rfl ?_
        refine ab_s rfl ?_
        refine ab_ii (j := 1) rfl rfl rfl ?_
        iterate 6 refine ab_s rfl ?_
        refine ab_c rfl (x_isKind 0) ?_
        refine ab_t (y := 1) (by decide +kernel) ?_
        refine ab_n (st2 := [_]) rfl ?_
        iterate 3 refine ab_s rfl ?_
        refine jN_ne (a := 0) rfl rfl rfl rfl (by omega) (by omega) (fun h24_3 => ?_) (fun h24_3 => ?_)
        · iterate 2 refine ab_s rfl ?_
          refine ab_c rfl (x_cellA (j := 0) (by decide)) ?_
          refine ab_t (y := (-1)) rfl ?_
          refine ab_n (st2 := [_]) rfl ?_
          refine ab_s rfl ?_
          refine ab_ii (j := 2) rfl rfl rfl ?_
          iterate 6 refine ab_s rfl ?_
          refine ab_c rfl (x_isKind (-1)) ?_
          refine ab_t (y := 0) (by decide +kernel) ?_
          refine ab_n (st2 := [_]) rfl ?_
          refine ab_s rfl ?_
          refine ab_k (y := 0) rfl rfl ?_
          exact ab_ri rfl ((by decide +kernel : ∀ j, j < 7 → ¬ 4 = j → ¬ 1 = j → ¬ 0 = j → (0 : Int32) = z01 (asI (nI 4) (nI j))) j hj h24 h24_2 h24_3)
        · refine ab_k (y := 1) rfl rfl ?_
          exact ab_ri rfl ((by decide +kernel : ∀ j, j < 7 → ¬ 4 = j → ¬ 1 = j → 0 = j → (1 : Int32) = z01 (asI (nI 4) (nI j))) j hj h24 h24_2 h24_3)
      · refine ab_k (y := 1) rfl rfl ?_
        exact ab_ri rfl ((by decide +kernel : ∀ j, j < 7 → ¬ 4 = j → 1 = j → (1 : Int32) = z01 (asI (nI 4) (nI j))) j hj h24 h24_2)
    · refine ab_k (y := 1) rfl rfl ?_
      exact ab_ri rfl ((by decide +kernel : ∀ j, j < 7 → 4 = j → (1 : Int32) = z01 (asI (nI 4) (nI j))) j hj h24)
  · refine ab_s rfl ?_
    refine ab_gf rfl rfl rfl hw rfl ?_
    refine ab_t (y := 5) hk ?_
    refine ab_s rfl ?_
    refine ab_k (y := 0) rfl rfl ?_
    iterate 6 refine ab_s rfl ?_
    refine ab_c rfl (x_isKind 5) ?_
    refine ab_t (y := 1) (by decide +kernel) ?_
    refine ab_n (st2 := [_]) rfl ?_
    iterate 3 refine ab_s rfl ?_
    refine jN_ne (a := 5) rfl rfl rfl rfl (by omega) (by omega) (fun h24 => ?_) (fun h24 => ?_)
    · iterate 2 refine ab_s rfl ?_
      refine ab_c rfl (x_cellA (j := 5) (by decide)) ?_
      refine ab_t (y := 0) rfl ?_
      refine ab_n (st2 := [_]) rfl ?_
      refine ab_s rfl ?_
      refine ab_ii (j := 0) rfl rfl rfl ?_
      iterate 6 refine ab_s rfl ?_
      refine ab_c rfl (x_isKind 0) ?_
      refine ab_t (y := 1) (by decide +kernel) ?_
      refine ab_n (st2 := [_]) rfl ?_
      iterate 3 refine ab_s rfl ?_
      refine jN_ne (a := 0) rfl rfl rfl rfl (by omega) (by omega) (fun h24_2 => ?_) (fun h24_2 => ?_)
      · iterate 2 refine ab_s rfl ?_
        refine ab_c rfl (x_cellA (j := 0) (by decide)) ?_
        refine ab_t (y := (-1)) rfl ?_
        refine ab_n (st2 := [_]) rfl ?_
        refine ab_s rfl ?_
        refine ab_ii (j := 1) rfl rfl rfl ?_
        iterate 6 refine ab_s rfl ?_
        refine ab_c rfl (x_isKind (-1)) ?_
        refine ab_t (y := 0) (by decide +kernel) ?_
        refine ab_n (st2 := [_]) rfl ?_
        refine ab_s rfl ?_
        refine ab_k (y := 0) rfl rfl ?_
        exact ab_ri rfl ((by decide +kernel : ∀ j, j < 7 → ¬ 5 = j → ¬ 0 = j → (0 : Int32) = z01 (asI (nI 5) (nI j))) j hj h24 h24_2)
      · refine ab_k (y := 1) rfl rfl ?_
        exact ab_ri rfl ((by decide +kernel : ∀ j, j < 7 → ¬ 5 = j → 0 = j → (1 : Int32) = z01 (asI (nI 5) (nI j))) j hj h24 h24_2)
    · refine ab_k (y := 1) rfl rfl ?_
      exact ab_ri rfl ((by decide +kernel : ∀ j, j < 7 → 5 = j → (1 : Int32) = z01 (asI (nI 5) (nI j))) j hj h24)
  · refine ab_s rfl ?_
    refine ab_gf rfl rfl rfl hw rfl ?_
    refine ab_t (y := 6) hk ?_
    refine ab_s rfl ?_
    refine ab_k (y := 0) rfl rfl ?_
    iterate 6 refine ab_s rfl ?_
    refine ab_c rfl (x_isKind 6) ?_
    refine ab_t (y := 1) (by decide +kernel) ?_
    refine ab_n (st2 := [_]) rfl ?_
    iterate 3 refine ab_s rfl ?_
    refine jN_ne (a := 6) rfl rfl rfl rfl (by omega) (by omega) (fun h24 => ?_) (fun h24 => ?_)
    · iterate 2 refine ab_s rfl ?_
      refine ab_c rfl (x_cellA (j := 6) (by decide)) ?_
      refine ab_t (y := 1) rfl ?_
      refine ab_n (st2 := [_]) rfl ?_
      refine ab_s rfl ?_
      refine ab_ii (j := 0) rfl rfl rfl ?_
      iterate 6 refine ab_s rfl ?_
      refine ab_c rfl (x_isKind 1) ?_
      refine ab_t (y := 1) (by decide +kernel) ?_
      refine ab_n (st2 := [_]) rfl ?_
      iterate 3 refine ab_s rfl ?_
      refine jN_ne (a := 1) rfl rfl rfl rfl (by omega) (by omega) (fun h24_2 => ?_) (fun h24_2 => ?_)
      · iterate 2 refine ab_s rfl ?_
        refine ab_c rfl (x_cellA (j := 1) (by decide)) ?_
        refine ab_t (y := 0) rfl ?_
        refine ab_n (st2 := [_]) rfl ?_
        refine ab_s rfl ?_
        refine ab_ii (j := 1) rfl rfl rfl ?_
        iterate 6 refine ab_s rfl ?_
        refine ab_c rfl (x_isKind 0) ?_
        refine ab_t (y := 1) (by decide +kernel) ?_
        refine ab_n (st2 := [_]) rfl ?_
        iterate 3 refine ab_s rfl ?_
        refine jN_ne (a := 0) rfl rfl rfl rfl (by omega) (by omega) (fun h24_3 => ?_) (fun h24_3 => ?_)
        · iterate 2 refine ab_s rfl ?_
          refine ab_c rfl (x_cellA (j := 0) (by decide)) ?_
          refine ab_t (y := (-1)) rfl ?_
          refine ab_n (st2 := [_]) rfl ?_
          refine ab_s rfl ?_
          refine ab_ii (j := 2) rfl rfl rfl ?_
          iterate 6 refine ab_s rfl ?_
          refine ab_c rfl (x_isKind (-1)) ?_
          refine ab_t (y := 0) (by decide +kernel) ?_
          refine ab_n (st2 := [_]) rfl ?_
          refine ab_s rfl ?_
          refine ab_k (y := 0) rfl rfl ?_
          exact ab_ri rfl ((by decide +kernel : ∀ j, j < 7 → ¬ 6 = j → ¬ 1 = j → ¬ 0 = j → (0 : Int32) = z01 (asI (nI 6) (nI j))) j hj h24 h24_2 h24_3)
        · refine ab_k (y := 1) rfl rfl ?_
          exact ab_ri rfl ((by decide +kernel : ∀ j, j < 7 → ¬ 6 = j → ¬ 1 = j → 0 = j → (1 : Int32) = z01 (asI (nI 6) (nI j))) j hj h24 h24_2 h24_3)
      · refine ab_k (y := 1) rfl rfl ?_
        exact ab_ri rfl ((by decide +kernel : ∀ j, j < 7 → ¬ 6 = j → 1 = j → (1 : Int32) = z01 (asI (nI 6) (nI j))) j hj h24 h24_2)
    · refine ab_k (y := 1) rfl rfl ?_
      exact ab_ri rfl ((by decide +kernel : ∀ j, j < 7 → 6 = j → (1 : Int32) = z01 (asI (nI 6) (nI j))) j hj h24)
end XC
/-- the houses of a row whose object stands at r -/
def rowHs (r : Nat) : List Value := (List.range 8).map (fun h => Value.ref (r + 3 + h))
theorem rowHs_l (r : Nat) : (rowHs r).length = 8 := by simp [rowHs]
theorem rowHs_g (r : Nat) {h : Nat} (hh : h < 8) : (rowHs r)[h]? = some (.ref (r + 3 + h)) := by simp [rowHs, hh]
/-- the row at r is s -/
def RowW (w : ab_W) (r : Nat) (s : List Int32) (n : Nat) : Prop :=
  w[r]? = some (.inl (2, [.ref (r + 1), .int (nI n), .int (bs (dB s) 14), .int (s.getD 1 0), .ref (r + 2)])) ∧ w[r + 1]? = some (.inl (7, rowHs r)) ∧ w[r + 2]? = some (.inr (s.drop 80)) ∧ (∀ h, h < n → w[r + 3 + h]? = some (.inl (0, hL s h))) ∧ (∀ h, h < 8 → ∃ vs, w[r + 3 + h]? = some (.inl (0, vs)) ∧ vs.length = 9) ∧ s.length = 90 ∧ s.getD 0 0 = nI n ∧ n ≤ 8
theorem RowW.fr {w w1 : ab_W} {r n : Nat} {s : List Int32} (R : RowW w r s n) (F : ∀ i, r ≤ i → i < r + 11 → w1[i]? = w[i]?) : RowW w1 r s n := by
  obtain ⟨r0, r1, r2, r3, r4, hl, h0, hn⟩ := R
  refine ⟨(F _ (by omega) (by omega)).trans r0, (F _ (by omega) (by omega)).trans r1, (F _ (by omega) (by omega)).trans r2, fun h hh => (F _ (by omega) (by omega)).trans (r3 h hh), fun h hh => ?_, hl, h0, hn⟩
  obtain ⟨vs, e1, e2⟩ := r4 h hh
  exact ⟨vs, (F _ (by omega) (by omega)).trans e1, e2⟩
section XD
variable {X : List Int32} {w : ab_W} {r n : Nat} {s : List Int32}
set_option maxRecDepth 100000 in
set_option maxHeartbeats 4000000 in
theorem x_at (R : RowW w r s n) {h : Nat} (hh : h < n) : ab_M X kX2_at [.ref r, .int (nI h)] w (some (.ref (r + 3 + h))) w := by
  have R0 := R
  obtain ⟨r0, r1, r2, r3, r4, hl, h0, hn⟩ := R
  show ab_G X kX2_at 0 [some (.ref r), some (.int (nI h))] [] w _ _
  refine ab_s rfl ?_
  refine jM_lt rfl rfl rfl rfl (by omega) (fun h1 => absurd h1 (by omega)) (fun h1 => ?_)
  iterate 2 refine ab_s rfl ?_
  refine ab_gf rfl rfl rfl r0 rfl ?_
  refine jN_ge rfl rfl rfl rfl (by omega) (by omega) (fun h9 => absurd h9 (by omega)) (fun h9 => ?_)
  iterate 2 refine ab_s rfl ?_
  refine ab_gf rfl rfl rfl r0 rfl ?_
  refine ab_alq (x := 8) rfl r1 rfl (by rw [rowHs_l]; rfl) ?_
  refine jN_lt (b := 8) rfl rfl rfl rfl (by omega) (by omega) (fun h18 => ?_) (fun h18 => absurd (by omega) h18)
  refine ab_s rfl ?_
  refine ab_gf rfl rfl rfl r0 rfl ?_
  refine ab_s rfl ?_
  refine ab_aq h rfl r1 rfl (by rw [rowHs_l]; decide) rfl (rowHs_g r (by omega)) ?_
  exact ab_r rfl
set_option maxRecDepth 100000 in
set_option maxHeartbeats 4000000 in
theorem x_atO (R : RowW w r s n) (x : Int32) (hx : inN x n = false) : ab_M X kX2_at [.ref r, .int x] w (some (.null)) w := by
  have R0 := R
  obtain ⟨r0, r1, r2, r3, r4, hl, h0, hn⟩ := R
  show ab_G X kX2_at 0 [some (.ref r), some (.int x)] [] w _ _
  refine ab_s rfl ?_
  refine j1_lt rfl rfl (fun h1 => ?_) (fun h1 => ?_)
  · iterate 2 refine ab_s rfl ?_
    exact ab_r rfl
  · iterate 2 refine ab_s rfl ?_
    refine ab_gf rfl rfl rfl r0 rfl ?_
    refine j2_ge rfl rfl (fun h9 => ?_) (fun h9 => ?_)
    · iterate 2 refine ab_s rfl ?_
      exact ab_r rfl
    · exact absurd (hx.symm.trans (inN_mid (by omega) h1 h9)) (by decide)
set_option maxRecDepth 100000 in
set_option maxHeartbeats 4000000 in
theorem x_rhas (R : RowW w r s n) (x : Int32) : ab_M X kX2_has [.ref r, .int x] w (some (.int (z01 (inN x n)))) w := by
  have R0 := R
  obtain ⟨r0, r1, r2, r3, r4, hl, h0, hn⟩ := R
  show ab_G X kX2_has 0 [some (.ref r), some (.int x)] [] w _ _
  iterate 2 refine ab_s rfl ?_
  refine ab_gf rfl rfl rfl r0 rfl ?_
  refine ab_c rfl (x_isBelow x n (by omega)) ?_
  refine ab_n (st2 := [_]) rfl ?_
  exact ab_rz rfl rfl rfl
set_option maxRecDepth 100000 in
set_option maxHeartbeats 4000000 in
theorem x_hasRoom (R : RowW w r s n) (x : Int32) : ab_M X kX2_hasRoom [.ref r, .int x] w (some (.int (z01 (inN x (2 * n))))) w := by
  have R0 := R
  obtain ⟨r0, r1, r2, r3, r4, hl, h0, hn⟩ := R
  show ab_G X kX2_hasRoom 0 [some (.ref r), some (.int x)] [] w _ _
  refine ab_s rfl ?_
  refine ab_k (y := 2) rfl rfl ?_
  refine ab_s rfl ?_
  refine ab_gf rfl rfl rfl r0 rfl ?_
  refine ab_Nmul (a := 2) rfl rfl rfl ?_
  refine ab_c rfl (x_isBelow x (2 * n) (by omega)) ?_
  refine ab_n (st2 := [_]) rfl ?_
  exact ab_rz rfl rfl rfl
set_option maxRecDepth 100000 in
set_option maxHeartbeats 4000000 in
theorem x_isFull (R : RowW w r s n)  : ab_M X kX2_isFull [.ref r] w (some (.int (z01 (decide (8 ≤ n))))) w := by
  have R0 := R
  obtain ⟨r0, r1, r2, r3, r4, hl, h0, hn⟩ := R
  show ab_G X kX2_isFull 0 [some (.ref r)] [] w _ _
  refine ab_s rfl ?_
  refine ab_gf rfl rfl rfl r0 rfl ?_
  refine ab_k (y := 8) rfl rfl ?_
  refine jN_lt (b := 8) rfl rfl rfl rfl (by omega) (by omega) (fun h6 => ?_) (fun h6 => ?_)
  · refine ab_k (y := 0) rfl rfl ?_
    exact ab_ri rfl (by first | (rw [decide_eq_true (by omega)]; rfl) | (rw [decide_eq_false (by omega)]; rfl))
  · refine ab_k (y := 1) rfl rfl ?_
    refine ab_s rfl ?_
    exact ab_ri rfl (by first | (rw [decide_eq_true (by omega)]; rfl) | (rw [decide_eq_false (by omega)]; rfl))
set_option maxRecDepth 100000 in
set_option maxHeartbeats 4000000 in
theorem x_stairOf (R : RowW w r s n) {h : Nat} (hh : h < n) : ab_M X kX2_stairOf [.ref r, .int (nI h)] w (some (.int (fld s h 1))) w := by
  have R0 := R
  obtain ⟨r0, r1, r2, r3, r4, hl, h0, hn⟩ := R
  show ab_G X kX2_stairOf 0 [some (.ref r), some (.int (nI h)), none] [] w _ _
  iterate 2 refine ab_s rfl ?_
  refine ab_cv rfl rfl rfl r0 rfl rfl (x_at R0 hh) ?_
  refine ab_n (st2 := [_]) rfl ?_
  iterate 4 refine ab_s rfl ?_
  refine ab_gf rfl rfl rfl (r3 _ hh) rfl ?_
  exact ab_ri rfl rfl
set_option maxRecDepth 100000 in
set_option maxHeartbeats 4000000 in
theorem x_stairOfO (R : RowW w r s n) (x : Int32) (hx : inN x n = false) : ab_M X kX2_stairOf [.ref r, .int x] w (some (.int (-1))) w := by
  have R0 := R
  obtain ⟨r0, r1, r2, r3, r4, hl, h0, hn⟩ := R
  show ab_G X kX2_stairOf 0 [some (.ref r), some (.int x), none] [] w _ _
  iterate 2 refine ab_s rfl ?_
  refine ab_cv rfl rfl rfl r0 rfl rfl (x_atO R0 x hx) ?_
  refine ab_n (st2 := [_]) rfl ?_
  iterate 3 refine ab_s rfl ?_
  refine ab_k (y := (-1)) rfl rfl ?_
  refine ab_s rfl ?_
  exact ab_ri rfl rfl
set_option maxRecDepth 100000 in
set_option maxHeartbeats 4000000 in
theorem x_bedOf (R : RowW w r s n) {h : Nat} (hh : h < n) : ab_M X kX2_bedOf [.ref r, .int (nI h)] w (some (.int (fld s h 7))) w := by
  have R0 := R
  obtain ⟨r0, r1, r2, r3, r4, hl, h0, hn⟩ := R
  show ab_G X kX2_bedOf 0 [some (.ref r), some (.int (nI h)), none] [] w _ _
  iterate 2 refine ab_s rfl ?_
  refine ab_cv rfl rfl rfl r0 rfl rfl (x_at R0 hh) ?_
  refine ab_n (st2 := [_]) rfl ?_
  iterate 4 refine ab_s rfl ?_
  refine ab_gf rfl rfl rfl (r3 _ hh) rfl ?_
  exact ab_ri rfl rfl
set_option maxRecDepth 100000 in
set_option maxHeartbeats 4000000 in
theorem x_homeOf (R : RowW w r s n) (I : SI s n) {h : Nat} (hh : h < n) : ab_M X kX2_homeOf [.ref r, .int (nI h)] w (some (.int (nI (homeN s h)))) w := by
  have R0 := R
  obtain ⟨r0, r1, r2, r3, r4, hl, h0, hn⟩ := R
  show ab_G X kX2_homeOf 0 [some (.ref r), some (.int (nI h))] [] w _ _
  refine ab_k (y := 2) rfl rfl ?_
  iterate 2 refine ab_s rfl ?_
  refine ab_cv rfl rfl rfl r0 rfl rfl (x_bedOf R0 hh) ?_
  refine ab_t (bedN_e I hn hh).1 ?_
  refine ab_n (st2 := [_, _]) rfl ?_
  refine ab_Nmul (a := 2) rfl rfl rfl ?_
  refine ab_k (y := 1) rfl rfl ?_
  refine ab_Nadd (b := 1) rfl rfl rfl ?_
  exact ab_ri rfl rfl
set_option maxRecDepth 100000 in
set_option maxHeartbeats 4000000 in
theorem x_isOpen (R : RowW w r s n) (x : Int32) : ab_M X kX2_isOpen [.ref r, .int x] w (some (.int (z01 (inN x 14 && dB s x.toNatClampNeg)))) w := by
  have R0 := R
  obtain ⟨r0, r1, r2, r3, r4, hl, h0, hn⟩ := R
  show ab_G X kX2_isOpen 0 [some (.ref r), some (.int x)] [] w _ _
  refine ab_s rfl ?_
  refine ab_k (y := 14) rfl rfl ?_
  refine ab_c rfl (x_isBelow x 14 (by omega)) ?_
  refine ab_n (st2 := [_]) rfl ?_
  refine z1_eq rfl rfl (fun h6 => ?_) (fun h6 => ?_)
  · refine ab_k (y := 0) rfl rfl ?_
    exact ab_ri rfl (by rw [h6]; rfl)
  · refine ab_s rfl ?_
    refine ab_gf rfl rfl rfl r0 rfl ?_
    refine ab_s rfl ?_
    obtain ⟨d, hd, rfl⟩ := inN_t (by omega) h6
    rw [nI_clamp (by omega)]
    refine ab_c rfl (x_isInB (dB s) (by omega) hd) ?_
    refine ab_n (st2 := [_]) rfl ?_
    refine z1_eq rfl rfl (fun h17 => ?_) (fun h17 => ?_)
    · refine ab_k (y := 0) rfl rfl ?_
      exact ab_ri rfl (by rw [h6, h17]; rfl)
    · refine ab_k (y := 1) rfl rfl ?_
      refine ab_s rfl ?_
      exact ab_ri rfl (by rw [h6, h17]; rfl)
end XD
end
section
/-! THE CLASS: a row, what it finds by going through its houses -/
theorem any_even {s : List Int32} {n h q : Nat} (hh : h < n) : anyR (fun g => stB s n g (2 * h) q) n = (decide (q % 2 = 1) && decide (q / 2 < n) && decide (fld s h 1 = nI (q / 2))) := by
  rw [Bool.eq_iff_iff, anyR_iff]
  unfold stB
  simp only [Bool.or_eq_true, Bool.and_eq_true, decide_eq_true_eq]
  constructor
  · rintro ⟨g, hg, ⟨h1, h2⟩ | ⟨h1, h2⟩⟩
    · have : g = h := by omega
      subst this
      exact h2
    · exact absurd h2.1.1 (by omega)
  · intro h2
    exact ⟨h, hh, Or.inl ⟨rfl, h2⟩⟩
theorem stB_odd {s : List Int32} {n g h q : Nat} (hh : h < n) : stB s n g (2 * h + 1) q = (decide (q = 2 * g) && decide (fld s g 1 = nI h)) := by
  unfold stB
  rw [show decide (2 * h + 1 = 2 * g) = false from decide_eq_false (by omega), show decide ((2 * h + 1) % 2 = 1) = true from decide_eq_true (by omega), show (2 * h + 1) / 2 = h by omega, decide_eq_true hh]
  simp
/-- the leaves that a house has for a try -/
def lvG (s : List Int32) (em gi : Int32) (f h : Nat) : Int32 := if bt gi h = true then (if bt em h = true then 0 else fld s h 2) ||| (1 : Int32) <<< (nI f &&& 31) else (if bt em h = true then 0 else fld s h 2)
/-- who is named by those of p -/
def namB (s : List Int32) (n : Nat) (p : Nat → Bool) (g : Nat) : Bool := anyR (fun h => p h && (bt (fld s h 2) g && !decide (g = h))) n
theorem mask_n : ∀ n, n ≤ 8 → ((1 : Int32) <<< (nI n &&& 31)) - 1 = bs (fun _ => true) n := by decide +kernel
theorem bs_mask {p : Nat → Bool} {n : Nat} (hn : n ≤ 8) : bs p 8 &&& bs (fun _ => true) n = bs p n := by
  apply b_ext
  intro i hi
  rw [b_and, bt_bs _ _ _ (by omega) hi, bt_bs _ _ _ (by omega) hi, bt_bs _ _ _ (by omega) hi]
  by_cases h1 : i < n
  · simp [h1, show i < 8 by omega]
  · simp [h1]
theorem not_one {x : Int32} {i : Nat} (hx : inn x 8) (hi : i < 8) : x &&& (((1 : Int32) <<< (nI i &&& 31)) ^^^ (-1)) = bs (fun g => bt x g && !decide (g = i)) 8 := by
  apply b_ext
  intro j hj
  rw [b_and, b_xor, b_sh (by omega) hj, b_m1 j hj, bt_bs _ _ _ (by omega) hj]
  by_cases h1 : j < 8
  · simp [h1]
  · simp [h1, hx j (by omega) hj]
theorem nam_next {s : List Int32} {p : Nat → Bool} {i : Nat} (hx : inn (fld s i 2) 8) (hi : i < 8) (hp : p i = true) : bs (namB s i p) 8 ||| (fld s i 2 &&& (((1 : Int32) <<< (nI i &&& 31)) ^^^ (-1))) = bs (namB s (i + 1) p) 8 := by
  rw [not_one hx hi, bs_or (by omega)]
  exact bs_cong (fun g _ => by
    show (namB s i p g || (bt (fld s i 2) g && !decide (g = i))) = (namB s i p g || (p i && (bt (fld s i 2) g && !decide (g = i))))
    rw [hp, Bool.true_and])
theorem nam_same {s : List Int32} {p : Nat → Bool} {i : Nat} (hp : p i = false) : bs (namB s i p) 8 = bs (namB s (i + 1) p) 8 := bs_cong (fun g _ => by
    show namB s i p g = (namB s i p g || (p i && (bt (fld s i 2) g && !decide (g = i))))
    rw [hp, Bool.false_and, Bool.or_false])
theorem pk_neg {m : Nat} (h : m < 2) : (nI m - 2).toInt < 0 := by
  rcases (show m = 0 ∨ m = 1 by omega) with rfl | rfl <;> decide
section XE
variable {X : List Int32} {w : ab_W} {r n : Nat} {s : List Int32}
set_option maxRecDepth 100000 in
set_option maxHeartbeats 4000000 in
theorem x_b46e (R : RowW w r s n) (I : SI s n) (h : Nat) (hh : h < n) (B : Nat → Bool) (xs : Int32) (hx : xs = bs B 16) : ab_G X kX2_besides 46 [some (.ref r), some (.int (nI (2 * h + 0))), some (.int xs), none, none] [] w (some (.int (bs (fun q => B q || anyR (fun g => stB s n g (2 * h + 0) q) n) 16))) w := by
  have R0 := R
  obtain ⟨r0, r1, r2, r3, r4, hl, h0, hn⟩ := R
  refine ab_s rfl ?_
  refine ab_k (y := 2) rfl rfl ?_
  refine ab_Ndiv (b := 2) rfl rfl rfl (by omega) (by omega) (by omega) ?_
  iterate 2 refine ab_s rfl ?_
  refine ab_k (y := 2) rfl rfl ?_
  refine ab_Nrem (b := 2) rfl rfl rfl (by omega) (by omega) (by omega) ?_
  refine jM_ne rfl rfl rfl rfl (by omega) (fun h53 => absurd (by omega) h53) (fun h53 => ?_)
  iterate 2 refine ab_s rfl ?_
  refine ab_cv rfl rfl rfl r0 rfl rfl (x_stairOf R0 (h := (2 * h + 0) / 2) (by omega)) ?_
  refine ab_n (st2 := [_]) rfl ?_
  iterate 3 refine ab_s rfl ?_
  refine ab_cv rfl rfl rfl r0 rfl rfl (x_rhas R0 (fld s ((2 * h + 0) / 2) 1)) ?_
  refine ab_n (st2 := [_]) rfl ?_
  refine z1_eq rfl rfl (fun h69 => ?_) (fun h69 => ?_)
  · refine ab_s rfl ?_
    rw [show (2 * h + 0) / 2 = h by omega] at h69
    exact ab_ri rfl (by
      rw [hx]
      exact bs_cong (fun q hq => by
        rw [show 2 * h + 0 = 2 * h from rfl, any_even hh]
        have : (decide (q % 2 = 1) && decide (q / 2 < n) && decide (fld s h 1 = nI (q / 2))) = false := by
          apply Bool.eq_false_iff.mpr
          intro k
          simp only [Bool.and_eq_true, decide_eq_true_eq] at k
          rw [k.2, inN_nI (by omega), decide_eq_false_iff_not] at h69
          exact h69 k.1.2
        rw [this, Bool.or_false]))
  · refine ab_s rfl ?_
    refine ab_k (y := 1) rfl rfl ?_
    refine ab_k (y := 2) rfl rfl ?_
    refine ab_s rfl ?_
    obtain ⟨t, ht, e⟩ := inN_t (by omega) h69
    refine ab_Nmul (a := 2) (b := t) rfl rfl e ?_
    refine ab_k (y := 1) rfl rfl ?_
    refine ab_Nadd (b := 1) rfl rfl rfl ?_
    iterate 3 refine ab_s rfl ?_
    rw [show (2 * h + 0) / 2 = h by omega] at e
    exact ab_ri rfl (by
      rw [hx]
      exact bs_or1 (by omega) (by omega) (fun q hq => by
        rw [show 2 * h + 0 = 2 * h from rfl, any_even hh, e]
        congr 1
        rw [Bool.eq_iff_iff]
        simp only [Bool.and_eq_true, decide_eq_true_eq]
        rw [nI_eq (by omega) (by omega)]
        omega))
set_option maxRecDepth 100000 in
set_option maxHeartbeats 4000000 in
theorem x_b46o (R : RowW w r s n) (I : SI s n) (h : Nat) (hh : h < n) (B : Nat → Bool) (xs : Int32) (hx : xs = bs B 16) : ab_G X kX2_besides 46 [some (.ref r), some (.int (nI (2 * h + 1))), some (.int xs), none, none] [] w (some (.int (bs (fun q => B q || anyR (fun g => stB s n g (2 * h + 1) q) n) 16))) w := by
  have R0 := R
  obtain ⟨r0, r1, r2, r3, r4, hl, h0, hn⟩ := R
  refine ab_s rfl ?_
  refine ab_k (y := 2) rfl rfl ?_
  refine ab_Ndiv (b := 2) rfl rfl rfl (by omega) (by omega) (by omega) ?_
  iterate 2 refine ab_s rfl ?_
  refine ab_k (y := 2) rfl rfl ?_
  refine ab_Nrem (b := 2) rfl rfl rfl (by omega) (by omega) (by omega) ?_
  refine jM_ne rfl rfl rfl rfl (by omega) (fun h53 => ?_) (fun h53 => absurd h53 (by omega))
  refine ab_k (y := 0) rfl rfl ?_
  refine ab_s rfl ?_
  refine g_loop0 n (fun i ls => ls = [some (.ref r), some (.int (nI (2 * h + 1))), some (.int (bs (fun q => B q || anyR (fun g => stB s n g (2 * h + 1) q) i) 16)), some (.int (nI ((2 * h + 1) / 2))), some (.int (nI i))]) (by rw [hx, show (fun q => B q || anyR (fun g => stB s n g (2 * h + 1) q) 0) = B from funext (fun q => Bool.or_false _)]; rfl) (fun i ls hi hJ ih => ?_) (fun ls hJ => ?_)
  · obtain rfl := hJ
    iterate 2 refine ab_s rfl ?_
    refine ab_gf rfl rfl rfl r0 rfl ?_
    refine jN_ge rfl rfl rfl rfl (by omega) (by omega) (fun h96 => absurd h96 (by omega)) (fun h96 => ?_)
    iterate 2 refine ab_s rfl ?_
    refine ab_cv rfl rfl rfl r0 rfl rfl (x_stairOf R0 hi) ?_
    refine ab_n (st2 := [_]) rfl ?_
    refine ab_s rfl ?_
    refine j2_ne rfl rfl (fun h106 => ?_) (fun h106 => ?_)
    · refine ab_ii rfl rfl rfl ?_
      refine ab_s rfl ?_
      rw [show (2 * h + 1) / 2 = h by omega] at h106
      exact ih _ (by rw [any_f (B := B) (F := fun g q => stB s n g (2 * h + 1) q) (i := i) (fun q _ => by show stB s n i (2 * h + 1) q = false; rw [stB_odd hh, decide_eq_false h106, Bool.and_false])]; rfl)
    · refine ab_s rfl ?_
      refine ab_k (y := 1) rfl rfl ?_
      refine ab_k (y := 2) rfl rfl ?_
      refine ab_s rfl ?_
      refine ab_Nmul (a := 2) rfl rfl rfl ?_
      iterate 3 refine ab_s rfl ?_
      refine ab_ii rfl rfl rfl ?_
      refine ab_s rfl ?_
      rw [show (2 * h + 1) / 2 = h by omega] at h106
      exact ih _ (by rw [← any_t (B := B) (F := fun g q => stB s n g (2 * h + 1) q) (i := i) (j := 2 * i) (by omega) (fun q _ => by show stB s n i (2 * h + 1) q = _; rw [stB_odd hh, decide_eq_true h106, Bool.and_true])]; rfl)
  · obtain rfl := hJ
    iterate 2 refine ab_s rfl ?_
    refine ab_gf rfl rfl rfl r0 rfl ?_
    refine jN_ge rfl rfl rfl rfl (by omega) (by omega) (fun h96 => ?_) (fun h96 => absurd (by omega) h96)
    refine ab_s rfl ?_
    exact ab_ri rfl rfl
set_option maxRecDepth 100000 in
set_option maxHeartbeats 4000000 in
theorem x_b28 (R : RowW w r s n) (I : SI s n) (m : Nat) (hm : m < 2 * n) (B : Nat → Bool) (xs : Int32) (hx : xs = bs B 16) : ab_G X kX2_besides 28 [some (.ref r), some (.int (nI m)), some (.int xs), none, none] [] w (some (.int (bs (fun q => (B q || (decide (q + 2 = m) && dB s q)) || anyR (fun g => stB s n g m q) n) 16))) w := by
  have R0 := R
  obtain ⟨r0, r1, r2, r3, r4, hl, h0, hn⟩ := R
  have K : ∀ ys : Int32, ys = bs (fun q => B q || (decide (q + 2 = m) && dB s q)) 16 → ab_G X kX2_besides 46 [some (.ref r), some (.int (nI m)), some (.int ys), none, none] [] w (some (.int (bs (fun q => (B q || (decide (q + 2 = m) && dB s q)) || anyR (fun g => stB s n g m q) n) 16))) w := by
    intro ys hy
    rcases Nat.mod_two_eq_zero_or_one m with e | e
    · have e2 : m = 2 * (m / 2) + 0 := by omega
      have k := x_b46e (X := X) R0 I (m / 2) (by omega) _ ys hy
      rw [← e2] at k
      exact k
    · have e2 : m = 2 * (m / 2) + 1 := by omega
      have k := x_b46o (X := X) R0 I (m / 2) (by omega) _ ys hy
      rw [← e2] at k
      exact k
  by_cases h2 : 2 ≤ m
  · iterate 2 refine ab_s rfl ?_
    refine ab_k (y := 2) rfl rfl ?_
    refine ab_Nsub (b := 2) rfl rfl rfl (by omega) ?_
    refine ab_cv rfl rfl rfl r0 rfl rfl (x_isOpen R0 (nI (m - 2))) ?_
    refine ab_n (st2 := [_]) rfl ?_
    refine z1_eq rfl rfl (fun h35 => ?_) (fun h35 => ?_)
    · rw [inN_nI (by omega), decide_eq_true (by omega), Bool.true_and, nI_clamp (by omega)] at h35
      exact K _ (by rw [hx]; exact bs_cong (fun q _ => by rw [dd h35, Bool.and_false, Bool.or_false]))
    · refine ab_s rfl ?_
      refine ab_k (y := 1) rfl rfl ?_
      refine ab_s rfl ?_
      refine ab_k (y := 2) rfl rfl ?_
      refine ab_Nsub (b := 2) rfl rfl rfl (by omega) ?_
      iterate 3 refine ab_s rfl ?_
      rw [inN_nI (by omega), decide_eq_true (by omega), Bool.true_and, nI_clamp (by omega)] at h35
      exact K _ (by rw [hx]; exact bs_or1 (by omega) (by omega) (fun q _ => by rw [dd h35, Bool.and_true]; congr 1; exact decide_eq_decide.mpr (by omega)))
  · iterate 2 refine ab_s rfl ?_
    refine ab_k (y := 2) rfl rfl ?_
    refine ab_s rfl ?_
    refine ab_cv rfl rfl rfl r0 rfl rfl (x_isOpen R0 (nI m - 2)) ?_
    refine ab_n (st2 := [_]) rfl ?_
    refine z1_eq rfl rfl (fun h35 => ?_) (fun h35 => absurd (show (true = false) from h35.symm.trans (show _ = false from by rw [inN_neg (pk_neg (by omega))]; rfl)) (by decide))
    exact K _ (by rw [hx]; exact bs_cong (fun q _ => by rw [decide_eq_false (by omega), Bool.false_and, Bool.or_false]))
set_option maxRecDepth 100000 in
set_option maxHeartbeats 4000000 in
theorem x_besides (R : RowW w r s n) (I : SI s n) {m : Nat} (hm : m < 2 * n) : ab_M X kX2_besides [.ref r, .int (nI m)] w (some (.int (bs (adjB s n m) 16))) w := by
  have R0 := R
  obtain ⟨r0, r1, r2, r3, r4, hl, h0, hn⟩ := R
  show ab_G X kX2_besides 0 [some (.ref r), some (.int (nI m)), none, none, none] [] w _ _
  refine ab_k (y := 0) rfl rfl ?_
  iterate 3 refine ab_s rfl ?_
  refine ab_cv rfl rfl rfl r0 rfl rfl (x_isOpen R0 (nI m)) ?_
  refine ab_n (st2 := [_]) rfl ?_
  refine z1_eq rfl rfl (fun h7 => ?_) (fun h7 => ?_)
  · have k := x_b28 (X := X) R0 I m hm (fun q => decide (q = m + 2 ∧ m + 2 < 2 * n) && dB s m) ((0 : Int32)) (((bs_zero (by omega)).mpr (fun q _ => by rw [show (decide (q = m + 2 ∧ m + 2 < 2 * n) && dB s m) = false from by 
      rw [inN_nI (by omega), nI_clamp (by omega)] at h7
      by_cases h14 : m < 14
      · rw [decide_eq_true h14, Bool.true_and] at h7
        rw [h7, Bool.and_false]
      · rw [decide_eq_false (by omega), Bool.false_and]])).symm)
    rw [bs_cong (q := adjB s n m) (fun q hq => by rw [adjB_e hm hn hq I, Bool.or_comm (decide (q + 2 = m) && dB s q)])] at k
    exact k
  · iterate 2 refine ab_s rfl ?_
    refine ab_k (y := 2) rfl rfl ?_
    refine ab_Nadd (b := 2) rfl rfl rfl ?_
    refine ab_cv rfl rfl rfl r0 rfl rfl (x_hasRoom R0 (nI (m + 2))) ?_
    refine ab_n (st2 := [_]) rfl ?_
    refine z1_eq rfl rfl (fun h17 => ?_) (fun h17 => ?_)
    · have k := x_b28 (X := X) R0 I m hm (fun q => decide (q = m + 2 ∧ m + 2 < 2 * n) && dB s m) ((0 : Int32)) (((bs_zero (by omega)).mpr (fun q _ => by rw [show (decide (q = m + 2 ∧ m + 2 < 2 * n) && dB s m) = false from by 
        rw [inN_nI (by omega), decide_eq_false_iff_not] at h17
        rw [decide_eq_false (by omega), Bool.false_and]])).symm)
      rw [bs_cong (q := adjB s n m) (fun q hq => by rw [adjB_e hm hn hq I, Bool.or_comm (decide (q + 2 = m) && dB s q)])] at k
      exact k
    · refine ab_s rfl ?_
      refine ab_k (y := 1) rfl rfl ?_
      refine ab_s rfl ?_
      refine ab_k (y := 2) rfl rfl ?_
      refine ab_Nadd (b := 2) rfl rfl rfl ?_
      iterate 3 refine ab_s rfl ?_
      have k := x_b28 (X := X) R0 I m hm (fun q => decide (q = m + 2 ∧ m + 2 < 2 * n) && dB s m) ((0 : Int32) ||| (1 : Int32) <<< (nI (m + 2) &&& 31)) (by
        rw [inN_nI (by omega), decide_eq_true_eq] at h17
        rw [inN_nI (by omega), nI_clamp (by omega), Bool.and_eq_true] at h7
        rw [show (0 : Int32) = bs (fun _ => false) 16 from ((bs_zero (by omega)).mpr (fun _ _ => rfl)).symm]
        exact bs_or1 (by omega) (by omega) (fun q _ => by rw [h7.2, Bool.and_true, Bool.false_or]; exact decide_eq_decide.mpr (by omega)))
      rw [bs_cong (q := adjB s n m) (fun q hq => by rw [adjB_e hm hn hq I, Bool.or_comm (decide (q + 2 = m) && dB s q)])] at k
      exact k
end XE
end
section
/-! THE CLASS: a row, sets and sums over its houses -/
theorem lvG_00 (s : List Int32) (f h : Nat) : lvG s 0 0 f h = fld s h 2 := by
  unfold lvG
  rw [b_0, if_neg (by decide), if_neg (by decide)]
/-- how many name whom -/
def pairN (s : List Int32) (n : Nat) : Nat → Nat
  | 0 => 0
  | i + 1 => pairN s n i + cntR (namB s n (fun h => decide (h = i))) n
theorem namB_cong {s : List Int32} {n g : Nat} {p q : Nat → Bool} (h : ∀ i, i < n → p i = q i) : namB s n p g = namB s n q g := anyR_cong (fun r hr => by rw [h r hr])
theorem wakeV_fld {s : List Int32} {h : Nat} {c : Int32} : wakeV s h c = wakeV s h c := rfl
/-- the noise that a room has -/
def wakR (s : List Int32) (n : Nat) (c : Int32) (r : Nat) : Int32 := if r / 2 < n ∧ r % 2 = 1 then wakeV s (r / 2) c else 0
section XF
variable {X : List Int32} {w : ab_W} {r n : Nat} {s : List Int32}
set_option maxRecDepth 100000 in
set_option maxHeartbeats 4000000 in
theorem x_admitting (R : RowW w r s n) (I : SI s n) {f : Nat} (hf : f < 8) (c em gi : Int32) : ab_M X kX2_admitting [.ref r, .int (nI f), .int c, .int em, .int gi] w (some (.int (bs (fun h => letV s h f c (lvG s em gi f h)) n))) w := by
  have R0 := R
  obtain ⟨r0, r1, r2, r3, r4, hl, h0, hn⟩ := R
  show ab_G X kX2_admitting 0 [some (.ref r), some (.int (nI f)), some (.int c), some (.int em), some (.int gi), none, none, none, none] [] w _ _
  refine ab_k (y := 0) rfl rfl ?_
  refine ab_s rfl ?_
  refine ab_k (y := 0) rfl rfl ?_
  refine ab_s rfl ?_
  refine g_loop0 n (fun i ls => ∃ x0, ∃ x1, ls = [some (.ref r), some (.int (nI f)), some (.int c), some (.int em), some (.int gi), some (.int (bs (fun h => letV s h f c (lvG s em gi f h)) i)), some (.int (nI i)), x0, x1]) ⟨none, none, rfl⟩ (fun i ls hi hJ ih => ?_) (fun ls hJ => ?_)
  · obtain ⟨x0, x1, rfl⟩ := hJ
    iterate 2 refine ab_s rfl ?_
    refine ab_gf rfl rfl rfl r0 rfl ?_
    refine jN_ge rfl rfl rfl rfl (by omega) (by omega) (fun h12 => absurd h12 (by omega)) (fun h12 => ?_)
    iterate 2 refine ab_s rfl ?_
    refine ab_cv rfl rfl rfl r0 rfl rfl (x_at R0 hi) ?_
    refine ab_n (st2 := [_]) rfl ?_
    iterate 5 refine ab_s rfl ?_
    refine ab_c rfl (x_isIn em (by omega)) ?_
    refine ab_n (st2 := [_]) rfl ?_
    refine z1_eq rfl rfl (fun h34 => ?_) (fun h34 => ?_)
    · refine ab_s rfl ?_
      refine ab_gf rfl rfl rfl (r3 _ (by omega)) rfl ?_
      iterate 3 refine ab_s rfl ?_
      refine ab_c rfl (x_isIn gi (by omega)) ?_
      refine ab_n (st2 := [_]) rfl ?_
      refine z1_eq rfl rfl (fun h55 => ?_) (fun h55 => ?_)
      · iterate 6 refine ab_s rfl ?_
        obtain ⟨kk, hk7, hk⟩ := (I.1 i hi).1
        refine ab_cv rfl rfl rfl (r3 i hi) rfl rfl (x_admits (r3 i hi) hf (by omega) hk7 hk c _) ?_
        refine ab_n (st2 := [_]) rfl ?_
        refine z1_eq rfl rfl (fun h80 => ?_) (fun h80 => ?_)
        · refine ab_ii rfl rfl rfl ?_
          refine ab_s rfl ?_
          have e : lvG s em gi f i = fld s i 2 := by
            unfold lvG
            rw [if_neg (by rw [h55]; decide), if_neg (by rw [h34]; decide)]
          exact ih _ ⟨_, _, by rw [bs_succ_f (p := fun h => letV s h f c (lvG s em gi f h)) (n := i) (by show letV s i f c (lvG s em gi f i) = false; rw [e]; exact h80)]; rfl⟩
        · refine ab_s rfl ?_
          refine ab_k (y := 1) rfl rfl ?_
          iterate 4 refine ab_s rfl ?_
          refine ab_ii rfl rfl rfl ?_
          refine ab_s rfl ?_
          have e : lvG s em gi f i = fld s i 2 := by
            unfold lvG
            rw [if_neg (by rw [h55]; decide), if_neg (by rw [h34]; decide)]
          exact ih _ ⟨_, _, by rw [← bs_succ_t (p := fun h => letV s h f c (lvG s em gi f h)) (n := i) (by show letV s i f c (lvG s em gi f i) = true; rw [e]; exact h80)]; rfl⟩
      · refine ab_s rfl ?_
        refine ab_k (y := 1) rfl rfl ?_
        iterate 9 refine ab_s rfl ?_
        obtain ⟨kk, hk7, hk⟩ := (I.1 i hi).1
        refine ab_cv rfl rfl rfl (r3 i hi) rfl rfl (x_admits (r3 i hi) hf (by omega) hk7 hk c _) ?_
        refine ab_n (st2 := [_]) rfl ?_
        refine z1_eq rfl rfl (fun h80 => ?_) (fun h80 => ?_)
        · refine ab_ii rfl rfl rfl ?_
          refine ab_s rfl ?_
          have e : lvG s em gi f i = (fld s i 2) ||| (1 : Int32) <<< (nI f &&& 31) := by
            unfold lvG
            rw [if_pos h55, if_neg (by rw [h34]; decide)]
          exact ih _ ⟨_, _, by rw [bs_succ_f (p := fun h => letV s h f c (lvG s em gi f h)) (n := i) (by show letV s i f c (lvG s em gi f i) = false; rw [e]; exact h80)]; rfl⟩
        · refine ab_s rfl ?_
          refine ab_k (y := 1) rfl rfl ?_
          iterate 4 refine ab_s rfl ?_
          refine ab_ii rfl rfl rfl ?_
          refine ab_s rfl ?_
          have e : lvG s em gi f i = (fld s i 2) ||| (1 : Int32) <<< (nI f &&& 31) := by
            unfold lvG
            rw [if_pos h55, if_neg (by rw [h34]; decide)]
          exact ih _ ⟨_, _, by rw [← bs_succ_t (p := fun h => letV s h f c (lvG s em gi f h)) (n := i) (by show letV s i f c (lvG s em gi f i) = true; rw [e]; exact h80)]; rfl⟩
    · refine ab_k (y := 0) rfl rfl ?_
      iterate 4 refine ab_s rfl ?_
      refine ab_c rfl (x_isIn gi (by omega)) ?_
      refine ab_n (st2 := [_]) rfl ?_
      refine z1_eq rfl rfl (fun h55 => ?_) (fun h55 => ?_)
      · iterate 6 refine ab_s rfl ?_
        obtain ⟨kk, hk7, hk⟩ := (I.1 i hi).1
        refine ab_cv rfl rfl rfl (r3 i hi) rfl rfl (x_admits (r3 i hi) hf (by omega) hk7 hk c _) ?_
        refine ab_n (st2 := [_]) rfl ?_
        refine z1_eq rfl rfl (fun h80 => ?_) (fun h80 => ?_)
        · refine ab_ii rfl rfl rfl ?_
          refine ab_s rfl ?_
          have e : lvG s em gi f i = 0 := by
            unfold lvG
            rw [if_neg (by rw [h55]; decide), if_pos h34]
          exact ih _ ⟨_, _, by rw [bs_succ_f (p := fun h => letV s h f c (lvG s em gi f h)) (n := i) (by show letV s i f c (lvG s em gi f i) = false; rw [e]; exact h80)]; rfl⟩
        · refine ab_s rfl ?_
          refine ab_k (y := 1) rfl rfl ?_
          iterate 4 refine ab_s rfl ?_
          refine ab_ii rfl rfl rfl ?_
          refine ab_s rfl ?_
          have e : lvG s em gi f i = 0 := by
            unfold lvG
            rw [if_neg (by rw [h55]; decide), if_pos h34]
          exact ih _ ⟨_, _, by rw [← bs_succ_t (p := fun h => letV s h f c (lvG s em gi f h)) (n := i) (by show letV s i f c (lvG s em gi f i) = true; rw [e]; exact h80)]; rfl⟩
      · refine ab_s rfl ?_
        refine ab_k (y := 1) rfl rfl ?_
        iterate 9 refine ab_s rfl ?_
        obtain ⟨kk, hk7, hk⟩ := (I.1 i hi).1
        refine ab_cv rfl rfl rfl (r3 i hi) rfl rfl (x_admits (r3 i hi) hf (by omega) hk7 hk c _) ?_
        refine ab_n (st2 := [_]) rfl ?_
        refine z1_eq rfl rfl (fun h80 => ?_) (fun h80 => ?_)
        · refine ab_ii rfl rfl rfl ?_
          refine ab_s rfl ?_
          have e : lvG s em gi f i = (0) ||| (1 : Int32) <<< (nI f &&& 31) := by
            unfold lvG
            rw [if_pos h55, if_pos h34]
          exact ih _ ⟨_, _, by rw [bs_succ_f (p := fun h => letV s h f c (lvG s em gi f h)) (n := i) (by show letV s i f c (lvG s em gi f i) = false; rw [e]; exact h80)]; rfl⟩
        · refine ab_s rfl ?_
          refine ab_k (y := 1) rfl rfl ?_
          iterate 4 refine ab_s rfl ?_
          refine ab_ii rfl rfl rfl ?_
          refine ab_s rfl ?_
          have e : lvG s em gi f i = (0) ||| (1 : Int32) <<< (nI f &&& 31) := by
            unfold lvG
            rw [if_pos h55, if_pos h34]
          exact ih _ ⟨_, _, by rw [← bs_succ_t (p := fun h => letV s h f c (lvG s em gi f h)) (n := i) (by show letV s i f c (lvG s em gi f i) = true; rw [e]; exact h80)]; rfl⟩
  · obtain ⟨x0, x1, rfl⟩ := hJ
    iterate 2 refine ab_s rfl ?_
    refine ab_gf rfl rfl rfl r0 rfl ?_
    refine jN_ge rfl rfl rfl rfl (by omega) (by omega) (fun h12 => ?_) (fun h12 => absurd (by omega) h12)
    refine ab_s rfl ?_
    exact ab_ri rfl rfl
set_option maxRecDepth 100000 in
set_option maxHeartbeats 4000000 in
theorem x_wakesIn (R : RowW w r s n) {m : Nat} (hm : m < 16) (c : Int32) : ab_M X kX2_wakesIn [.ref r, .int (nI m), .int c] w (some (.int (wakR s n c m))) w := by
  have R0 := R
  obtain ⟨r0, r1, r2, r3, r4, hl, h0, hn⟩ := R
  show ab_G X kX2_wakesIn 0 [some (.ref r), some (.int (nI m)), some (.int c), none] [] w _ _
  by_cases hmn : m / 2 < n
  · iterate 2 refine ab_s rfl ?_
    refine ab_k (y := 2) rfl rfl ?_
    refine ab_Ndiv (b := 2) rfl rfl rfl (by omega) (by omega) (by omega) ?_
    refine ab_cv rfl rfl rfl r0 rfl rfl (x_at R0 hmn) ?_
    refine ab_n (st2 := [_]) rfl ?_
    iterate 4 refine ab_s rfl ?_
    refine ab_k (y := 2) rfl rfl ?_
    refine ab_Nrem (b := 2) rfl rfl rfl (by omega) (by omega) (by omega) ?_
    refine jM_ne rfl rfl rfl rfl (by omega) (fun h15 => ?_) (fun h15 => ?_)
    · iterate 2 refine ab_s rfl ?_
      refine ab_cv rfl rfl rfl (r3 _ hmn) rfl rfl (x_wakes (r3 _ hmn) c) ?_
      refine ab_n (st2 := [_]) rfl ?_
      exact ab_ri rfl (by unfold wakR; rw [if_pos ⟨hmn, by omega⟩])
    · refine ab_k (y := 0) rfl rfl ?_
      refine ab_s rfl ?_
      exact ab_ri rfl (by unfold wakR; rw [if_neg (fun q => by omega)])
  · iterate 2 refine ab_s rfl ?_
    refine ab_k (y := 2) rfl rfl ?_
    refine ab_Ndiv (b := 2) rfl rfl rfl (by omega) (by omega) (by omega) ?_
    refine ab_cv rfl rfl rfl r0 rfl rfl (x_atO R0 (nI (m / 2)) (by rw [inN_nI (by omega)]; exact decide_eq_false hmn)) ?_
    refine ab_n (st2 := [_]) rfl ?_
    iterate 3 refine ab_s rfl ?_
    refine ab_k (y := 0) rfl rfl ?_
    refine ab_s rfl ?_
    exact ab_ri rfl (by unfold wakR; rw [if_neg (fun q => hmn q.1)])
set_option maxRecDepth 100000 in
set_option maxHeartbeats 4000000 in
theorem x_named (R : RowW w r s n) (I : SI s n) (x : Int32) : ab_M X kX2_named [.ref r, .int x] w (some (.int (bs (namB s n (bt x)) n))) w := by
  have R0 := R
  obtain ⟨r0, r1, r2, r3, r4, hl, h0, hn⟩ := R
  show ab_G X kX2_named 0 [some (.ref r), some (.int x), none, none, none] [] w _ _
  refine ab_k (y := 0) rfl rfl ?_
  refine ab_s rfl ?_
  refine ab_k (y := 0) rfl rfl ?_
  refine ab_s rfl ?_
  refine g_loop0 n (fun i ls => ∃ x0, ls = [some (.ref r), some (.int x), some (.int (bs (namB s i (bt x)) 8)), some (.int (nI i)), x0]) ⟨none, by rw [show bs (namB s 0 (bt x)) 8 = 0 from (bs_zero (by omega)).mpr (fun _ _ => rfl)]; rfl⟩ (fun i ls hi hJ ih => ?_) (fun ls hJ => ?_)
  · obtain ⟨x0, rfl⟩ := hJ
    iterate 2 refine ab_s rfl ?_
    refine ab_gf rfl rfl rfl r0 rfl ?_
    refine jN_ge rfl rfl rfl rfl (by omega) (by omega) (fun h9 => absurd h9 (by omega)) (fun h9 => ?_)
    iterate 2 refine ab_s rfl ?_
    refine ab_cv rfl rfl rfl r0 rfl rfl (x_at R0 hi) ?_
    refine ab_n (st2 := [_]) rfl ?_
    iterate 5 refine ab_s rfl ?_
    refine ab_c rfl (x_isIn x (by omega)) ?_
    refine ab_n (st2 := [_]) rfl ?_
    refine z1_eq rfl rfl (fun h29 => ?_) (fun h29 => ?_)
    · refine ab_ii rfl rfl rfl ?_
      refine ab_s rfl ?_
      exact ih _ ⟨_, by rw [← nam_same h29]; rfl⟩
    · iterate 2 refine ab_s rfl ?_
      refine ab_gf rfl rfl rfl (r3 _ (by omega)) rfl ?_
      refine ab_k (y := 1) rfl rfl ?_
      iterate 2 refine ab_s rfl ?_
      refine ab_k (y := (-1)) rfl rfl ?_
      iterate 4 refine ab_s rfl ?_
      refine ab_ii rfl rfl rfl ?_
      refine ab_s rfl ?_
      exact ih _ ⟨_, by rw [← nam_next (I.1 i hi).2.2.1 (by omega) h29]; rfl⟩
  · obtain ⟨x0, rfl⟩ := hJ
    iterate 2 refine ab_s rfl ?_
    refine ab_gf rfl rfl rfl r0 rfl ?_
    refine jN_ge rfl rfl rfl rfl (by omega) (by omega) (fun h9 => ?_) (fun h9 => absurd (by omega) h9)
    refine ab_s rfl ?_
    refine ab_k (y := 1) rfl rfl ?_
    refine ab_s rfl ?_
    refine ab_gf rfl rfl rfl r0 rfl ?_
    refine ab_s rfl ?_
    refine ab_k (y := 1) rfl rfl ?_
    iterate 2 refine ab_s rfl ?_
    exact ab_ri rfl (by show bs (namB s n (bt x)) 8 &&& (((1 : Int32) <<< (nI n &&& 31)) - 1) = _; rw [mask_n n hn, bs_mask hn])
set_option maxRecDepth 100000 in
set_option maxHeartbeats 4000000 in
theorem x_pairs (R : RowW w r s n) (I : SI s n) : ab_M X kX2_pairs [.ref r] w (some (.int (nI (pairN s n n)))) w := by
  have R0 := R
  obtain ⟨r0, r1, r2, r3, r4, hl, h0, hn⟩ := R
  show ab_G X kX2_pairs 0 [some (.ref r), none, none] [] w _ _
  refine ab_k (y := 0) rfl rfl ?_
  refine ab_s rfl ?_
  refine ab_k (y := 0) rfl rfl ?_
  refine ab_s rfl ?_
  refine g_loop0 n (fun i ls => ls = [some (.ref r), some (.int (nI (pairN s n i))), some (.int (nI i))]) rfl (fun i ls hi hJ ih => ?_) (fun ls hJ => ?_)
  · obtain rfl := hJ
    iterate 2 refine ab_s rfl ?_
    refine ab_gf rfl rfl rfl r0 rfl ?_
    refine jN_ge rfl rfl rfl rfl (by omega) (by omega) (fun h9 => absurd h9 (by omega)) (fun h9 => ?_)
    iterate 2 refine ab_s rfl ?_
    refine ab_k (y := 1) rfl rfl ?_
    iterate 2 refine ab_s rfl ?_
    refine ab_cv rfl rfl rfl r0 rfl rfl (x_named R0 I ((1 : Int32) <<< (nI i &&& 31))) ?_
    refine ab_t (y := bs (namB s n (fun h => decide (h = i))) n) (bs_cong (fun g _ => namB_cong (fun h hh => b_sh (by omega) (by omega)))) ?_
    refine ab_n (st2 := [_, _]) rfl ?_
    refine ab_c rfl (x_bitsB hn) ?_
    refine ab_n (st2 := [_, _]) rfl ?_
    refine ab_Nadd rfl rfl rfl ?_
    refine ab_s rfl ?_
    refine ab_ii rfl rfl rfl ?_
    refine ab_s rfl ?_
    exact ih _ rfl
  · obtain rfl := hJ
    iterate 2 refine ab_s rfl ?_
    refine ab_gf rfl rfl rfl r0 rfl ?_
    refine jN_ge rfl rfl rfl rfl (by omega) (by omega) (fun h9 => ?_) (fun h9 => absurd (by omega) h9)
    refine ab_s rfl ?_
    exact ab_ri rfl rfl
set_option maxRecDepth 100000 in
set_option maxHeartbeats 4000000 in
theorem x_sleepingIn (R : RowW w r s n) (x : Int32) : ab_M X kX2_sleepingIn [.ref r, .int x] w (some (.int (bs (fun f => decide (fld s f 7 = x)) n))) w := by
  have R0 := R
  obtain ⟨r0, r1, r2, r3, r4, hl, h0, hn⟩ := R
  show ab_G X kX2_sleepingIn 0 [some (.ref r), some (.int x), none, none] [] w _ _
  refine ab_k (y := 0) rfl rfl ?_
  refine ab_s rfl ?_
  refine ab_k (y := 0) rfl rfl ?_
  refine ab_s rfl ?_
  refine g_loop0 n (fun i ls => ls = [some (.ref r), some (.int x), some (.int (bs (fun f => decide (fld s f 7 = x)) i)), some (.int (nI i))]) rfl (fun i ls hi hJ ih => ?_) (fun ls hJ => ?_)
  · obtain rfl := hJ
    iterate 2 refine ab_s rfl ?_
    refine ab_gf rfl rfl rfl r0 rfl ?_
    refine jN_ge rfl rfl rfl rfl (by omega) (by omega) (fun h9 => absurd h9 (by omega)) (fun h9 => ?_)
    iterate 2 refine ab_s rfl ?_
    refine ab_cv rfl rfl rfl r0 rfl rfl (x_bedOf R0 hi) ?_
    refine ab_n (st2 := [_]) rfl ?_
    refine ab_s rfl ?_
    refine j2_ne rfl rfl (fun h18 => ?_) (fun h18 => ?_)
    · refine ab_ii rfl rfl rfl ?_
      refine ab_s rfl ?_
      exact ih _ (by rw [bs_succ_f (p := fun f => decide (fld s f 7 = x)) (n := i) (decide_eq_false h18)]; rfl)
    · refine ab_s rfl ?_
      refine ab_k (y := 1) rfl rfl ?_
      iterate 4 refine ab_s rfl ?_
      refine ab_ii rfl rfl rfl ?_
      refine ab_s rfl ?_
      exact ih _ (by rw [← bs_succ_t (p := fun f => decide (fld s f 7 = x)) (n := i) (decide_eq_true h18)]; rfl)
  · obtain rfl := hJ
    iterate 2 refine ab_s rfl ?_
    refine ab_gf rfl rfl rfl r0 rfl ?_
    refine jN_ge rfl rfl rfl rfl (by omega) (by omega) (fun h9 => ?_) (fun h9 => absurd (by omega) h9)
    refine ab_s rfl ?_
    exact ab_ri rfl rfl
set_option maxRecDepth 100000 in
set_option maxHeartbeats 4000000 in
theorem x_countStairs (R : RowW w r s n)  : ab_M X kX2_countStairs [.ref r] w (some (.int (nI (cntR (fun h => decide (0 ≤ fld s h 1)) n)))) w := by
  have R0 := R
  obtain ⟨r0, r1, r2, r3, r4, hl, h0, hn⟩ := R
  show ab_G X kX2_countStairs 0 [some (.ref r), none, none] [] w _ _
  refine ab_k (y := 0) rfl rfl ?_
  refine ab_s rfl ?_
  refine ab_k (y := 0) rfl rfl ?_
  refine ab_s rfl ?_
  refine g_loop0 n (fun i ls => ls = [some (.ref r), some (.int (nI (cntR (fun h => decide (0 ≤ fld s h 1)) i))), some (.int (nI i))]) rfl (fun i ls hi hJ ih => ?_) (fun ls hJ => ?_)
  · obtain rfl := hJ
    iterate 2 refine ab_s rfl ?_
    refine ab_gf rfl rfl rfl r0 rfl ?_
    refine jN_ge rfl rfl rfl rfl (by omega) (by omega) (fun h9 => absurd h9 (by omega)) (fun h9 => ?_)
    iterate 3 refine ab_s rfl ?_
    refine ab_cv rfl rfl rfl r0 rfl rfl (x_stairOf R0 hi) ?_
    refine ab_n (st2 := [_, _]) rfl ?_
    refine j1_lt rfl rfl (fun h18 => ?_) (fun h18 => ?_)
    · refine ab_k (y := 0) rfl rfl ?_
      iterate 2 refine ab_s rfl ?_
      refine ab_ii rfl rfl rfl ?_
      refine ab_s rfl ?_
      exact ih _ (by rw [← cnt_f (p := fun h => decide (0 ≤ fld s h 1)) (decide_eq_false (fun q => (Int32.not_lt.mpr q) h18))]; rfl)
    · refine ab_k (y := 1) rfl rfl ?_
      iterate 3 refine ab_s rfl ?_
      refine ab_ii rfl rfl rfl ?_
      refine ab_s rfl ?_
      exact ih _ (by rw [← cnt_t (p := fun h => decide (0 ≤ fld s h 1)) (decide_eq_true (Int32.not_lt.mp h18))]; rfl)
  · obtain rfl := hJ
    iterate 2 refine ab_s rfl ?_
    refine ab_gf rfl rfl rfl r0 rfl ?_
    refine jN_ge rfl rfl rfl rfl (by omega) (by omega) (fun h9 => ?_) (fun h9 => absurd (by omega) h9)
    refine ab_s rfl ?_
    exact ab_ri rfl rfl
set_option maxRecDepth 100000 in
set_option maxHeartbeats 4000000 in
theorem x_countSleepers (R : RowW w r s n)  : ab_M X kX2_countSleepers [.ref r] w (some (.int (sumI (fun h => fld s h 6) n))) w := by
  have R0 := R
  obtain ⟨r0, r1, r2, r3, r4, hl, h0, hn⟩ := R
  show ab_G X kX2_countSleepers 0 [some (.ref r), none, none, none] [] w _ _
  refine ab_k (y := 0) rfl rfl ?_
  refine ab_s rfl ?_
  refine ab_k (y := 0) rfl rfl ?_
  refine ab_s rfl ?_
  refine g_loop0 n (fun i ls => ∃ x0, ls = [some (.ref r), some (.int (sumI (fun h => fld s h 6) i)), some (.int (nI i)), x0]) ⟨none, rfl⟩ (fun i ls hi hJ ih => ?_) (fun ls hJ => ?_)
  · obtain ⟨x0, rfl⟩ := hJ
    iterate 2 refine ab_s rfl ?_
    refine ab_gf rfl rfl rfl r0 rfl ?_
    refine jN_ge rfl rfl rfl rfl (by omega) (by omega) (fun h9 => absurd h9 (by omega)) (fun h9 => ?_)
    iterate 2 refine ab_s rfl ?_
    refine ab_cv rfl rfl rfl r0 rfl rfl (x_at R0 hi) ?_
    refine ab_n (st2 := [_]) rfl ?_
    iterate 5 refine ab_s rfl ?_
    refine ab_gf rfl rfl rfl (r3 _ (by omega)) rfl ?_
    iterate 2 refine ab_s rfl ?_
    refine ab_ii rfl rfl rfl ?_
    refine ab_s rfl ?_
    exact ih _ ⟨_, rfl⟩
  · obtain ⟨x0, rfl⟩ := hJ
    iterate 2 refine ab_s rfl ?_
    refine ab_gf rfl rfl rfl r0 rfl ?_
    refine jN_ge rfl rfl rfl rfl (by omega) (by omega) (fun h9 => ?_) (fun h9 => absurd (by omega) h9)
    refine ab_s rfl ?_
    exact ab_ri rfl rfl
theorem sp_g (s : List Int32) (k : Nat) : (s.drop 80).getD k 0 = s.getD (80 + k) 0 := by
  rw [List.getD_eq_getElem?_getD, List.getD_eq_getElem?_getD, List.getElem?_drop]
set_option maxRecDepth 100000 in
set_option maxHeartbeats 4000000 in
theorem x_countHeld (R : RowW w r s n)  : ab_M X kX2_countHeld [.ref r] w (some (.int (nI (cntR (fun k => decide (0 ≤ s.getD (80 + k) 0)) 10)))) w := by
  have R0 := R
  obtain ⟨r0, r1, r2, r3, r4, hl, h0, hn⟩ := R
  show ab_G X kX2_countHeld 0 [some (.ref r), none, none] [] w _ _
  refine ab_k (y := 0) rfl rfl ?_
  refine ab_s rfl ?_
  refine ab_k (y := 0) rfl rfl ?_
  refine ab_s rfl ?_
  refine g_loop0 10 (fun i ls => ls = [some (.ref r), some (.int (nI (cntR (fun k => decide (0 ≤ s.getD (80 + k) 0)) i))), some (.int (nI i))]) rfl (fun i ls hi hJ ih => ?_) (fun ls hJ => ?_)
  · obtain rfl := hJ
    iterate 2 refine ab_s rfl ?_
    refine ab_gf rfl rfl rfl r0 rfl ?_
    refine ab_al (x := 10) rfl r2 (by rw [List.length_drop, hl]; rfl) ?_
    refine jN_ge (b := 10) rfl rfl rfl rfl (by omega) (by omega) (fun h10 => absurd h10 (by omega)) (fun h10 => ?_)
    iterate 2 refine ab_s rfl ?_
    refine ab_gf rfl rfl rfl r0 rfl ?_
    refine ab_s rfl ?_
    refine ab_ia i rfl r2 (by rw [List.length_drop]; omega) rfl (by rw [List.length_drop]; omega) ?_
    refine ab_t (sp_g s i) ?_
    refine j1_lt rfl rfl (fun h20 => ?_) (fun h20 => ?_)
    · refine ab_k (y := 0) rfl rfl ?_
      iterate 2 refine ab_s rfl ?_
      refine ab_ii rfl rfl rfl ?_
      refine ab_s rfl ?_
      exact ih _ (by rw [← cnt_f (p := (fun k => decide (0 ≤ s.getD (80 + k) 0))) (decide_eq_false (fun q => (Int32.not_lt.mpr q) h20))]; rfl)
    · refine ab_k (y := 1) rfl rfl ?_
      iterate 3 refine ab_s rfl ?_
      refine ab_ii rfl rfl rfl ?_
      refine ab_s rfl ?_
      exact ih _ (by rw [← cnt_t (p := (fun k => decide (0 ≤ s.getD (80 + k) 0))) (decide_eq_true (Int32.not_lt.mp h20))]; rfl)
  · obtain rfl := hJ
    iterate 2 refine ab_s rfl ?_
    refine ab_gf rfl rfl rfl r0 rfl ?_
    refine ab_al (x := 10) rfl r2 (by rw [List.length_drop, hl]; rfl) ?_
    refine jN_ge (b := 10) rfl rfl rfl rfl (by omega) (by omega) (fun h10 => ?_) (fun h10 => absurd (by omega) h10)
    refine ab_s rfl ?_
    exact ab_ri rfl rfl
end XF
end
section
/-! THE CLASS: a row, writes -/
theorem drop_lt {s : List Int32} {j : Nat} {x : Int32} (h : j < 80) : (s.set j x).drop 80 = s.drop 80 := by rw [List.drop_set, if_pos h]
theorem drop_ge {s : List Int32} {k : Nat} {x : Int32} : (s.set (80 + k) x).drop 80 = (s.drop 80).set k x := by
  rw [List.drop_set, if_neg (by omega), show 80 + k - 80 = k by omega]
theorem dB_ne {s : List Int32} {j : Nat} {x : Int32} {d : Nat} (h : j ≠ 66 + d) : dB (s.set j x) d = dB s d := by
  unfold dB
  rw [gD_ne h]
theorem fld_ne {s : List Int32} {j : Nat} {x : Int32} {h k : Nat} (e : j ≠ 2 + 8 * h + k) : fld (s.set j x) h k = fld s h k := by
  rw [fld_l, fld_l, gD_ne e]
theorem dB_set {s : List Int32} {d d' : Nat} {z : Bool} (hl : s.length = 90) (hd : d < 14) : dB (s.set (66 + d) (z01 z)) d' = if d' = d then z else dB s d' := by
  unfold dB
  rw [gD_set _ _ _ _ (by omega)]
  by_cases h : d' = d
  · rw [if_pos (by omega), if_pos h]
    cases z <;> rfl
  · rw [if_neg (by omega), if_neg h]
theorem mark_B {p : Nat → Bool} {m d : Nat} (hm : m ≤ 32) (hd : d < m) (z : Bool) : markI (bs p m) d z = bs (fun i => if i = d then z else p i) m := by
  apply b_ext
  intro i hi
  unfold markI
  rw [bt_bs _ _ _ hm hi]
  cases z with
  | true =>
    rw [if_pos rfl, b_or, bt_bs _ _ _ hm hi, b_sh (by omega) hi]
    by_cases h : i = d
    · simp [h, hd]
    · simp [h]
  | false =>
    rw [if_neg (by decide), b_and, b_xor, bt_bs _ _ _ hm hi, b_sh (by omega) hi, b_m1 i hi]
    by_cases h : i = d
    · simp [h]
    · simp [h]
section XG
variable {X : List Int32} {w w1 : ab_W} {r n : Nat} {s : List Int32}
theorem RowW.setf (R : RowW w r s n) {h j : Nat} {v : Int32} (hh : h < n) (hj : j < 8) (e : w1[r + 3 + h]? = some (.inl (0, (hL s h).set (j + 1) (.int v)))) (F : ∀ i, i ≠ r + 3 + h → w1[i]? = w[i]?) : RowW w1 r (s.set (2 + 8 * h + j) v) n := by
  obtain ⟨r0, r1, r2, r3, r4, hl, h0, hn⟩ := R
  refine ⟨?_, (F _ (by omega)).trans r1, ?_, fun h' hh' => ?_, fun h' hh' => ?_, by rw [List.length_set]; exact hl, by rw [gD_ne (by omega)]; exact h0, hn⟩
  · rw [F _ (by omega), r0, gD_ne (by omega), bs_cong (fun d hd => dB_ne (by omega))]
  · rw [F _ (by omega), r2, drop_lt (by omega)]
  · by_cases e1 : h' = h
    · subst e1
      rw [e, hL_set hl (by omega) hj]
    · rw [F _ (by omega), r3 h' hh', hL_ne hl (by omega) hj e1]
  · by_cases e1 : h' = h
    · subst e1
      exact ⟨_, e, by rw [List.length_set]; rfl⟩
    · obtain ⟨vs, e2, e3⟩ := r4 h' hh'
      exact ⟨vs, (F _ (by omega)).trans e2, e3⟩
theorem RowW.setz (R : RowW w r s n) {x : Int32} (e : w1[r]? = some (.inl (2, [.ref (r + 1), .int (nI n), .int (bs (dB s) 14), .int x, .ref (r + 2)]))) (F : ∀ i, i ≠ r → w1[i]? = w[i]?) : RowW w1 r (s.set 1 x) n := by
  obtain ⟨r0, r1, r2, r3, r4, hl, h0, hn⟩ := R
  refine ⟨?_, (F _ (by omega)).trans r1, ?_, fun h' hh' => ?_, fun h' hh' => ?_, by rw [List.length_set]; exact hl, by rw [gD_ne (by omega)]; exact h0, hn⟩
  · rw [e, gD_eq (by omega), bs_cong (fun d hd => dB_ne (by omega))]
  · rw [F _ (by omega), r2, drop_lt (by omega)]
  · rw [F _ (by omega), r3 h' hh', hL_eq (fun k hk => fld_ne (by omega))]
  · obtain ⟨vs, e2, e3⟩ := r4 h' hh'
    exact ⟨vs, (F _ (by omega)).trans e2, e3⟩
theorem RowW.setd (R : RowW w r s n) {d : Nat} {z : Bool} (hd : d < 14) (e : w1[r]? = some (.inl (2, [.ref (r + 1), .int (nI n), .int (markI (bs (dB s) 14) d z), .int (s.getD 1 0), .ref (r + 2)]))) (F : ∀ i, i ≠ r → w1[i]? = w[i]?) : RowW w1 r (s.set (66 + d) (z01 z)) n := by
  obtain ⟨r0, r1, r2, r3, r4, hl, h0, hn⟩ := R
  refine ⟨?_, (F _ (by omega)).trans r1, ?_, fun h' hh' => ?_, fun h' hh' => ?_, by rw [List.length_set]; exact hl, by rw [gD_ne (by omega)]; exact h0, hn⟩
  · rw [e, gD_ne (by omega), mark_B (by omega) hd, bs_cong (fun d' hd' => (dB_set hl hd).symm)]
  · rw [F _ (by omega), r2, drop_lt (by omega)]
  · rw [F _ (by omega), r3 h' hh', hL_eq (fun k hk => fld_ne (by omega))]
  · obtain ⟨vs, e2, e3⟩ := r4 h' hh'
    exact ⟨vs, (F _ (by omega)).trans e2, e3⟩
theorem RowW.sets (R : RowW w r s n) {k : Nat} {x : Int32} (hk : k < 10) (e : w1[r + 2]? = some (.inr ((s.drop 80).set k x))) (F : ∀ i, i ≠ r + 2 → w1[i]? = w[i]?) : RowW w1 r (s.set (80 + k) x) n := by
  obtain ⟨r0, r1, r2, r3, r4, hl, h0, hn⟩ := R
  refine ⟨?_, (F _ (by omega)).trans r1, ?_, fun h' hh' => ?_, fun h' hh' => ?_, by rw [List.length_set]; exact hl, by rw [gD_ne (by omega)]; exact h0, hn⟩
  · rw [F _ (by omega), r0, gD_ne (by omega), bs_cong (fun d hd => dB_ne (by omega))]
  · rw [e, drop_ge]
  · rw [F _ (by omega), r3 h' hh', hL_eq (fun k hk => fld_ne (by omega))]
  · obtain ⟨vs, e2, e3⟩ := r4 h' hh'
    exact ⟨vs, (F _ (by omega)).trans e2, e3⟩
theorem RowW.shape (R : RowW w r s n) : ∃ vs, w[r]? = some (.inl (2, vs)) := ⟨_, R.1⟩
set_option maxRecDepth 100000 in
set_option maxHeartbeats 4000000 in
theorem x_setDoor (R : RowW w r s n) {d : Nat} (hd : d < 14) (z : Bool) : ab_Q X kX2_setDoor [.ref r, .int (nI d), .int (z01 z)] w (fun v w1 => v = none ∧ RowW w1 r (s.set (66 + d) (z01 z)) n ∧ ∀ i, (i < r ∨ r + 11 ≤ i) → w1[i]? = w[i]?) := by
  have R0 := R
  obtain ⟨r0, r1, r2, r3, r4, hl, h0, hn⟩ := R
  show ab_H X kX2_setDoor 0 [some (.ref r), some (.int (nI d)), some (.int (z01 z))] [] w _
  iterate 2 refine h_s rfl ?_
  refine h_gf rfl rfl rfl r0 rfl ?_
  iterate 2 refine h_s rfl ?_
  refine h_c rfl (x_marked (bs (dB s) 14) d z) ?_
  refine h_n (st2 := [_, _]) rfl ?_
  refine h_pf rfl rfl r0 rfl (fun w1 e1 f1 => ?_)
  exact h_r rfl ⟨rfl, R0.setd hd e1 f1, fun i hi => f1 i (by omega)⟩
set_option maxRecDepth 100000 in
set_option maxHeartbeats 4000000 in
theorem x_atW {m : Nat} {d z : Int32} (r0 : w[r]? = some (.inl (2, [.ref (r + 1), .int (nI m), .int d, .int z, .ref (r + 2)]))) (r1 : w[r + 1]? = some (.inl (7, rowHs r))) (hm : m ≤ 8) {h : Nat} (hh : h < m) : ab_M X kX2_at [.ref r, .int (nI h)] w (some (.ref (r + 3 + h))) w := by
  show ab_G X kX2_at 0 [some (.ref r), some (.int (nI h))] [] w _ _
  refine ab_s rfl ?_
  refine jM_lt rfl rfl rfl rfl (by omega) (fun h1 => absurd h1 (by omega)) (fun h1 => ?_)
  iterate 2 refine ab_s rfl ?_
  refine ab_gf rfl rfl rfl r0 rfl ?_
  refine jN_ge rfl rfl rfl rfl (by omega) (by omega) (fun h9 => absurd h9 (by omega)) (fun h9 => ?_)
  iterate 2 refine ab_s rfl ?_
  refine ab_gf rfl rfl rfl r0 rfl ?_
  refine ab_alq (x := 8) rfl r1 rfl (by rw [rowHs_l]; rfl) ?_
  refine jN_lt (b := 8) rfl rfl rfl rfl (by omega) (by omega) (fun h18 => ?_) (fun h18 => absurd (by omega) h18)
  refine ab_s rfl ?_
  refine ab_gf rfl rfl rfl r0 rfl ?_
  refine ab_s rfl ?_
  refine ab_aq h rfl r1 rfl (by rw [rowHs_l]; decide) rfl (rowHs_g r (by omega)) ?_
  exact ab_r rfl
theorem newS_l (s : List Int32) (n : Nat) (k : Int32) : (newS s n k).length = s.length := by
  unfold newS
  repeat rw [List.length_set]
theorem newS_D {s : List Int32} {n : Nat} {k : Int32} {j : Nat} (h0 : j ≠ 0) (h : ∀ i, i < 8 → j ≠ 2 + 8 * n + i) : (newS s n k).getD j 0 = s.getD j 0 := by
  unfold newS
  rw [gD_ne (fun e => h0 e.symm), gD_ne (fun e => h 7 (by omega) e.symm), gD_ne (fun e => h 6 (by omega) e.symm), gD_ne (fun e => h 5 (by omega) e.symm), gD_ne (fun e => h 4 (by omega) e.symm), gD_ne (fun e => h 3 (by omega) e.symm), gD_ne (fun e => h 2 (by omega) e.symm), gD_ne (fun e => h 1 (by omega) e.symm), gD_ne (fun e => h 0 (by omega) e.symm)]
theorem newS_0 {s : List Int32} {n : Nat} {k : Int32} (hl : s.length = 90) : (newS s n k).getD 0 0 = nI (n + 1) := by
  unfold newS
  rw [gD_eq (by simp only [List.length_set]; omega)]
theorem newS_h {s : List Int32} {n : Nat} {k : Int32} (hl : s.length = 90) (hn : n < 8) : hL (newS s n k) n = [.int (nI n), .int k, .int (-1), .int 0, .int 6, .int 22, .int 0, .int 2, .int (nI n)] := by
  have g : ∀ (xs : List Int32) (j : Nat) (x : Int32), xs.length = 90 → j < 90 → (xs.set j x).getD j 0 = x := fun xs j x h1 h2 => gD_eq (by omega)
  unfold hL newS
  simp only [fld_l]
  repeat rw [gD_ne (show (0 : Nat) ≠ _ by omega)]
  simp only [gD_set, List.length_set, hl, show 2 + 8 * n + 7 < 90 by omega, show 2 + 8 * n + 6 < 90 by omega, show 2 + 8 * n + 5 < 90 by omega, show 2 + 8 * n + 4 < 90 by omega, show 2 + 8 * n + 3 < 90 by omega, show 2 + 8 * n + 2 < 90 by omega, show 2 + 8 * n + 1 < 90 by omega, show 2 + 8 * n + 0 < 90 by omega]
  simp
theorem drop_new {s : List Int32} {n : Nat} {k : Int32} (hn : n < 8) : (newS s n k).drop 80 = s.drop 80 := by
  unfold newS
  rw [drop_lt (by omega), drop_lt (by omega), drop_lt (by omega), drop_lt (by omega), drop_lt (by omega), drop_lt (by omega), drop_lt (by omega), drop_lt (by omega), drop_lt (by omega)]
set_option maxRecDepth 100000 in
set_option maxHeartbeats 4000000 in
theorem x_build (R : RowW w r s n) (hn8 : n < 8) (k : Int32) : ab_Q X kX2_build [.ref r, .int k] w (fun v w1 => v = some (.int (nI n)) ∧ RowW w1 r (newS s n k) (n + 1) ∧ ∀ i, (i < r ∨ r + 11 ≤ i) → w1[i]? = w[i]?) := by
  have R0 := R
  obtain ⟨r0, r1, r2, r3, r4, hl, h0, hn⟩ := R
  show ab_H X kX2_build 0 [some (.ref r), some (.int k), none, none] [] w _
  refine h_s rfl ?_
  refine h_gf rfl rfl rfl r0 rfl ?_
  iterate 3 refine h_s rfl ?_
  refine h_gf rfl rfl rfl r0 rfl ?_
  refine h_k (y := 1) rfl rfl ?_
  refine h_Nadd (b := 1) rfl rfl rfl ?_
  refine h_pf rfl rfl r0 rfl (fun w1 e1 f1 => ?_)
  have r0 := e1
  iterate 2 refine h_s rfl ?_
  refine h_cv rfl rfl rfl r0 rfl rfl (x_atW (m := n + 1) e1 ((f1 _ (by omega)).trans r1) (by omega) (by omega)) ?_
  refine h_n (st2 := [_]) rfl ?_
  iterate 6 refine h_s rfl ?_
  refine h_n rfl ?_
  obtain ⟨vs, hv1, hv2⟩ := r4 n hn8
  refine hq_v rfl rfl rfl ((f1 _ (by omega)).trans hv1) rfl rfl (x_renew ((f1 _ (by omega)).trans hv1) hv2 (nI n) k) (fun v2 w2 q2 => ?_)
  obtain ⟨rfl, e2, f2⟩ := q2
  refine h_n (st2 := []) rfl ?_
  refine h_s rfl ?_
  refine h_ri rfl rfl ⟨rfl, ⟨?_, ?_, ?_, fun h' hh' => ?_, fun h' hh' => ?_, (newS_l ..).trans hl, newS_0 hl, hn8⟩, fun i hi => (f2 i (by omega)).trans (f1 i (by omega))⟩
  · rw [f2 _ (by omega), e1, newS_D (by omega) (by omega), bs_cong (fun d hd => show dB (newS s n k) d = dB s d from by unfold dB; rw [newS_D (by omega) (by omega)])]
    rfl
  · exact (f2 _ (by omega)).trans ((f1 _ (by omega)).trans r1)
  · rw [f2 _ (by omega), f1 _ (by omega), r2, drop_new hn8]
  · by_cases e : h' = n
    · subst e
      rw [e2, newS_h hl hn8]
    · rw [f2 _ (by omega), f1 _ (by omega), r3 h' (by omega), hL_eq (s := s) (s' := newS s n k) (fun j hj => by rw [fld_l, fld_l, newS_D (by omega) (fun i hi => by omega)])]
  · by_cases e : h' = n
    · subst e
      exact ⟨_, e2, rfl⟩
    · obtain ⟨vs, e3, e4⟩ := r4 h' hh'
      exact ⟨vs, (f2 _ (by omega)).trans ((f1 _ (by omega)).trans e3), e4⟩
set_option maxRecDepth 100000 in
set_option maxHeartbeats 4000000 in
theorem x_drawBelow (R : RowW w r s n) {b : Nat} (hb : 0 < b) (hb8 : b ≤ 8) : ab_Q X kX2_drawBelow [.ref r, .int (nI b)] w (fun v w1 => ∃ j, j < b ∧ nI j = (((s.getD 1 0 * 1103515245 + 12345).toUInt32 >>> ((8 : Int32).toUInt32 &&& Int32.toUInt32 31)).toInt32) - (((s.getD 1 0 * 1103515245 + 12345).toUInt32 >>> ((8 : Int32).toUInt32 &&& Int32.toUInt32 31)).toInt32) / nI b * nI b ∧ v = some (.int (nI j)) ∧ RowW w1 r (s.set 1 (s.getD 1 0 * 1103515245 + 12345)) n ∧ ∀ i, (i < r ∨ r + 11 ≤ i) → w1[i]? = w[i]?) := by
  have R0 := R
  obtain ⟨r0, r1, r2, r3, r4, hl, h0, hn⟩ := R
  show ab_H X kX2_drawBelow 0 [some (.ref r), some (.int (nI b))] [] w _
  iterate 2 refine h_s rfl ?_
  refine h_gf rfl rfl rfl r0 rfl ?_
  refine h_k (y := 1103515245) rfl rfl ?_
  refine h_s rfl ?_
  refine h_k (y := 12345) rfl rfl ?_
  refine h_s rfl ?_
  refine h_pf rfl rfl r0 rfl (fun w1 e1 f1 => ?_)
  have r0 := e1
  refine h_s rfl ?_
  refine hM_le rfl rfl rfl rfl (by omega) (fun h16 => absurd h16 (by omega)) (fun h16 => ?_)
  refine h_s rfl ?_
  refine h_gf rfl rfl rfl r0 rfl ?_
  refine h_k (y := 8) rfl rfl ?_
  iterate 2 refine h_s rfl ?_
  obtain ⟨y, hy⟩ : ∃ y, s.getD 1 0 * 1103515245 + 12345 = y := ⟨_, rfl⟩
  rw [hy] at e1 ⊢
  have hu : (y.toUInt32 >>> ((8 : Int32).toUInt32 &&& Int32.toUInt32 31)).toInt32 = nI (y.toBitVec.toNat / 2 ^ 8) := by
    have h1 := pk_ushr y 8 8 rfl
    apply Int32.toBitVec_inj.mp
    apply BitVec.eq_of_toNat_eq
    rw [h1, pk_tn (by have := y.toBitVec.isLt; omega)]
  have hy2 : y.toBitVec.toNat / 2 ^ 8 < 2 ^ 31 := by have := y.toBitVec.isLt; omega
  refine h_Nrem (a := y.toBitVec.toNat / 2 ^ 8) (b := b) rfl hu rfl hy2 hb (by omega) ?_
  refine h_s rfl ?_
  refine h_ri rfl rfl ⟨_, Nat.mod_lt _ hb, ?_, rfl, R0.setz e1 f1, fun i hi => f1 i (by omega)⟩
  rw [hu, pk_rem hy2 hb (by omega)]
end XG
end
section
/-! THE CLASS: a row takes from another; beds that shift -/
section XH
variable {X : List Int32} {w : ab_W} {r q n n0 : Nat} {s s0 : List Int32}
set_option maxRecDepth 100000 in
set_option maxHeartbeats 4000000 in
theorem x_takeRow (R : RowW w q s n) (T : RowW w r s0 n0) (hd : r + 11 ≤ q ∨ q + 11 ≤ r) : ab_Q X kX2_takeFrom [.ref r, .ref q] w (fun v w1 => v = none ∧ RowW w1 r s n ∧ ∀ i, (i < r ∨ r + 11 ≤ i) → w1[i]? = w[i]?) := by
  have R0 := R
  obtain ⟨r0, r1, r2, r3, r4, hl, h0, hn⟩ := R
  obtain ⟨t0, t1, t2, t3, t4, tl, th0, tn⟩ := T
  show ab_H X kX2_takeFrom 0 [some (.ref r), some (.ref q), none, none, none] [] w _
  iterate 2 refine h_s rfl ?_
  refine h_gf rfl rfl rfl r0 rfl ?_
  refine h_pf rfl rfl t0 rfl (fun w1 e1 f1 => ?_)
  have t0 := e1
  have r0 := (f1 _ (by omega)).trans r0
  iterate 2 refine h_s rfl ?_
  refine h_gf rfl rfl rfl r0 rfl ?_
  refine h_pf rfl rfl t0 rfl (fun w2 e2 f2 => ?_)
  have t0 := e2
  have r0 := (f2 _ (by omega)).trans r0
  iterate 2 refine h_s rfl ?_
  refine h_gf rfl rfl rfl r0 rfl ?_
  refine h_pf rfl rfl t0 rfl (fun w3 e3 f3 => ?_)
  have t0 := e3
  have r0 := (f3 _ (by omega)).trans r0
  refine h_k (y := 0) rfl rfl ?_
  refine h_s rfl ?_
  refine h_loop0 n (fun i ls v => (∃ x0 x1, ls = [some (.ref r), some (.ref q), some (.int (nI i)), x0, x1]) ∧ (∀ j, (j < r ∨ r + 11 ≤ j) → v[j]? = w[j]?) ∧ v[r]? = some (.inl (2, [.ref (r + 1), .int (nI n), .int (bs (dB s) 14), .int (s.getD 1 0), .ref (r + 2)])) ∧ v[r + 1]? = some (.inl (7, rowHs r)) ∧ v[r + 2]? = some (.inr (s0.drop 80)) ∧ (∀ h, h < i → v[r + 3 + h]? = some (.inl (0, hL s h))) ∧ (∀ h, h < 8 → ∃ vs, v[r + 3 + h]? = some (.inl (0, vs)) ∧ vs.length = 9)) ⟨⟨none, none, rfl⟩, fun j hj => (f3 j (by omega)).trans ((f2 j (by omega)).trans (f1 j (by omega))), t0, (f3 _ (by omega)).trans ((f2 _ (by omega)).trans ((f1 _ (by omega)).trans t1)), (f3 _ (by omega)).trans ((f2 _ (by omega)).trans ((f1 _ (by omega)).trans t2)), fun h hh => absurd hh (by omega), fun h hh => ?_⟩ (fun i ls v hi hJ ih => ?_) (fun ls v hJ => ?_)
  · obtain ⟨vs, h1, h2⟩ := t4 h hh
    exact ⟨vs, (f3 _ (by omega)).trans ((f2 _ (by omega)).trans ((f1 _ (by omega)).trans h1)), h2⟩
  · obtain ⟨⟨x0, x1, rfl⟩, F, t0, t1, t2, t3, t4⟩ := hJ
    have R1 := R0.fr (w1 := v) (fun j h1 h2 => F j (by omega))
    obtain ⟨r0, r1, r2, r3, r4, -⟩ := id R1
    obtain ⟨vs, hv1, hv2⟩ := t4 i (by omega)
    iterate 2 refine h_s rfl ?_
    refine h_gf rfl rfl rfl t0 rfl ?_
    refine hN_ge rfl rfl rfl rfl (by omega) (by omega) (fun h31 => absurd h31 (by omega)) (fun h31 => ?_)
    iterate 2 refine h_s rfl ?_
    refine h_cv rfl rfl rfl t0 rfl rfl (x_atW (m := n) t0 t1 (by omega) hi) ?_
    refine h_n (st2 := [_]) rfl ?_
    iterate 3 refine h_s rfl ?_
    refine h_cv rfl rfl rfl r0 rfl rfl (x_at R1 hi) ?_
    refine h_n (st2 := [_]) rfl ?_
    iterate 7 refine h_s rfl ?_
    refine hq_v rfl rfl rfl hv1 rfl rfl (x_takeHouse hv1 hv2 (r3 i hi) (by omega)) (fun v2 w4 q4 => ?_)
    obtain ⟨rfl, e4, f4⟩ := q4
    refine h_n (st2 := []) rfl ?_
    refine h_ii rfl rfl rfl ?_
    refine h_s rfl ?_
    refine ih _ _ ⟨⟨_, _, rfl⟩, fun j hj => (f4 j (by omega)).trans (F j hj), (f4 _ (by omega)).trans t0, (f4 _ (by omega)).trans t1, (f4 _ (by omega)).trans t2, fun h hh => ?_, fun h hh => ?_⟩
    · by_cases e : h = i
      · subst e
        exact e4
      · exact (f4 _ (by omega)).trans (t3 h (by omega))
    · by_cases e : h = i
      · subst e
        exact ⟨_, e4, rfl⟩
      · obtain ⟨us, g1, g2⟩ := t4 h hh
        exact ⟨us, (f4 _ (by omega)).trans g1, g2⟩
  · obtain ⟨⟨x0, x1, rfl⟩, F, t0, t1, t2, t3, t4⟩ := hJ
    iterate 2 refine h_s rfl ?_
    refine h_gf rfl rfl rfl t0 rfl ?_
    refine hN_ge rfl rfl rfl rfl (by omega) (by omega) (fun h31 => ?_) (fun h31 => absurd (by omega) h31)
    refine h_k (y := 0) rfl rfl ?_
    refine h_s rfl ?_
    refine h_loop0 10 (fun i ls v => (∃ x0 x1, ls = [some (.ref r), some (.ref q), some (.int (nI i)), x0, x1]) ∧ (∀ j, (j < r ∨ r + 11 ≤ j) → v[j]? = w[j]?) ∧ v[r]? = some (.inl (2, [.ref (r + 1), .int (nI n), .int (bs (dB s) 14), .int (s.getD 1 0), .ref (r + 2)])) ∧ v[r + 1]? = some (.inl (7, rowHs r)) ∧ (∃ sp, v[r + 2]? = some (.inr sp) ∧ sp.length = 10 ∧ ∀ k, k < i → sp.getD k 0 = (s.drop 80).getD k 0) ∧ (∀ h, h < n → v[r + 3 + h]? = some (.inl (0, hL s h))) ∧ (∀ h, h < 8 → ∃ vs, v[r + 3 + h]? = some (.inl (0, vs)) ∧ vs.length = 9)) ⟨⟨_, _, rfl⟩, F, t0, t1, ⟨_, t2, by rw [List.length_drop, tl], fun k hk => absurd hk (by omega)⟩, t3, t4⟩ (fun i ls v hi hJ ih => ?_) (fun ls v hJ => ?_)
    · obtain ⟨⟨x0, x1, rfl⟩, F, t0, t1, ⟨sp, t2, hsp, g⟩, t3, t4⟩ := hJ
      have R1 := R0.fr (w1 := v) (fun j h1 h2 => F j (by omega))
      obtain ⟨r0, r1, r2, r3, r4, -⟩ := id R1
      have hdl : (s.drop 80).length = 10 := by rw [List.length_drop, hl]
      refine h_s rfl ?_
      refine h_k (y := 10) rfl rfl ?_
      refine hN_ge (b := 10) rfl rfl rfl rfl (by omega) (by omega) (fun h73 => absurd h73 (by omega)) (fun h73 => ?_)
      refine h_s rfl ?_
      refine h_gf rfl rfl rfl t0 rfl ?_
      iterate 2 refine h_s rfl ?_
      refine h_gf rfl rfl rfl r0 rfl ?_
      refine h_s rfl ?_
      refine h_c rfl (x_cell r2 (by omega) (by omega)) ?_
      refine h_n (st2 := [_, _, _]) rfl ?_
      refine hq_c rfl (x_put t2 (by omega) (j := i) (by omega) _) (fun v2 w4 q4 => ?_)
      obtain ⟨rfl, e4, f4⟩ := q4
      refine h_n (st2 := []) rfl ?_
      refine h_ii rfl rfl rfl ?_
      refine h_s rfl ?_
      refine ih _ _ ⟨⟨_, _, rfl⟩, fun j hj => (f4 j (by omega)).trans (F j hj), (f4 _ (by omega)).trans t0, (f4 _ (by omega)).trans t1, ⟨_, e4, by rw [List.length_set]; exact hsp, fun k hk => ?_⟩, fun h hh => (f4 _ (by omega)).trans (t3 h hh), fun h hh => ?_⟩
      · rw [gD_set _ _ _ _ (by omega)]
        by_cases e : k = i
        · rw [if_pos e, e]
        · rw [if_neg e]
          exact g k (by omega)
      · obtain ⟨us, g1, g2⟩ := t4 h hh
        exact ⟨us, (f4 _ (by omega)).trans g1, g2⟩
    · obtain ⟨⟨x0, x1, rfl⟩, F, t0, t1, ⟨sp, t2, hsp, g⟩, t3, t4⟩ := hJ
      refine h_s rfl ?_
      refine h_k (y := 10) rfl rfl ?_
      refine hN_ge (b := 10) rfl rfl rfl rfl (by omega) (by omega) (fun h73 => ?_) (fun h73 => absurd (by omega) h73)
      exact h_r rfl ⟨rfl, ⟨t0, t1, by rw [t2, l_ext hsp (by rw [List.length_drop, hl]) g], t3, t4, hl, h0, hn⟩, F⟩
set_option maxRecDepth 100000 in
set_option maxHeartbeats 4000000 in
theorem x_shiftBeds (R : RowW w r s n) (I : SI s n) : ab_Q X kX2_shiftBeds [.ref r] w (fun v w1 => v = none ∧ RowW w1 r (shiftS s n n) n ∧ ∀ i, (i < r ∨ r + 11 ≤ i) → w1[i]? = w[i]?) := by
  obtain ⟨-, -, -, -, -, hl0, -, hn8⟩ := id R
  show ab_H X kX2_shiftBeds 0 [some (.ref r), none, none] [] w _
  refine h_k (y := 0) rfl rfl ?_
  refine h_s rfl ?_
  refine h_loop0 n (fun i ls v => (∃ x0, ls = [some (.ref r), some (.int (nI i)), x0]) ∧ RowW v r (shiftS s n i) n ∧ ∀ j, (j < r ∨ r + 11 ≤ j) → v[j]? = w[j]?) ⟨⟨none, rfl⟩, R, fun _ _ => rfl⟩ (fun i ls v hi hJ ih => ?_) (fun ls v hJ => ?_)
  · obtain ⟨⟨x0, rfl⟩, R1, F⟩ := hJ
    have R0 := R1
    obtain ⟨r0, r1, r2, r3, r4, hl, h0, hn⟩ := R1
    obtain ⟨hb1, hb2⟩ := bedN_e I hn hi
    have g7 : fld (shiftS s n i) i 7 = nI (bedN s i) := (shift_D _ _ _ (fun h hh => by omega)).trans hb1
    iterate 2 refine h_s rfl ?_
    refine h_gf rfl rfl rfl r0 rfl ?_
    refine hN_ge rfl rfl rfl rfl (by omega) (by omega) (fun h7 => absurd h7 (by omega)) (fun h7 => ?_)
    iterate 2 refine h_s rfl ?_
    refine h_cv rfl rfl rfl r0 rfl rfl (x_at R0 hi) ?_
    refine h_n (st2 := [_]) rfl ?_
    iterate 5 refine h_s rfl ?_
    refine h_gf rfl rfl rfl (r3 _ (by omega)) rfl ?_
    refine h_k (y := 1) rfl rfl ?_
    refine h_Nadd (a := bedN s i) (b := 1) rfl g7 rfl ?_
    refine h_s rfl ?_
    refine h_gf rfl rfl rfl r0 rfl ?_
    refine hN_ge rfl rfl rfl rfl (by omega) (by omega) (fun h31 => ?_) (fun h31 => ?_)
    · refine h_k (y := 0) rfl rfl ?_
      refine h_pf rfl rfl (r3 i hi) rfl (fun w1 e1 f1 => ?_)
      refine h_ii rfl rfl rfl ?_
      refine h_s rfl ?_
      refine ih _ _ ⟨⟨_, rfl⟩, ?_, fun j hj => (f1 j (by omega)).trans (F j hj)⟩
      refine R0.setf (h := i) (j := 7) hi (by decide) ?_ f1
      rw [e1, show (bedN s i + 1) % n = 0 from by rw [show bedN s i + 1 = n by omega]; exact Nat.mod_self n]
      try rfl
    · refine h_s rfl ?_
      refine h_gf rfl rfl rfl (r3 _ (by omega)) rfl ?_
      refine h_k (y := 1) rfl rfl ?_
      refine h_Nadd (a := bedN s i) (b := 1) rfl g7 rfl ?_
      refine h_s rfl ?_
      refine h_pf rfl rfl (r3 i hi) rfl (fun w1 e1 f1 => ?_)
      refine h_ii rfl rfl rfl ?_
      refine h_s rfl ?_
      refine ih _ _ ⟨⟨_, rfl⟩, ?_, fun j hj => (f1 j (by omega)).trans (F j hj)⟩
      refine R0.setf (h := i) (j := 7) hi (by decide) ?_ f1
      rw [e1, show (bedN s i + 1) % n = bedN s i + 1 from Nat.mod_eq_of_lt (by omega)]
      try rfl
  · obtain ⟨⟨x0, rfl⟩, R1, F⟩ := hJ
    have R0 := R1
    obtain ⟨r0, r1, r2, r3, r4, hl, h0, hn⟩ := R1
    iterate 2 refine h_s rfl ?_
    refine h_gf rfl rfl rfl r0 rfl ?_
    refine hN_ge rfl rfl rfl rfl (by omega) (by omega) (fun h7 => ?_) (fun h7 => absurd (by omega) h7)
    exact h_r rfl ⟨rfl, R0, F⟩
end XH
end
