section
-- ===== PART A: goes FIRST, ahead of the names: the tables' words, and 'selects' of the private methods out of them =====
/-- a private method of a class that the tables say can be made, by its rows of tables_1 -/
def lw_okq (q : MethodName × Nat) : Prop := (q.1.cls ≠ "java/lang/invoke/MethodHandle" ∧ q.1.cls ≠ "java/lang/invoke/VarHandle") ∧ Cond.instantiable q.1.cls q.2 ∈ tables_1 ∧ Cond.privateMethod q.1 ∈ tables_1 ∧ Cond.instanceMethod q.1 ∈ tables_1
theorem lw_p0 : lw_okq (⟨"LazyState", "sortAt", "(II)I"⟩, 14) := ⟨⟨by decide +kernel, by decide +kernel⟩, List.mem_of_getElem? (i := 12) (by decide +kernel), List.mem_of_getElem? (i := 195) (by decide +kernel), List.mem_of_getElem? (i := 196) (by decide +kernel)⟩
theorem lw_p1 : lw_okq (⟨"LazyState", "isObject", "(I)Z"⟩, 14) := ⟨⟨by decide +kernel, by decide +kernel⟩, List.mem_of_getElem? (i := 12) (by decide +kernel), List.mem_of_getElem? (i := 199) (by decide +kernel), List.mem_of_getElem? (i := 200) (by decide +kernel)⟩
theorem lw_p2 : lw_okq (⟨"LazyState", "changeCell", "(IIJ)I"⟩, 14) := ⟨⟨by decide +kernel, by decide +kernel⟩, List.mem_of_getElem? (i := 12) (by decide +kernel), List.mem_of_getElem? (i := 207) (by decide +kernel), List.mem_of_getElem? (i := 208) (by decide +kernel)⟩
theorem lw_p3 : lw_okq (⟨"LazyState", "raiseHeight", "()V"⟩, 14) := ⟨⟨by decide +kernel, by decide +kernel⟩, List.mem_of_getElem? (i := 12) (by decide +kernel), List.mem_of_getElem? (i := 211) (by decide +kernel), List.mem_of_getElem? (i := 212) (by decide +kernel)⟩
theorem lw_p4 : lw_okq (⟨"LazyState", "newVersion", "(ILLazyState$Body;)LLazyState$Body;"⟩, 14) := ⟨⟨by decide +kernel, by decide +kernel⟩, List.mem_of_getElem? (i := 12) (by decide +kernel), List.mem_of_getElem? (i := 215) (by decide +kernel), List.mem_of_getElem? (i := 216) (by decide +kernel)⟩
theorem lw_p5 : lw_okq (⟨"LazyState$Act", "fits", "(IJ)Z"⟩, 6) := ⟨⟨by decide +kernel, by decide +kernel⟩, List.mem_of_getElem? (i := 252) (by decide +kernel), List.mem_of_getElem? (i := 287) (by decide +kernel), List.mem_of_getElem? (i := 288) (by decide +kernel)⟩
theorem lw_p6 : lw_okq (⟨"LazyState", "callRefusal", "(II)I"⟩, 14) := ⟨⟨by decide +kernel, by decide +kernel⟩, List.mem_of_getElem? (i := 12) (by decide +kernel), List.mem_of_getElem? (i := 309) (by decide +kernel), List.mem_of_getElem? (i := 310) (by decide +kernel)⟩
theorem lw_p7 : lw_okq (⟨"LazyState$Run", "fail", "(II)V"⟩, 11) := ⟨⟨by decide +kernel, by decide +kernel⟩, List.mem_of_getElem? (i := 24) (by decide +kernel), List.mem_of_getElem? (i := 336) (by decide +kernel), List.mem_of_getElem? (i := 337) (by decide +kernel)⟩
theorem lw_p8 : lw_okq (⟨"LazyState$Run", "perform", "(LLazyState$Act;)I"⟩, 11) := ⟨⟨by decide +kernel, by decide +kernel⟩, List.mem_of_getElem? (i := 24) (by decide +kernel), List.mem_of_getElem? (i := 340) (by decide +kernel), List.mem_of_getElem? (i := 341) (by decide +kernel)⟩
theorem lw_p9 : lw_okq (⟨"LazyState$Run", "setValue", "(IJ)I"⟩, 11) := ⟨⟨by decide +kernel, by decide +kernel⟩, List.mem_of_getElem? (i := 24) (by decide +kernel), List.mem_of_getElem? (i := 344) (by decide +kernel), List.mem_of_getElem? (i := 345) (by decide +kernel)⟩
theorem lw_p10 : lw_okq (⟨"LazyState$Run", "get", "(III)I"⟩, 11) := ⟨⟨by decide +kernel, by decide +kernel⟩, List.mem_of_getElem? (i := 24) (by decide +kernel), List.mem_of_getElem? (i := 348) (by decide +kernel), List.mem_of_getElem? (i := 349) (by decide +kernel)⟩
theorem lw_p11 : lw_okq (⟨"LazyState$Run", "ask", "(III)I"⟩, 11) := ⟨⟨by decide +kernel, by decide +kernel⟩, List.mem_of_getElem? (i := 24) (by decide +kernel), List.mem_of_getElem? (i := 352) (by decide +kernel), List.mem_of_getElem? (i := 353) (by decide +kernel)⟩
theorem lw_p12 : lw_okq (⟨"LazyState$Run", "load", "(I)V"⟩, 11) := ⟨⟨by decide +kernel, by decide +kernel⟩, List.mem_of_getElem? (i := 24) (by decide +kernel), List.mem_of_getElem? (i := 356) (by decide +kernel), List.mem_of_getElem? (i := 357) (by decide +kernel)⟩
theorem lw_p13 : lw_okq (⟨"LazyState$Run", "read", "(II)LLazyState$Body;"⟩, 11) := ⟨⟨by decide +kernel, by decide +kernel⟩, List.mem_of_getElem? (i := 24) (by decide +kernel), List.mem_of_getElem? (i := 366) (by decide +kernel), List.mem_of_getElem? (i := 367) (by decide +kernel)⟩
theorem lw_p14 : lw_okq (⟨"LazyState$Run", "put", "(IIIJ)I"⟩, 11) := ⟨⟨by decide +kernel, by decide +kernel⟩, List.mem_of_getElem? (i := 24) (by decide +kernel), List.mem_of_getElem? (i := 374) (by decide +kernel), List.mem_of_getElem? (i := 375) (by decide +kernel)⟩
theorem lw_p15 : lw_okq (⟨"LazyState$Run", "change", "(II)LLazyState$Body;"⟩, 11) := ⟨⟨by decide +kernel, by decide +kernel⟩, List.mem_of_getElem? (i := 24) (by decide +kernel), List.mem_of_getElem? (i := 378) (by decide +kernel), List.mem_of_getElem? (i := 379) (by decide +kernel)⟩
def lw_privs_1 : List (MethodName × Nat) := [(⟨"LazyState", "sortAt", "(II)I"⟩, 14), (⟨"LazyState", "isObject", "(I)Z"⟩, 14), (⟨"LazyState", "changeCell", "(IIJ)I"⟩, 14), (⟨"LazyState", "raiseHeight", "()V"⟩, 14), (⟨"LazyState", "newVersion", "(ILLazyState$Body;)LLazyState$Body;"⟩, 14), (⟨"LazyState$Act", "fits", "(IJ)Z"⟩, 6), (⟨"LazyState", "callRefusal", "(II)I"⟩, 14), (⟨"LazyState$Run", "fail", "(II)V"⟩, 11), (⟨"LazyState$Run", "perform", "(LLazyState$Act;)I"⟩, 11), (⟨"LazyState$Run", "setValue", "(IJ)I"⟩, 11), (⟨"LazyState$Run", "get", "(III)I"⟩, 11), (⟨"LazyState$Run", "ask", "(III)I"⟩, 11), (⟨"LazyState$Run", "load", "(I)V"⟩, 11), (⟨"LazyState$Run", "read", "(II)LLazyState$Body;"⟩, 11), (⟨"LazyState$Run", "put", "(IIIJ)I"⟩, 11), (⟨"LazyState$Run", "change", "(II)LLazyState$Body;"⟩, 11)]
theorem lw_r1 : ∀ q ∈ lw_privs_1, lw_okq q := List.forall_mem_cons.mpr ⟨lw_p0, List.forall_mem_cons.mpr ⟨lw_p1, List.forall_mem_cons.mpr ⟨lw_p2, List.forall_mem_cons.mpr ⟨lw_p3, List.forall_mem_cons.mpr ⟨lw_p4, List.forall_mem_cons.mpr ⟨lw_p5, List.forall_mem_cons.mpr ⟨lw_p6, List.forall_mem_cons.mpr ⟨lw_p7, List.forall_mem_cons.mpr ⟨lw_p8, List.forall_mem_cons.mpr ⟨lw_p9, List.forall_mem_cons.mpr ⟨lw_p10, List.forall_mem_cons.mpr ⟨lw_p11, List.forall_mem_cons.mpr ⟨lw_p12, List.forall_mem_cons.mpr ⟨lw_p13, List.forall_mem_cons.mpr ⟨lw_p14, List.forall_mem_cons.mpr ⟨lw_p15, fun _ h => absurd h List.not_mem_nil⟩⟩⟩⟩⟩⟩⟩⟩⟩⟩⟩⟩⟩⟩⟩⟩
theorem lw_p16 : lw_okq (⟨"LazyState$Run", "follow", "(III)I"⟩, 11) := ⟨⟨by decide +kernel, by decide +kernel⟩, List.mem_of_getElem? (i := 24) (by decide +kernel), List.mem_of_getElem? (i := 386) (by decide +kernel), List.mem_of_getElem? (i := 387) (by decide +kernel)⟩
theorem lw_p17 : lw_okq (⟨"LazyState$Run", "getItem", "(IIII)I"⟩, 11) := ⟨⟨by decide +kernel, by decide +kernel⟩, List.mem_of_getElem? (i := 24) (by decide +kernel), List.mem_of_getElem? (i := 390) (by decide +kernel), List.mem_of_getElem? (i := 391) (by decide +kernel)⟩
theorem lw_p18 : lw_okq (⟨"LazyState$Run", "lay", "(IIII)I"⟩, 11) := ⟨⟨by decide +kernel, by decide +kernel⟩, List.mem_of_getElem? (i := 24) (by decide +kernel), List.mem_of_getElem? (i := 403) (by decide +kernel), List.mem_of_getElem? (i := 404) (by decide +kernel)⟩
theorem lw_p19 : lw_okq (⟨"LazyState$Run", "renew", "(IIJ)I"⟩, 11) := ⟨⟨by decide +kernel, by decide +kernel⟩, List.mem_of_getElem? (i := 24) (by decide +kernel), List.mem_of_getElem? (i := 407) (by decide +kernel), List.mem_of_getElem? (i := 408) (by decide +kernel)⟩
theorem lw_p20 : lw_okq (⟨"LazyState$Run", "shift", "(LLazyState$Act;)I"⟩, 11) := ⟨⟨by decide +kernel, by decide +kernel⟩, List.mem_of_getElem? (i := 24) (by decide +kernel), List.mem_of_getElem? (i := 413) (by decide +kernel), List.mem_of_getElem? (i := 414) (by decide +kernel)⟩
theorem lw_p21 : lw_okq (⟨"LazyState$Run", "areAlike", "(II)Z"⟩, 11) := ⟨⟨by decide +kernel, by decide +kernel⟩, List.mem_of_getElem? (i := 24) (by decide +kernel), List.mem_of_getElem? (i := 418) (by decide +kernel), List.mem_of_getElem? (i := 419) (by decide +kernel)⟩
theorem lw_p22 : lw_okq (⟨"LazyState$Body", "hasSameItems", "(LLazyState$Body;I)Z"⟩, 5) := ⟨⟨by decide +kernel, by decide +kernel⟩, List.mem_of_getElem? (i := 158) (by decide +kernel), List.mem_of_getElem? (i := 427) (by decide +kernel), List.mem_of_getElem? (i := 428) (by decide +kernel)⟩
theorem lw_p23 : lw_okq (⟨"LazyState$Run", "goOnAt", "(I)I"⟩, 11) := ⟨⟨by decide +kernel, by decide +kernel⟩, List.mem_of_getElem? (i := 24) (by decide +kernel), List.mem_of_getElem? (i := 431) (by decide +kernel), List.mem_of_getElem? (i := 432) (by decide +kernel)⟩
theorem lw_p24 : lw_okq (⟨"LazyState$Run", "end", "(J)I"⟩, 11) := ⟨⟨by decide +kernel, by decide +kernel⟩, List.mem_of_getElem? (i := 24) (by decide +kernel), List.mem_of_getElem? (i := 435) (by decide +kernel), List.mem_of_getElem? (i := 436) (by decide +kernel)⟩
theorem lw_p25 : lw_okq (⟨"LazyState", "keepChanges", "()V"⟩, 14) := ⟨⟨by decide +kernel, by decide +kernel⟩, List.mem_of_getElem? (i := 12) (by decide +kernel), List.mem_of_getElem? (i := 445) (by decide +kernel), List.mem_of_getElem? (i := 446) (by decide +kernel)⟩
theorem lw_p26 : lw_okq (⟨"LazyState", "noteWritten", "(I)V"⟩, 14) := ⟨⟨by decide +kernel, by decide +kernel⟩, List.mem_of_getElem? (i := 12) (by decide +kernel), List.mem_of_getElem? (i := 450) (by decide +kernel), List.mem_of_getElem? (i := 451) (by decide +kernel)⟩
theorem lw_p27 : lw_okq (⟨"LazyStateModel", "first", "(III)V"⟩, 30) := ⟨⟨by decide +kernel, by decide +kernel⟩, List.mem_of_getElem? (i := 531) (by decide +kernel), List.mem_of_getElem? (i := 638) (by decide +kernel), List.mem_of_getElem? (i := 639) (by decide +kernel)⟩
theorem lw_p28 : lw_okq (⟨"LazyStateModel", "has", "(III)Z"⟩, 30) := ⟨⟨by decide +kernel, by decide +kernel⟩, List.mem_of_getElem? (i := 531) (by decide +kernel), List.mem_of_getElem? (i := 653) (by decide +kernel), List.mem_of_getElem? (i := 654) (by decide +kernel)⟩
theorem lw_p29 : lw_okq (⟨"LazyStateModel", "isObject", "(I)Z"⟩, 30) := ⟨⟨by decide +kernel, by decide +kernel⟩, List.mem_of_getElem? (i := 531) (by decide +kernel), List.mem_of_getElem? (i := 657) (by decide +kernel), List.mem_of_getElem? (i := 658) (by decide +kernel)⟩
theorem lw_p30 : lw_okq (⟨"LazyStateModel", "copyAll", "(II)V"⟩, 30) := ⟨⟨by decide +kernel, by decide +kernel⟩, List.mem_of_getElem? (i := 531) (by decide +kernel), List.mem_of_getElem? (i := 661) (by decide +kernel), List.mem_of_getElem? (i := 662) (by decide +kernel)⟩
theorem lw_p31 : lw_okq (⟨"LazyStateModel", "copyLeaf", "(III)V"⟩, 30) := ⟨⟨by decide +kernel, by decide +kernel⟩, List.mem_of_getElem? (i := 531) (by decide +kernel), List.mem_of_getElem? (i := 665) (by decide +kernel), List.mem_of_getElem? (i := 666) (by decide +kernel)⟩
def lw_privs_2 : List (MethodName × Nat) := [(⟨"LazyState$Run", "follow", "(III)I"⟩, 11), (⟨"LazyState$Run", "getItem", "(IIII)I"⟩, 11), (⟨"LazyState$Run", "lay", "(IIII)I"⟩, 11), (⟨"LazyState$Run", "renew", "(IIJ)I"⟩, 11), (⟨"LazyState$Run", "shift", "(LLazyState$Act;)I"⟩, 11), (⟨"LazyState$Run", "areAlike", "(II)Z"⟩, 11), (⟨"LazyState$Body", "hasSameItems", "(LLazyState$Body;I)Z"⟩, 5), (⟨"LazyState$Run", "goOnAt", "(I)I"⟩, 11), (⟨"LazyState$Run", "end", "(J)I"⟩, 11), (⟨"LazyState", "keepChanges", "()V"⟩, 14), (⟨"LazyState", "noteWritten", "(I)V"⟩, 14), (⟨"LazyStateModel", "first", "(III)V"⟩, 30), (⟨"LazyStateModel", "has", "(III)Z"⟩, 30), (⟨"LazyStateModel", "isObject", "(I)Z"⟩, 30), (⟨"LazyStateModel", "copyAll", "(II)V"⟩, 30), (⟨"LazyStateModel", "copyLeaf", "(III)V"⟩, 30)]
theorem lw_r2 : ∀ q ∈ lw_privs_2, lw_okq q := List.forall_mem_cons.mpr ⟨lw_p16, List.forall_mem_cons.mpr ⟨lw_p17, List.forall_mem_cons.mpr ⟨lw_p18, List.forall_mem_cons.mpr ⟨lw_p19, List.forall_mem_cons.mpr ⟨lw_p20, List.forall_mem_cons.mpr ⟨lw_p21, List.forall_mem_cons.mpr ⟨lw_p22, List.forall_mem_cons.mpr ⟨lw_p23, List.forall_mem_cons.mpr ⟨lw_p24, List.forall_mem_cons.mpr ⟨lw_p25, List.forall_mem_cons.mpr ⟨lw_p26, List.forall_mem_cons.mpr ⟨lw_p27, List.forall_mem_cons.mpr ⟨lw_p28, List.forall_mem_cons.mpr ⟨lw_p29, List.forall_mem_cons.mpr ⟨lw_p30, List.forall_mem_cons.mpr ⟨lw_p31, fun _ h => absurd h List.not_mem_nil⟩⟩⟩⟩⟩⟩⟩⟩⟩⟩⟩⟩⟩⟩⟩⟩
theorem lw_p32 : lw_okq (⟨"LazyStateModel", "changed", "(I)I"⟩, 30) := ⟨⟨by decide +kernel, by decide +kernel⟩, List.mem_of_getElem? (i := 531) (by decide +kernel), List.mem_of_getElem? (i := 669) (by decide +kernel), List.mem_of_getElem? (i := 670) (by decide +kernel)⟩
theorem lw_p33 : lw_okq (⟨"LazyStateModel", "areAlike", "(II)Z"⟩, 30) := ⟨⟨by decide +kernel, by decide +kernel⟩, List.mem_of_getElem? (i := 531) (by decide +kernel), List.mem_of_getElem? (i := 673) (by decide +kernel), List.mem_of_getElem? (i := 674) (by decide +kernel)⟩
theorem lw_p34 : lw_okq (⟨"LazyStateModel", "rises", "()V"⟩, 30) := ⟨⟨by decide +kernel, by decide +kernel⟩, List.mem_of_getElem? (i := 531) (by decide +kernel), List.mem_of_getElem? (i := 677) (by decide +kernel), List.mem_of_getElem? (i := 678) (by decide +kernel)⟩
theorem lw_p35 : lw_okq (⟨"LazyStateModel", "newRow", "(II)V"⟩, 30) := ⟨⟨by decide +kernel, by decide +kernel⟩, List.mem_of_getElem? (i := 531) (by decide +kernel), List.mem_of_getElem? (i := 690) (by decide +kernel), List.mem_of_getElem? (i := 691) (by decide +kernel)⟩
theorem lw_p36 : lw_okq (⟨"LazyStateModel", "begin", "(IJ)V"⟩, 30) := ⟨⟨by decide +kernel, by decide +kernel⟩, List.mem_of_getElem? (i := 531) (by decide +kernel), List.mem_of_getElem? (i := 719) (by decide +kernel), List.mem_of_getElem? (i := 720) (by decide +kernel)⟩
theorem lw_p37 : lw_okq (⟨"LazyStateModel", "does", "(II)I"⟩, 30) := ⟨⟨by decide +kernel, by decide +kernel⟩, List.mem_of_getElem? (i := 531) (by decide +kernel), List.mem_of_getElem? (i := 723) (by decide +kernel), List.mem_of_getElem? (i := 724) (by decide +kernel)⟩
theorem lw_p38 : lw_okq (⟨"LazyStateModel", "rowActs", "(I)V"⟩, 30) := ⟨⟨by decide +kernel, by decide +kernel⟩, List.mem_of_getElem? (i := 531) (by decide +kernel), List.mem_of_getElem? (i := 727) (by decide +kernel), List.mem_of_getElem? (i := 728) (by decide +kernel)⟩
theorem lw_p39 : lw_okq (⟨"LazyStateModel", "readLeaf", "(IJI)I"⟩, 30) := ⟨⟨by decide +kernel, by decide +kernel⟩, List.mem_of_getElem? (i := 531) (by decide +kernel), List.mem_of_getElem? (i := 731) (by decide +kernel), List.mem_of_getElem? (i := 732) (by decide +kernel)⟩
theorem lw_p40 : lw_okq (⟨"LazyStateModel", "leafOf", "(IJI)I"⟩, 30) := ⟨⟨by decide +kernel, by decide +kernel⟩, List.mem_of_getElem? (i := 531) (by decide +kernel), List.mem_of_getElem? (i := 735) (by decide +kernel), List.mem_of_getElem? (i := 736) (by decide +kernel)⟩
theorem lw_p41 : lw_okq (⟨"LazyStateModel", "load", "(I)V"⟩, 30) := ⟨⟨by decide +kernel, by decide +kernel⟩, List.mem_of_getElem? (i := 531) (by decide +kernel), List.mem_of_getElem? (i := 739) (by decide +kernel), List.mem_of_getElem? (i := 740) (by decide +kernel)⟩
theorem lw_p42 : lw_okq (⟨"LazyStateModel", "touch", "(II)V"⟩, 30) := ⟨⟨by decide +kernel, by decide +kernel⟩, List.mem_of_getElem? (i := 531) (by decide +kernel), List.mem_of_getElem? (i := 743) (by decide +kernel), List.mem_of_getElem? (i := 744) (by decide +kernel)⟩
theorem lw_p43 : lw_okq (⟨"LazyStateModel", "itemOf", "(IJ)I"⟩, 30) := ⟨⟨by decide +kernel, by decide +kernel⟩, List.mem_of_getElem? (i := 531) (by decide +kernel), List.mem_of_getElem? (i := 747) (by decide +kernel), List.mem_of_getElem? (i := 748) (by decide +kernel)⟩
theorem lw_p44 : lw_okq (⟨"LazyStateModel", "shift", "(IJIIJ)V"⟩, 30) := ⟨⟨by decide +kernel, by decide +kernel⟩, List.mem_of_getElem? (i := 531) (by decide +kernel), List.mem_of_getElem? (i := 754) (by decide +kernel), List.mem_of_getElem? (i := 755) (by decide +kernel)⟩
theorem lw_p45 : lw_okq (⟨"LazyStateModel", "fieldActs", "(I)V"⟩, 30) := ⟨⟨by decide +kernel, by decide +kernel⟩, List.mem_of_getElem? (i := 531) (by decide +kernel), List.mem_of_getElem? (i := 758) (by decide +kernel), List.mem_of_getElem? (i := 759) (by decide +kernel)⟩
theorem lw_p46 : lw_okq (⟨"LazyStateModel", "like", "(II)Z"⟩, 30) := ⟨⟨by decide +kernel, by decide +kernel⟩, List.mem_of_getElem? (i := 531) (by decide +kernel), List.mem_of_getElem? (i := 762) (by decide +kernel), List.mem_of_getElem? (i := 763) (by decide +kernel)⟩
def lw_privs_3 : List (MethodName × Nat) := [(⟨"LazyStateModel", "changed", "(I)I"⟩, 30), (⟨"LazyStateModel", "areAlike", "(II)Z"⟩, 30), (⟨"LazyStateModel", "rises", "()V"⟩, 30), (⟨"LazyStateModel", "newRow", "(II)V"⟩, 30), (⟨"LazyStateModel", "begin", "(IJ)V"⟩, 30), (⟨"LazyStateModel", "does", "(II)I"⟩, 30), (⟨"LazyStateModel", "rowActs", "(I)V"⟩, 30), (⟨"LazyStateModel", "readLeaf", "(IJI)I"⟩, 30), (⟨"LazyStateModel", "leafOf", "(IJI)I"⟩, 30), (⟨"LazyStateModel", "load", "(I)V"⟩, 30), (⟨"LazyStateModel", "touch", "(II)V"⟩, 30), (⟨"LazyStateModel", "itemOf", "(IJ)I"⟩, 30), (⟨"LazyStateModel", "shift", "(IJIIJ)V"⟩, 30), (⟨"LazyStateModel", "fieldActs", "(I)V"⟩, 30), (⟨"LazyStateModel", "like", "(II)Z"⟩, 30)]
theorem lw_r3 : ∀ q ∈ lw_privs_3, lw_okq q := List.forall_mem_cons.mpr ⟨lw_p32, List.forall_mem_cons.mpr ⟨lw_p33, List.forall_mem_cons.mpr ⟨lw_p34, List.forall_mem_cons.mpr ⟨lw_p35, List.forall_mem_cons.mpr ⟨lw_p36, List.forall_mem_cons.mpr ⟨lw_p37, List.forall_mem_cons.mpr ⟨lw_p38, List.forall_mem_cons.mpr ⟨lw_p39, List.forall_mem_cons.mpr ⟨lw_p40, List.forall_mem_cons.mpr ⟨lw_p41, List.forall_mem_cons.mpr ⟨lw_p42, List.forall_mem_cons.mpr ⟨lw_p43, List.forall_mem_cons.mpr ⟨lw_p44, List.forall_mem_cons.mpr ⟨lw_p45, List.forall_mem_cons.mpr ⟨lw_p46, fun _ h => absurd h List.not_mem_nil⟩⟩⟩⟩⟩⟩⟩⟩⟩⟩⟩⟩⟩⟩⟩
def lw_privs : List (MethodName × Nat) := lw_privs_1 ++ (lw_privs_2 ++ (lw_privs_3))
def lw_tbl : List Cond := k2_sels lw_privs ++ tables_1
theorem lw_privs_ok : ∀ q ∈ lw_privs, lw_okq q := by
  show ∀ q ∈ lw_privs_1 ++ (lw_privs_2 ++ (lw_privs_3)), lw_okq q
  exact List.forall_mem_append.mpr ⟨lw_r1, List.forall_mem_append.mpr ⟨lw_r2, lw_r3⟩⟩
end
section
/-! ===== BEGIN words of one list among another's, by their places ===== -/
theorem goodIn_r {big : List Cond} (ws : List Cond) (ps : List Nat) (hp : ws = ps.filterMap (fun i => big[i]?)) (h : ws.all goodWord = true) : GoodIn big ws := by
  intro w hw
  have h1 := List.all_eq_true.mp h w hw
  rw [hp] at hw
  obtain ⟨i, -, hi⟩ := List.mem_filterMap.mp hw
  have hm : w ∈ big := by first | exact List.mem_of_getElem? hi | exact List.getElem?_mem hi
  exact ⟨hm, good_of_word h1⟩
theorem goodIn_app {big a b : List Cond} (ha : GoodIn big a) (hb : GoodIn big b) : GoodIn big (a ++ b) := fun w h => (List.mem_append.mp h).elim (ha w) (hb w)
theorem goodIn_ca {big a b : List Cond} {c : Cond} (ha : GoodIn big (c :: a)) (hb : GoodIn big b) : GoodIn big (c :: (a ++ b)) := fun w h => (List.mem_cons.mp h).elim (fun e => ha w (List.mem_cons.mpr (Or.inl e))) (fun h => (List.mem_append.mp h).elim (fun h => ha w (List.mem_cons.mpr (Or.inr h))) (hb w))
theorem goodIn_sub {big ws : List Cond} (hm : ∀ w ∈ ws, w ∈ big) (h : ws.all goodWord = true) : GoodIn big ws := fun w hw => ⟨hm w hw, good_of_word (List.all_eq_true.mp h w hw)⟩
/-! ===== END ===== -/

/-! ===== BEGIN printed: names, fields, word lists, decode rows ===== -/
def RX0 : String := "LazyState$Act"
def TX0 : u_T := fun k => match k with
  | 0 => ("LazyState$Act", "kind", "I", true)
  | 1 => ("LazyState$Act", "a", "I", true)
  | 2 => ("LazyState$Act", "b", "J", true)
  | 3 => ("LazyState$Act", "c", "I", true)
  | 4 => ("LazyState$Act", "d", "I", true)
  | _ => ("LazyState$Act", "e", "I", true)
def tyX0 : Nat → FieldType := fun k => match k with
  | 0 => .int
  | 1 => .int
  | 2 => .long
  | 3 => .int
  | 4 => .int
  | _ => .int
abbrev wsX00 : List Cond := u_ws RX0 TX0 6
theorem nmX0 : ∀ a, a < 6 → ∀ b, b < 6 → a ≠ b → (TX0 a).2.1 ≠ (TX0 b).2.1 := by decide +kernel
theorem tyX0_ok : ∀ k, k < 6 → parseFieldDescriptor (TX0 k).2.2.1 = some (tyX0 k) := by decide +kernel
abbrev cX0_init : ByteArray := prog_2_method_1_code
def yX0_init : MethodName := ⟨RX0, "<init>", "(IIJIII)V"⟩
abbrev cX0_isAsTold : ByteArray := prog_2_method_2_code
def yX0_isAsTold : MethodName := ⟨RX0, "isAsTold", "()Z"⟩
abbrev cX0_fits : ByteArray := prog_2_method_3_code
def yX0_fits : MethodName := ⟨RX0, "fits", "(IJ)Z"⟩
def RX1 : String := "LazyState$Behaviour"
def TX1 : u_T := fun k => match k with
  | 0 => ("LazyState$Behaviour", "acts", "[LLazyState$Act;", true)
  | _ => ("LazyState$Behaviour", "size", "I", false)
def tyX1 : Nat → FieldType := fun k => match k with
  | 0 => .array (.object "LazyState$Act")
  | _ => .int
abbrev wsX10 : List Cond := u_ws RX1 TX1 2
theorem nmX1 : ∀ a, a < 2 → ∀ b, b < 2 → a ≠ b → (TX1 a).2.1 ≠ (TX1 b).2.1 := by decide +kernel
theorem tyX1_ok : ∀ k, k < 2 → parseFieldDescriptor (TX1 k).2.2.1 = some (tyX1 k) := by decide +kernel
abbrev cX1_init : ByteArray := prog_3_method_1_code
def yX1_init : MethodName := ⟨RX1, "<init>", "()V"⟩
abbrev cX1_append : ByteArray := prog_3_method_2_code
def yX1_append : MethodName := ⟨RX1, "append", "(LLazyState$Act;)I"⟩
abbrev cX1_empty : ByteArray := prog_3_method_3_code
def yX1_empty : MethodName := ⟨RX1, "empty", "()I"⟩
abbrev cX1_actAt : ByteArray := prog_3_method_4_code
def yX1_actAt : MethodName := ⟨RX1, "actAt", "(I)LLazyState$Act;"⟩
def RX2 : String := "LazyState$Body"
def TX2 : u_T := fun k => match k with
  | 0 => ("LazyState$Body", "type", "I", true)
  | 1 => ("LazyState$Body", "cells", "[J", true)
  | 2 => ("LazyState$Body", "items", "[I", true)
  | 3 => ("LazyState$Body", "since", "I", false)
  | _ => ("LazyState$Body", "before", "LLazyState$Body;", false)
def tyX2 : Nat → FieldType := fun k => match k with
  | 0 => .int
  | 1 => .array .long
  | 2 => .array .int
  | 3 => .int
  | _ => .object "LazyState$Body"
abbrev wsX20 : List Cond := u_ws RX2 TX2 5
theorem nmX2 : ∀ a, a < 5 → ∀ b, b < 5 → a ≠ b → (TX2 a).2.1 ≠ (TX2 b).2.1 := by decide +kernel
theorem tyX2_ok : ∀ k, k < 5 → parseFieldDescriptor (TX2 k).2.2.1 = some (tyX2 k) := by decide +kernel
abbrev cX2_init : ByteArray := prog_4_method_1_code
def yX2_init : MethodName := ⟨RX2, "<init>", "(I)V"⟩
abbrev cX2_itemPlace : ByteArray := prog_4_method_2_code
def yX2_itemPlace : MethodName := ⟨RX2, "itemPlace", "(II)I"⟩
abbrev cX2_sortOf : ByteArray := prog_4_method_3_code
def yX2_sortOf : MethodName := ⟨RX2, "sortOf", "(I)I"⟩
abbrev cX2_hasItem : ByteArray := prog_4_method_4_code
def yX2_hasItem : MethodName := ⟨RX2, "hasItem", "(IJ)Z"⟩
abbrev cX2_hasBlankRow : ByteArray := prog_4_method_5_code
def yX2_hasBlankRow : MethodName := ⟨RX2, "hasBlankRow", "(II)Z"⟩
abbrev cX2_renewRow : ByteArray := prog_4_method_6_code
def yX2_renewRow : MethodName := ⟨RX2, "renewRow", "(II)V"⟩
abbrev cX2_hasSameField : ByteArray := prog_4_method_7_code
def yX2_hasSameField : MethodName := ⟨RX2, "hasSameField", "(LLazyState$Body;I)Z"⟩
abbrev cX2_hasSameItems : ByteArray := prog_4_method_8_code
def yX2_hasSameItems : MethodName := ⟨RX2, "hasSameItems", "(LLazyState$Body;I)Z"⟩
abbrev cX2_copyFrom : ByteArray := prog_4_method_9_code
def yX2_copyFrom : MethodName := ⟨RX2, "copyFrom", "(LLazyState$Body;)V"⟩
abbrev cX2_asOf : ByteArray := prog_4_method_10_code
def yX2_asOf : MethodName := ⟨RX2, "asOf", "(I)LLazyState$Body;"⟩
def RX3 : String := "LazyState$Run"
def TX3 : u_T := fun k => match k with
  | 0 => ("LazyState$Run", "trace", "LLazyState$Trace;", true)
  | 1 => ("LazyState$Run", "loadedBits", "I", false)
  | 2 => ("LazyState$Run", "done", "I", false)
  | 3 => ("LazyState$Run", "gift", "J", false)
  | 4 => ("LazyState$Run", "thrown", "I", false)
  | 5 => ("LazyState$Run", "thrownAt", "I", false)
  | 6 => ("LazyState$Run", "state", "[LLazyState$Body;", false)
  | 7 => ("LazyState$Run", "copies", "[LLazyState$Body;", true)
  | 8 => ("LazyState$Run", "handles", "[I", true)
  | 9 => ("LazyState$Run", "values", "[J", true)
  | _ => ("LazyState$Run", "next", "I", false)
def tyX3 : Nat → FieldType := fun k => match k with
  | 0 => .object "LazyState$Trace"
  | 1 => .int
  | 2 => .int
  | 3 => .long
  | 4 => .int
  | 5 => .int
  | 6 => .array (.object "LazyState$Body")
  | 7 => .array (.object "LazyState$Body")
  | 8 => .array .int
  | 9 => .array .long
  | _ => .int
abbrev wsX30 : List Cond := u_ws RX3 TX3 11
theorem nmX3 : ∀ a, a < 11 → ∀ b, b < 11 → a ≠ b → (TX3 a).2.1 ≠ (TX3 b).2.1 := by decide +kernel
theorem tyX3_ok : ∀ k, k < 11 → parseFieldDescriptor (TX3 k).2.2.1 = some (tyX3 k) := by decide +kernel
abbrev cX3_init : ByteArray := prog_5_method_1_code
def yX3_init : MethodName := ⟨RX3, "<init>", "()V"⟩
abbrev cX3_start : ByteArray := prog_5_method_2_code
def yX3_start : MethodName := ⟨RX3, "start", "([LLazyState$Body;IJ)V"⟩
abbrev cX3_loadAhead : ByteArray := prog_5_method_3_code
def yX3_loadAhead : MethodName := ⟨RX3, "loadAhead", "(I)V"⟩
abbrev cX3_work : ByteArray := prog_5_method_4_code
def yX3_work : MethodName := ⟨RX3, "work", "(LLazyState$Behaviour;)V"⟩
abbrev cX3_fail : ByteArray := prog_5_method_5_code
def yX3_fail : MethodName := ⟨RX3, "fail", "(II)V"⟩
abbrev cX3_endsLike : ByteArray := prog_5_method_6_code
def yX3_endsLike : MethodName := ⟨RX3, "endsLike", "(LLazyState$Run;)Z"⟩
abbrev cX3_changesLike : ByteArray := prog_5_method_7_code
def yX3_changesLike : MethodName := ⟨RX3, "changesLike", "(LLazyState$Run;I)Z"⟩
abbrev cX3_bodyOf : ByteArray := prog_5_method_8_code
def yX3_bodyOf : MethodName := ⟨RX3, "bodyOf", "(I)LLazyState$Body;"⟩
abbrev cX3_load : ByteArray := prog_5_method_9_code
def yX3_load : MethodName := ⟨RX3, "load", "(I)V"⟩
abbrev cX3_perform : ByteArray := prog_5_method_10_code
def yX3_perform : MethodName := ⟨RX3, "perform", "(LLazyState$Act;)I"⟩
abbrev cX3_setValue : ByteArray := prog_5_method_11_code
def yX3_setValue : MethodName := ⟨RX3, "setValue", "(IJ)I"⟩
abbrev cX3_goOnAt : ByteArray := prog_5_method_12_code
def yX3_goOnAt : MethodName := ⟨RX3, "goOnAt", "(I)I"⟩
abbrev cX3_end : ByteArray := prog_5_method_13_code
def yX3_end : MethodName := ⟨RX3, "end", "(J)I"⟩
abbrev cX3_ask : ByteArray := prog_5_method_14_code
def yX3_ask : MethodName := ⟨RX3, "ask", "(III)I"⟩
abbrev cX3_read : ByteArray := prog_5_method_15_code
def yX3_read : MethodName := ⟨RX3, "read", "(II)LLazyState$Body;"⟩
abbrev cX3_change : ByteArray := prog_5_method_16_code
def yX3_change : MethodName := ⟨RX3, "change", "(II)LLazyState$Body;"⟩
abbrev cX3_get : ByteArray := prog_5_method_17_code
def yX3_get : MethodName := ⟨RX3, "get", "(III)I"⟩
abbrev cX3_follow : ByteArray := prog_5_method_18_code
def yX3_follow : MethodName := ⟨RX3, "follow", "(III)I"⟩
abbrev cX3_put : ByteArray := prog_5_method_19_code
def yX3_put : MethodName := ⟨RX3, "put", "(IIIJ)I"⟩
abbrev cX3_getItem : ByteArray := prog_5_method_20_code
def yX3_getItem : MethodName := ⟨RX3, "getItem", "(IIII)I"⟩
abbrev cX3_lay : ByteArray := prog_5_method_21_code
def yX3_lay : MethodName := ⟨RX3, "lay", "(IIII)I"⟩
abbrev cX3_itemRefusal : ByteArray := prog_5_method_22_code
def yX3_itemRefusal : MethodName := ⟨RX3, "itemRefusal", "(LLazyState$Body;IJ)I"⟩
abbrev cX3_renew : ByteArray := prog_5_method_23_code
def yX3_renew : MethodName := ⟨RX3, "renew", "(IIJ)I"⟩
abbrev cX3_shift : ByteArray := prog_5_method_24_code
def yX3_shift : MethodName := ⟨RX3, "shift", "(LLazyState$Act;)I"⟩
abbrev cX3_areAlike : ByteArray := prog_5_method_25_code
def yX3_areAlike : MethodName := ⟨RX3, "areAlike", "(II)Z"⟩
def RX4 : String := "LazyState$Trace"
def TX4 : u_T := fun k => match k with
  | 0 => ("LazyState$Trace", "entries", "[I", true)
  | 1 => ("LazyState$Trace", "count", "I", false)
  | 2 => ("LazyState$Trace", "changedCount", "I", false)
  | 3 => ("LazyState$Trace", "readBits", "[I", true)
  | _ => ("LazyState$Trace", "changedBits", "[I", true)
def tyX4 : Nat → FieldType := fun k => match k with
  | 0 => .array .int
  | 1 => .int
  | 2 => .int
  | 3 => .array .int
  | _ => .array .int
abbrev wsX40 : List Cond := u_ws RX4 TX4 5
theorem nmX4 : ∀ a, a < 5 → ∀ b, b < 5 → a ≠ b → (TX4 a).2.1 ≠ (TX4 b).2.1 := by decide +kernel
theorem tyX4_ok : ∀ k, k < 5 → parseFieldDescriptor (TX4 k).2.2.1 = some (tyX4 k) := by decide +kernel
abbrev cX4_init : ByteArray := prog_6_method_1_code
def yX4_init : MethodName := ⟨RX4, "<init>", "()V"⟩
abbrev cX4_restart : ByteArray := prog_6_method_2_code
def yX4_restart : MethodName := ⟨RX4, "restart", "()V"⟩
abbrev cX4_noteRead : ByteArray := prog_6_method_3_code
def yX4_noteRead : MethodName := ⟨RX4, "noteRead", "(II)V"⟩
abbrev cX4_noteChanged : ByteArray := prog_6_method_4_code
def yX4_noteChanged : MethodName := ⟨RX4, "noteChanged", "(II)V"⟩
abbrev cX4_isSameAs : ByteArray := prog_6_method_5_code
def yX4_isSameAs : MethodName := ⟨RX4, "isSameAs", "(LLazyState$Trace;)Z"⟩
def RX5 : String := "LazyState"
def TX5 : u_T := fun k => match k with
  | 0 => ("LazyState", "objects", "[LLazyState$Body;", true)
  | 1 => ("LazyState", "objectCount", "I", false)
  | 2 => ("LazyState", "heightNow", "I", false)
  | 3 => ("LazyState", "behaviours", "[LLazyState$Behaviour;", true)
  | 4 => ("LazyState", "latest", "LLazyState$Run;", true)
  | 5 => ("LazyState", "lazy", "LLazyState$Run;", true)
  | 6 => ("LazyState", "eager", "LLazyState$Run;", true)
  | 7 => ("LazyState", "callCount", "I", false)
  | 8 => ("LazyState", "fetchCount", "I", false)
  | 9 => ("LazyState", "cachedBits", "I", false)
  | 10 => ("LazyState", "writtenLeaves", "[I", true)
  | 11 => ("LazyState", "writtenCount", "I", false)
  | 12 => ("LazyState", "writeCounts", "[I", true)
  | _ => ("LazyState", "viewStatus", "I", false)
def tyX5 : Nat → FieldType := fun k => match k with
  | 0 => .array (.object "LazyState$Body")
  | 1 => .int
  | 2 => .int
  | 3 => .array (.object "LazyState$Behaviour")
  | 4 => .object "LazyState$Run"
  | 5 => .object "LazyState$Run"
  | 6 => .object "LazyState$Run"
  | 7 => .int
  | 8 => .int
  | 9 => .int
  | 10 => .array .int
  | 11 => .int
  | 12 => .array .int
  | _ => .int
abbrev wsX50 : List Cond := u_ws RX5 TX5 14
theorem nmX5 : ∀ a, a < 14 → ∀ b, b < 14 → a ≠ b → (TX5 a).2.1 ≠ (TX5 b).2.1 := by decide +kernel
theorem tyX5_ok : ∀ k, k < 14 → parseFieldDescriptor (TX5 k).2.2.1 = some (tyX5 k) := by decide +kernel
abbrev cX5_init : ByteArray := prog_1_method_1_code
def yX5_init : MethodName := ⟨RX5, "<init>", "()V"⟩
abbrev cX5_object : ByteArray := prog_1_method_2_code
def yX5_object : MethodName := ⟨RX5, "object", "(I)I"⟩
abbrev cX5_number : ByteArray := prog_1_method_3_code
def yX5_number : MethodName := ⟨RX5, "number", "(IIJ)I"⟩
abbrev cX5_link : ByteArray := prog_1_method_4_code
def yX5_link : MethodName := ⟨RX5, "link", "(III)I"⟩
abbrev cX5_row : ByteArray := prog_1_method_5_code
def yX5_row : MethodName := ⟨RX5, "row", "(III)I"⟩
abbrev cX5_act : ByteArray := prog_1_method_6_code
def yX5_act : MethodName := ⟨RX5, "act", "(IIIJIII)I"⟩
abbrev cX5_clear : ByteArray := prog_1_method_7_code
def yX5_clear : MethodName := ⟨RX5, "clear", "(I)I"⟩
abbrev cX5_call : ByteArray := prog_1_method_8_code
def yX5_call : MethodName := ⟨RX5, "call", "(IIJ)I"⟩
abbrev cX5_gave : ByteArray := prog_1_method_9_code
def yX5_gave : MethodName := ⟨RX5, "gave", "()J"⟩
abbrev cX5_where : ByteArray := prog_1_method_10_code
def yX5_where : MethodName := ⟨RX5, "where", "()I"⟩
abbrev cX5_touched : ByteArray := prog_1_method_11_code
def yX5_touched : MethodName := ⟨RX5, "touched", "(II)I"⟩
abbrev cX5_written : ByteArray := prog_1_method_12_code
def yX5_written : MethodName := ⟨RX5, "written", "(I)I"⟩
abbrev cX5_loaded : ByteArray := prog_1_method_13_code
def yX5_loaded : MethodName := ⟨RX5, "loaded", "(I)I"⟩
abbrev cX5_cached : ByteArray := prog_1_method_14_code
def yX5_cached : MethodName := ⟨RX5, "cached", "(I)I"⟩
abbrev cX5_hint : ByteArray := prog_1_method_15_code
def yX5_hint : MethodName := ⟨RX5, "hint", "(I)I"⟩
abbrev cX5_times : ByteArray := prog_1_method_16_code
def yX5_times : MethodName := ⟨RX5, "times", "(I)I"⟩
abbrev cX5_all : ByteArray := prog_1_method_17_code
def yX5_all : MethodName := ⟨RX5, "all", "(IIJ)I"⟩
abbrev cX5_view : ByteArray := prog_1_method_18_code
def yX5_view : MethodName := ⟨RX5, "view", "(IIII)J"⟩
abbrev cX5_status : ByteArray := prog_1_method_19_code
def yX5_status : MethodName := ⟨RX5, "status", "()I"⟩
abbrev cX5_told : ByteArray := prog_1_method_20_code
def yX5_told : MethodName := ⟨RX5, "told", "(I)I"⟩
abbrev cX5_isObject : ByteArray := prog_1_method_21_code
def yX5_isObject : MethodName := ⟨RX5, "isObject", "(I)Z"⟩
abbrev cX5_isBehaviour : ByteArray := prog_1_method_22_code
def yX5_isBehaviour : MethodName := ⟨RX5, "isBehaviour", "(I)Z"⟩
abbrev cX5_bitOf : ByteArray := prog_1_method_23_code
def yX5_bitOf : MethodName := ⟨RX5, "bitOf", "(II)I"⟩
abbrev cX5_sortAt : ByteArray := prog_1_method_24_code
def yX5_sortAt : MethodName := ⟨RX5, "sortAt", "(II)I"⟩
abbrev cX5_callRefusal : ByteArray := prog_1_method_25_code
def yX5_callRefusal : MethodName := ⟨RX5, "callRefusal", "(II)I"⟩
abbrev cX5_changeCell : ByteArray := prog_1_method_26_code
def yX5_changeCell : MethodName := ⟨RX5, "changeCell", "(IIJ)I"⟩
abbrev cX5_raiseHeight : ByteArray := prog_1_method_27_code
def yX5_raiseHeight : MethodName := ⟨RX5, "raiseHeight", "()V"⟩
abbrev cX5_newVersion : ByteArray := prog_1_method_28_code
def yX5_newVersion : MethodName := ⟨RX5, "newVersion", "(ILLazyState$Body;)LLazyState$Body;"⟩
abbrev cX5_keepChanges : ByteArray := prog_1_method_29_code
def yX5_keepChanges : MethodName := ⟨RX5, "keepChanges", "()V"⟩
abbrev cX5_noteWritten : ByteArray := prog_1_method_30_code
def yX5_noteWritten : MethodName := ⟨RX5, "noteWritten", "(I)V"⟩
def RX6 : String := "LazyStateModel"
def TX6 : u_T := fun k => match k with
  | 0 => ("LazyStateModel", "objects", "I", false)
  | 1 => ("LazyStateModel", "types", "[I", true)
  | 2 => ("LazyStateModel", "height", "I", false)
  | 3 => ("LazyStateModel", "numbers", "[J", true)
  | 4 => ("LazyStateModel", "sizes", "[I", true)
  | 5 => ("LazyStateModel", "items", "[I", true)
  | 6 => ("LazyStateModel", "isCached", "[Z", true)
  | 7 => ("LazyStateModel", "fetches", "I", false)
  | 8 => ("LazyStateModel", "times", "[I", true)
  | 9 => ("LazyStateModel", "many", "[I", true)
  | 10 => ("LazyStateModel", "kinds", "[I", true)
  | 11 => ("LazyStateModel", "as", "[I", true)
  | 12 => ("LazyStateModel", "bs", "[J", true)
  | 13 => ("LazyStateModel", "cs", "[I", true)
  | 14 => ("LazyStateModel", "ds", "[I", true)
  | 15 => ("LazyStateModel", "es", "[I", true)
  | 16 => ("LazyStateModel", "calls", "I", false)
  | 17 => ("LazyStateModel", "gave", "J", false)
  | 18 => ("LazyStateModel", "where", "I", false)
  | 19 => ("LazyStateModel", "touchedMany", "I", false)
  | 20 => ("LazyStateModel", "touchedLeaf", "[I", true)
  | 21 => ("LazyStateModel", "touchedHow", "[I", true)
  | 22 => ("LazyStateModel", "writtenMany", "I", false)
  | 23 => ("LazyStateModel", "written", "[I", true)
  | 24 => ("LazyStateModel", "isLoaded", "[Z", true)
  | 25 => ("LazyStateModel", "acts", "I", false)
  | 26 => ("LazyStateModel", "handles", "[I", true)
  | 27 => ("LazyStateModel", "values", "[J", true)
  | 28 => ("LazyStateModel", "threw", "I", false)
  | _ => ("LazyStateModel", "status", "I", false)
def tyX6 : Nat → FieldType := fun k => match k with
  | 0 => .int
  | 1 => .array .int
  | 2 => .int
  | 3 => .array .long
  | 4 => .array .int
  | 5 => .array .int
  | 6 => .array .boolean
  | 7 => .int
  | 8 => .array .int
  | 9 => .array .int
  | 10 => .array .int
  | 11 => .array .int
  | 12 => .array .long
  | 13 => .array .int
  | 14 => .array .int
  | 15 => .array .int
  | 16 => .int
  | 17 => .long
  | 18 => .int
  | 19 => .int
  | 20 => .array .int
  | 21 => .array .int
  | 22 => .int
  | 23 => .array .int
  | 24 => .array .boolean
  | 25 => .int
  | 26 => .array .int
  | 27 => .array .long
  | 28 => .int
  | _ => .int
abbrev wsX60 : List Cond := u_ws RX6 TX6 30
theorem nmX6 : ∀ a, a < 30 → ∀ b, b < 30 → a ≠ b → (TX6 a).2.1 ≠ (TX6 b).2.1 := by decide +kernel
theorem tyX6_ok : ∀ k, k < 30 → parseFieldDescriptor (TX6 k).2.2.1 = some (tyX6 k) := by decide +kernel
abbrev cX6_init : ByteArray := prog_8_method_1_code
def yX6_init : MethodName := ⟨RX6, "<init>", "()V"⟩
abbrev cX6_in : ByteArray := prog_8_method_2_code
def yX6_in : MethodName := ⟨RX6, "in", "(JJJ)Z"⟩
abbrev cX6_isObject : ByteArray := prog_8_method_3_code
def yX6_isObject : MethodName := ⟨RX6, "isObject", "(I)Z"⟩
abbrev cX6_fieldsOf : ByteArray := prog_8_method_4_code
def yX6_fieldsOf : MethodName := ⟨RX6, "fieldsOf", "(I)I"⟩
abbrev cX6_sortOf : ByteArray := prog_8_method_5_code
def yX6_sortOf : MethodName := ⟨RX6, "sortOf", "(II)I"⟩
abbrev cX6_has : ByteArray := prog_8_method_6_code
def yX6_has : MethodName := ⟨RX6, "has", "(III)Z"⟩
abbrev cX6_first : ByteArray := prog_8_method_7_code
def yX6_first : MethodName := ⟨RX6, "first", "(III)V"⟩
abbrev cX6_object : ByteArray := prog_8_method_8_code
def yX6_object : MethodName := ⟨RX6, "object", "(I)I"⟩
abbrev cX6_copyLeaf : ByteArray := prog_8_method_9_code
def yX6_copyLeaf : MethodName := ⟨RX6, "copyLeaf", "(III)V"⟩
abbrev cX6_copyAll : ByteArray := prog_8_method_10_code
def yX6_copyAll : MethodName := ⟨RX6, "copyAll", "(II)V"⟩
abbrev cX6_areAlike : ByteArray := prog_8_method_11_code
def yX6_areAlike : MethodName := ⟨RX6, "areAlike", "(II)Z"⟩
abbrev cX6_rises : ByteArray := prog_8_method_12_code
def yX6_rises : MethodName := ⟨RX6, "rises", "()V"⟩
abbrev cX6_changed : ByteArray := prog_8_method_13_code
def yX6_changed : MethodName := ⟨RX6, "changed", "(I)I"⟩
abbrev cX6_number : ByteArray := prog_8_method_14_code
def yX6_number : MethodName := ⟨RX6, "number", "(IIJ)I"⟩
abbrev cX6_link : ByteArray := prog_8_method_15_code
def yX6_link : MethodName := ⟨RX6, "link", "(III)I"⟩
abbrev cX6_newRow : ByteArray := prog_8_method_16_code
def yX6_newRow : MethodName := ⟨RX6, "newRow", "(II)V"⟩
abbrev cX6_row : ByteArray := prog_8_method_17_code
def yX6_row : MethodName := ⟨RX6, "row", "(III)I"⟩
abbrev cX6_four : ByteArray := prog_8_method_18_code
def yX6_four : MethodName := ⟨RX6, "four", "(J)Z"⟩
abbrev cX6_eight : ByteArray := prog_8_method_19_code
def yX6_eight : MethodName := ⟨RX6, "eight", "(J)Z"⟩
abbrev cX6_isAct : ByteArray := prog_8_method_20_code
def yX6_isAct : MethodName := ⟨RX6, "isAct", "(IIJIII)Z"⟩
abbrev cX6_act : ByteArray := prog_8_method_21_code
def yX6_act : MethodName := ⟨RX6, "act", "(IIIJIII)I"⟩
abbrev cX6_clear : ByteArray := prog_8_method_22_code
def yX6_clear : MethodName := ⟨RX6, "clear", "(I)I"⟩
abbrev cX6_load : ByteArray := prog_8_method_23_code
def yX6_load : MethodName := ⟨RX6, "load", "(I)V"⟩
abbrev cX6_touch : ByteArray := prog_8_method_24_code
def yX6_touch : MethodName := ⟨RX6, "touch", "(II)V"⟩
abbrev cX6_leafOf : ByteArray := prog_8_method_25_code
def yX6_leafOf : MethodName := ⟨RX6, "leafOf", "(IJI)I"⟩
abbrev cX6_readLeaf : ByteArray := prog_8_method_26_code
def yX6_readLeaf : MethodName := ⟨RX6, "readLeaf", "(IJI)I"⟩
abbrev cX6_at : ByteArray := prog_8_method_27_code
def yX6_at : MethodName := ⟨RX6, "at", "(I)I"⟩
abbrev cX6_itemOf : ByteArray := prog_8_method_28_code
def yX6_itemOf : MethodName := ⟨RX6, "itemOf", "(IJ)I"⟩
abbrev cX6_rowActs : ByteArray := prog_8_method_29_code
def yX6_rowActs : MethodName := ⟨RX6, "rowActs", "(I)V"⟩
abbrev cX6_shift : ByteArray := prog_8_method_30_code
def yX6_shift : MethodName := ⟨RX6, "shift", "(IJIIJ)V"⟩
abbrev cX6_like : ByteArray := prog_8_method_31_code
def yX6_like : MethodName := ⟨RX6, "like", "(II)Z"⟩
abbrev cX6_fieldActs : ByteArray := prog_8_method_32_code
def yX6_fieldActs : MethodName := ⟨RX6, "fieldActs", "(I)V"⟩
abbrev cX6_does : ByteArray := prog_8_method_33_code
def yX6_does : MethodName := ⟨RX6, "does", "(II)I"⟩
abbrev cX6_begin : ByteArray := prog_8_method_34_code
def yX6_begin : MethodName := ⟨RX6, "begin", "(IJ)V"⟩
abbrev cX6_call : ByteArray := prog_8_method_35_code
def yX6_call : MethodName := ⟨RX6, "call", "(IIJ)I"⟩
abbrev cX6_gave : ByteArray := prog_8_method_36_code
def yX6_gave : MethodName := ⟨RX6, "gave", "()J"⟩
abbrev cX6_where : ByteArray := prog_8_method_37_code
def yX6_where : MethodName := ⟨RX6, "where", "()I"⟩
abbrev cX6_touched : ByteArray := prog_8_method_38_code
def yX6_touched : MethodName := ⟨RX6, "touched", "(II)I"⟩
abbrev cX6_written : ByteArray := prog_8_method_39_code
def yX6_written : MethodName := ⟨RX6, "written", "(I)I"⟩
abbrev cX6_loaded : ByteArray := prog_8_method_40_code
def yX6_loaded : MethodName := ⟨RX6, "loaded", "(I)I"⟩
abbrev cX6_cached : ByteArray := prog_8_method_41_code
def yX6_cached : MethodName := ⟨RX6, "cached", "(I)I"⟩
abbrev cX6_hint : ByteArray := prog_8_method_42_code
def yX6_hint : MethodName := ⟨RX6, "hint", "(I)I"⟩
abbrev cX6_times : ByteArray := prog_8_method_43_code
def yX6_times : MethodName := ⟨RX6, "times", "(I)I"⟩
abbrev cX6_all : ByteArray := prog_8_method_44_code
def yX6_all : MethodName := ⟨RX6, "all", "(IIJ)I"⟩
abbrev cX6_view : ByteArray := prog_8_method_45_code
def yX6_view : MethodName := ⟨RX6, "view", "(IIII)J"⟩
abbrev cX6_status : ByteArray := prog_8_method_46_code
def yX6_status : MethodName := ⟨RX6, "status", "()I"⟩
abbrev cX6_told : ByteArray := prog_8_method_47_code
def yX6_told : MethodName := ⟨RX6, "told", "(I)I"⟩
def RJ6 : String := "java/lang/Integer"
def TJ6 : u_T := fun k => match k with
  | _ => ("", "", "", false)
def tyJ6 : Nat → FieldType := fun k => match k with
  | _ => .int
abbrev wsJ60 : List Cond := u_ws RJ6 TJ6 0
theorem nmJ6 : ∀ a, a < 0 → ∀ b, b < 0 → a ≠ b → (TJ6 a).2.1 ≠ (TJ6 b).2.1 := by decide +kernel
theorem tyJ6_ok : ∀ k, k < 0 → parseFieldDescriptor (TJ6 k).2.2.1 = some (tyJ6 k) := by decide +kernel
abbrev cJ6_bitCount_0f7a4 : ByteArray := prog_9_method_49_code
def yJ6_bitCount_0f7a4 : MethodName := ⟨RJ6, "bitCount", "(I)I"⟩
def RJ10 : String := "java/lang/System"
def TJ10 : u_T := fun k => match k with
  | _ => ("", "", "", false)
def tyJ10 : Nat → FieldType := fun k => match k with
  | _ => .int
abbrev wsJ100 : List Cond := u_ws RJ10 TJ10 0
theorem nmJ10 : ∀ a, a < 0 → ∀ b, b < 0 → a ≠ b → (TJ10 a).2.1 ≠ (TJ10 b).2.1 := by decide +kernel
theorem tyJ10_ok : ∀ k, k < 0 → parseFieldDescriptor (TJ10 k).2.2.1 = some (tyJ10 k) := by decide +kernel
def RJ7 : String := "java/util/Arrays"
def TJ7 : u_T := fun k => match k with
  | _ => ("", "", "", false)
def tyJ7 : Nat → FieldType := fun k => match k with
  | _ => .int
abbrev wsJ70 : List Cond := u_ws RJ7 TJ7 0
theorem nmJ7 : ∀ a, a < 0 → ∀ b, b < 0 → a ≠ b → (TJ7 a).2.1 ≠ (TJ7 b).2.1 := by decide +kernel
theorem tyJ7_ok : ∀ k, k < 0 → parseFieldDescriptor (TJ7 k).2.2.1 = some (tyJ7 k) := by decide +kernel
abbrev cJ7_fill_d0a16 : ByteArray := prog_11_method_101_code
def yJ7_fill_d0a16 : MethodName := ⟨RJ7, "fill", "([JJ)V"⟩
abbrev cJ7_fill_53178 : ByteArray := prog_11_method_103_code
def yJ7_fill_53178 : MethodName := ⟨RJ7, "fill", "([II)V"⟩
def wsX0_init : List Cond := .code yX0_init cX0_init 8 none :: ([.methodLink RX0 1 objectInit, .instanceMethod objectInit, .code objectInit ⟨#[0xb1]⟩ 1 none, .fieldLink RX0 7 "LazyState$Act" "kind" "I", .fieldLink RX0 13 "LazyState$Act" "a" "I", .fieldLink RX0 16 "LazyState$Act" "b" "J", .fieldLink RX0 20 "LazyState$Act" "c" "I", .fieldLink RX0 23 "LazyState$Act" "d" "I", .fieldLink RX0 26 "LazyState$Act" "e" "I"] ++ wsX00)
def wsX0_fits : List Cond := .code yX0_fits cX0_fits 5 (some .boolean) :: ([.fieldLink RX0 33 "LazyState$Act" "MOST" "[I", .fieldLink RX0 7 "LazyState$Act" "kind" "I"] ++ wsX00)
def wsX0_isAsTold : List Cond := .code yX0_isAsTold cX0_isAsTold 1 (some .boolean) :: ([.fieldLink RX0 13 "LazyState$Act" "a" "I", .fieldLink RX0 16 "LazyState$Act" "b" "J", .fieldLink RX0 20 "LazyState$Act" "c" "I", .fieldLink RX0 23 "LazyState$Act" "d" "I", .fieldLink RX0 26 "LazyState$Act" "e" "I", .methodLink RX0 29 yX0_fits, .instanceMethod yX0_fits, .selects RX0 yX0_fits yX0_fits, .initialized RX0, .code yX0_fits cX0_fits 5 (some .boolean), .fieldLink RX0 33 "LazyState$Act" "MOST" "[I", .fieldLink RX0 7 "LazyState$Act" "kind" "I"] ++ wsX00)
def wsX1_init : List Cond := .code yX1_init cX1_init 1 none :: ([.methodLink RX1 3 objectInit, .instanceMethod objectInit, .code objectInit ⟨#[0xb1]⟩ 1 none, .classLink RX1 9 RX0, .fieldLink RX1 11 "LazyState$Behaviour" "acts" "[LLazyState$Act;"] ++ wsX10)
def wsX1_append : List Cond := .code yX1_append cX1_append 2 (some .int) :: ([.fieldLink RX1 17 "LazyState$Behaviour" "size" "I", .fieldLink RX1 11 "LazyState$Behaviour" "acts" "[LLazyState$Act;"] ++ wsX10)
def wsX1_empty : List Cond := .code yX1_empty cX1_empty 2 (some .int) :: ([.fieldLink RX1 17 "LazyState$Behaviour" "size" "I"] ++ wsX10)
def wsX1_actAt : List Cond := .code yX1_actAt cX1_actAt 2 (some (.object "LazyState$Act")) :: ([.fieldLink RX1 17 "LazyState$Behaviour" "size" "I", .fieldLink RX1 11 "LazyState$Behaviour" "acts" "[LLazyState$Act;"] ++ wsX10)
def wsX2_init : List Cond := .code yX2_init cX2_init 4 none :: ([.methodLink RX2 3 objectInit, .instanceMethod objectInit, .code objectInit ⟨#[0xb1]⟩ 1 none, .arrayClass .long, .fieldLink RX2 9 "LazyState$Body" "cells" "[J", .arrayClass .int, .fieldLink RX2 15 "LazyState$Body" "items" "[I", .fieldLink RX2 19 "LazyState$Body" "type" "I", .fieldLink RX2 23 "LazyState$Body" "SORTS" "[I", .constantLong RX2 26 (-3)] ++ wsX20)
def wsX2_itemPlace : List Cond := .code yX2_itemPlace cX2_itemPlace 2 (some .int) :: ([])
def wsX2_sortOf : List Cond := .code yX2_sortOf cX2_sortOf 2 (some .int) :: ([.fieldLink RX2 23 "LazyState$Body" "SORTS" "[I", .fieldLink RX2 19 "LazyState$Body" "type" "I"] ++ wsX20)
def wsX2_hasItem : List Cond := .code yX2_hasItem cX2_hasItem 4 (some .boolean) :: ([.fieldLink RX2 9 "LazyState$Body" "cells" "[J"] ++ wsX20)
def wsX2_hasBlankRow : List Cond := .code yX2_hasBlankRow cX2_hasBlankRow 4 (some .boolean) :: ([.fieldLink RX2 9 "LazyState$Body" "cells" "[J", .fieldLink RX2 15 "LazyState$Body" "items" "[I", .methodLink RX2 28 yX2_itemPlace, .static yX2_itemPlace, .initialized RX2, .code yX2_itemPlace cX2_itemPlace 2 (some .int)] ++ wsX20)
def wsX2_renewRow : List Cond := .code yX2_renewRow cX2_renewRow 4 none :: ([.fieldLink RX2 9 "LazyState$Body" "cells" "[J", .fieldLink RX2 15 "LazyState$Body" "items" "[I", .methodLink RX2 28 yX2_itemPlace, .static yX2_itemPlace, .initialized RX2, .code yX2_itemPlace cX2_itemPlace 2 (some .int)] ++ wsX20)
def wsX2_hasSameItems : List Cond := .code yX2_hasSameItems cX2_hasSameItems 4 (some .boolean) :: ([.fieldLink RX2 15 "LazyState$Body" "items" "[I", .methodLink RX2 28 yX2_itemPlace, .static yX2_itemPlace, .initialized RX2, .code yX2_itemPlace cX2_itemPlace 2 (some .int)] ++ wsX20)
def wsX2_hasSameField : List Cond := .code yX2_hasSameField cX2_hasSameField 3 (some .boolean) :: ([.fieldLink RX2 9 "LazyState$Body" "cells" "[J", .methodLink RX2 32 yX2_sortOf, .instanceMethod yX2_sortOf, .selects RX2 yX2_sortOf yX2_sortOf, .initialized RX2, .code yX2_sortOf cX2_sortOf 2 (some .int), .fieldLink RX2 23 "LazyState$Body" "SORTS" "[I", .fieldLink RX2 19 "LazyState$Body" "type" "I", .methodLink RX2 36 yX2_hasSameItems, .instanceMethod yX2_hasSameItems, .selects RX2 yX2_hasSameItems yX2_hasSameItems, .code yX2_hasSameItems cX2_hasSameItems 4 (some .boolean), .fieldLink RX2 15 "LazyState$Body" "items" "[I", .methodLink RX2 28 yX2_itemPlace, .static yX2_itemPlace, .code yX2_itemPlace cX2_itemPlace 2 (some .int)] ++ wsX20)
def wsX2_copyFrom : List Cond := .code yX2_copyFrom cX2_copyFrom 2 none :: ([.fieldLink RX2 9 "LazyState$Body" "cells" "[J", .methodLink RX2 40 arraycopyName, .native arraycopyName, .static arraycopyName, .initialized "java/lang/System", .fieldLink RX2 15 "LazyState$Body" "items" "[I"] ++ wsX20)
def wsX2_asOf : List Cond := .code yX2_asOf cX2_asOf 3 (some (.object "LazyState$Body")) :: ([.fieldLink RX2 46 "LazyState$Body" "before" "LLazyState$Body;", .fieldLink RX2 50 "LazyState$Body" "since" "I"] ++ wsX20)
def wsX4_init : List Cond := .code yX4_init cX4_init 1 none :: ([.methodLink RX4 3 objectInit, .instanceMethod objectInit, .code objectInit ⟨#[0xb1]⟩ 1 none, .arrayClass .int, .fieldLink RX4 9 "LazyState$Trace" "entries" "[I", .fieldLink RX4 15 "LazyState$Trace" "readBits" "[I", .fieldLink RX4 18 "LazyState$Trace" "changedBits" "[I"] ++ wsX40)
def wsX3_init : List Cond := .code yX3_init cX3_init 1 none :: ([.methodLink RX3 3 objectInit, .instanceMethod objectInit, .code objectInit ⟨#[0xb1]⟩ 1 none, .classLink RX3 9 RX4, .instantiable RX4 5, .initialized RX4, .fieldLink RX3 12 "LazyState$Run" "trace" "LLazyState$Trace;", .fieldLink RX3 18 "LazyState$Run" "thrownAt" "I", .classLink RX3 22 RX2, .fieldLink RX3 24 "LazyState$Run" "copies" "[LLazyState$Body;", .arrayClass .int, .fieldLink RX3 28 "LazyState$Run" "handles" "[I", .arrayClass .long, .fieldLink RX3 32 "LazyState$Run" "values" "[J", .instanceMethod yX4_init, .code yX4_init cX4_init 1 none, .methodLink RX4 3 objectInit, .fieldLink RX4 9 "LazyState$Trace" "entries" "[I", .fieldLink RX4 15 "LazyState$Trace" "readBits" "[I", .fieldLink RX4 18 "LazyState$Trace" "changedBits" "[I"] ++ wsX40 ++ wsX30)
def wsJ7_fill_53178 : List Cond := .code yJ7_fill_53178 cJ7_fill_53178 4 none :: ([])
def wsX4_restart : List Cond := .code yX4_restart cX4_restart 1 none :: ([.fieldLink RX4 21 "LazyState$Trace" "count" "I", .fieldLink RX4 25 "LazyState$Trace" "changedCount" "I", .fieldLink RX4 15 "LazyState$Trace" "readBits" "[I", .fieldLink RX4 18 "LazyState$Trace" "changedBits" "[I", .methodLink RX4 28 yJ7_fill_53178, .static yJ7_fill_53178, .initialized RJ7, .code yJ7_fill_53178 cJ7_fill_53178 4 none] ++ wsX40)
def wsJ7_fill_d0a16 : List Cond := .code yJ7_fill_d0a16 cJ7_fill_d0a16 5 none :: ([])
def wsX3_start_r1 : List Cond := [Cond.fieldLink RX3 36 "LazyState$Run" "state" "[LLazyState$Body;", Cond.fieldLink RX3 12 "LazyState$Run" "trace" "LLazyState$Trace;", Cond.fieldLink RX3 42 "LazyState$Run" "loadedBits" "I", Cond.fieldLink RX3 45 "LazyState$Run" "done" "I", Cond.fieldLink RX3 48 "LazyState$Run" "gift" "J", Cond.fieldLink RX3 52 "LazyState$Run" "thrown" "I", Cond.fieldLink RX3 18 "LazyState$Run" "thrownAt" "I", Cond.fieldLink RX3 28 "LazyState$Run" "handles" "[I", Cond.fieldLink RX3 32 "LazyState$Run" "values" "[J", Cond.methodLink RX3 39 yX4_restart, Cond.instanceMethod yX4_restart, Cond.selects RX4 yX4_restart yX4_restart, Cond.initialized RX4, Cond.code yX4_restart cX4_restart 1 none, Cond.fieldLink RX4 21 "LazyState$Trace" "count" "I", Cond.fieldLink RX4 25 "LazyState$Trace" "changedCount" "I", Cond.fieldLink RX4 15 "LazyState$Trace" "readBits" "[I", Cond.fieldLink RX4 18 "LazyState$Trace" "changedBits" "[I", Cond.methodLink RX4 28 yJ7_fill_53178, Cond.static yJ7_fill_53178, Cond.initialized RJ7, Cond.code yJ7_fill_53178 cJ7_fill_53178 4 none, Cond.methodLink RX3 55 yJ7_fill_53178, Cond.methodLink RX3 61 yJ7_fill_d0a16]
def wsX3_start_r2 : List Cond := [Cond.static yJ7_fill_d0a16, Cond.code yJ7_fill_d0a16 cJ7_fill_d0a16 5 none]
def wsX3_start : List Cond := .code yX3_start cX3_start 5 none :: ((wsX3_start_r1 ++ wsX3_start_r2) ++ wsX30 ++ wsX40)
def wsX5_bitOf : List Cond := .code yX5_bitOf cX5_bitOf 2 (some .int) :: ([])
def wsX3_load_r1 : List Cond := [Cond.fieldLink RX3 42 "LazyState$Run" "loadedBits" "I", Cond.fieldLink RX3 24 "LazyState$Run" "copies" "[LLazyState$Body;", Cond.classLink RX3 22 RX2, Cond.instantiable RX2 5, Cond.initialized RX2, Cond.fieldLink RX3 36 "LazyState$Run" "state" "[LLazyState$Body;", Cond.fieldLink RX3 101 "LazyState$Body" "type" "I", Cond.static yX5_bitOf, Cond.initialized RX5, Cond.code yX5_bitOf cX5_bitOf 2 (some .int), Cond.methodLink RX3 104 yX2_init, Cond.instanceMethod yX2_init, Cond.code yX2_init cX2_init 4 none, Cond.methodLink RX2 3 objectInit, Cond.instanceMethod objectInit, Cond.code objectInit ⟨#[0xb1]⟩ 1 none, Cond.arrayClass .long, Cond.fieldLink RX2 9 "LazyState$Body" "cells" "[J", Cond.arrayClass .int, Cond.fieldLink RX2 15 "LazyState$Body" "items" "[I", Cond.fieldLink RX2 19 "LazyState$Body" "type" "I", Cond.fieldLink RX2 23 "LazyState$Body" "SORTS" "[I", Cond.constantLong RX2 26 (-3), Cond.methodLink RX3 106 yX2_copyFrom]
def wsX3_load_r2 : List Cond := [Cond.instanceMethod yX2_copyFrom, Cond.selects RX2 yX2_copyFrom yX2_copyFrom, Cond.code yX2_copyFrom cX2_copyFrom 2 none, Cond.methodLink RX2 40 arraycopyName, Cond.native arraycopyName, Cond.static arraycopyName, Cond.initialized "java/lang/System"]
def wsX3_load : List Cond := .code yX3_load cX3_load 2 none :: ((wsX3_load_r1 ++ wsX3_load_r2) ++ wsX30 ++ wsX20)
def wsX3_loadAhead_r1 : List Cond := [Cond.methodLink RX3 64 yX3_load, Cond.instanceMethod yX3_load, Cond.selects RX3 yX3_load yX3_load, Cond.initialized RX3, Cond.code yX3_load cX3_load 2 none, Cond.fieldLink RX3 42 "LazyState$Run" "loadedBits" "I", Cond.fieldLink RX3 24 "LazyState$Run" "copies" "[LLazyState$Body;", Cond.classLink RX3 22 RX2, Cond.instantiable RX2 5, Cond.initialized RX2, Cond.fieldLink RX3 36 "LazyState$Run" "state" "[LLazyState$Body;", Cond.fieldLink RX3 101 "LazyState$Body" "type" "I", Cond.static yX5_bitOf, Cond.initialized RX5, Cond.code yX5_bitOf cX5_bitOf 2 (some .int), Cond.methodLink RX3 104 yX2_init, Cond.instanceMethod yX2_init, Cond.code yX2_init cX2_init 4 none, Cond.methodLink RX2 3 objectInit, Cond.instanceMethod objectInit, Cond.code objectInit ⟨#[0xb1]⟩ 1 none, Cond.arrayClass .long, Cond.fieldLink RX2 9 "LazyState$Body" "cells" "[J", Cond.arrayClass .int]
def wsX3_loadAhead_r2 : List Cond := [Cond.fieldLink RX2 15 "LazyState$Body" "items" "[I", Cond.fieldLink RX2 19 "LazyState$Body" "type" "I", Cond.fieldLink RX2 23 "LazyState$Body" "SORTS" "[I", Cond.constantLong RX2 26 (-3), Cond.methodLink RX3 106 yX2_copyFrom, Cond.instanceMethod yX2_copyFrom, Cond.selects RX2 yX2_copyFrom yX2_copyFrom, Cond.code yX2_copyFrom cX2_copyFrom 2 none, Cond.methodLink RX2 40 arraycopyName, Cond.native arraycopyName, Cond.static arraycopyName, Cond.initialized "java/lang/System"]
def wsX3_loadAhead : List Cond := .code yX3_loadAhead cX3_loadAhead 3 none :: ((wsX3_loadAhead_r1 ++ wsX3_loadAhead_r2) ++ wsX30 ++ wsX20)
def wsX3_fail : List Cond := .code yX3_fail cX3_fail 3 none :: ([.fieldLink RX3 52 "LazyState$Run" "thrown" "I", .fieldLink RX3 18 "LazyState$Run" "thrownAt" "I"] ++ wsX30)
def wsX3_setValue : List Cond := .code yX3_setValue cX3_setValue 4 (some .int) :: ([.fieldLink RX3 32 "LazyState$Run" "values" "[J"] ++ wsX30)
def wsX3_ask_r1 : List Cond := [Cond.fieldLink RX3 28 "LazyState$Run" "handles" "[I", Cond.fieldLink RX3 24 "LazyState$Run" "copies" "[LLazyState$Body;", Cond.methodLink RX3 64 yX3_load, Cond.instanceMethod yX3_load, Cond.selects RX3 yX3_load yX3_load, Cond.initialized RX3, Cond.code yX3_load cX3_load 2 none, Cond.fieldLink RX3 42 "LazyState$Run" "loadedBits" "I", Cond.classLink RX3 22 RX2, Cond.instantiable RX2 5, Cond.initialized RX2, Cond.fieldLink RX3 36 "LazyState$Run" "state" "[LLazyState$Body;", Cond.fieldLink RX3 101 "LazyState$Body" "type" "I", Cond.static yX5_bitOf, Cond.initialized RX5, Cond.code yX5_bitOf cX5_bitOf 2 (some .int), Cond.methodLink RX3 104 yX2_init, Cond.instanceMethod yX2_init, Cond.code yX2_init cX2_init 4 none, Cond.methodLink RX2 3 objectInit, Cond.instanceMethod objectInit, Cond.code objectInit ⟨#[0xb1]⟩ 1 none, Cond.arrayClass .long, Cond.fieldLink RX2 9 "LazyState$Body" "cells" "[J"]
def wsX3_ask_r2 : List Cond := [Cond.arrayClass .int, Cond.fieldLink RX2 15 "LazyState$Body" "items" "[I", Cond.fieldLink RX2 19 "LazyState$Body" "type" "I", Cond.fieldLink RX2 23 "LazyState$Body" "SORTS" "[I", Cond.constantLong RX2 26 (-3), Cond.methodLink RX3 106 yX2_copyFrom, Cond.instanceMethod yX2_copyFrom, Cond.selects RX2 yX2_copyFrom yX2_copyFrom, Cond.code yX2_copyFrom cX2_copyFrom 2 none, Cond.methodLink RX2 40 arraycopyName, Cond.native arraycopyName, Cond.static arraycopyName, Cond.initialized "java/lang/System", Cond.methodLink RX3 168 yX2_sortOf, Cond.instanceMethod yX2_sortOf, Cond.selects RX2 yX2_sortOf yX2_sortOf, Cond.code yX2_sortOf cX2_sortOf 2 (some .int)]
def wsX3_ask : List Cond := .code yX3_ask cX3_ask 6 (some .int) :: ((wsX3_ask_r1 ++ wsX3_ask_r2) ++ wsX30 ++ wsX20)
def wsX4_noteRead : List Cond := .code yX4_noteRead cX4_noteRead 3 none :: ([.fieldLink RX4 15 "LazyState$Trace" "readBits" "[I", .fieldLink RX4 9 "LazyState$Trace" "entries" "[I", .fieldLink RX4 21 "LazyState$Trace" "count" "I"] ++ wsX40)
def wsX3_read : List Cond := .code yX3_read cX3_read 3 (some (.object "LazyState$Body")) :: ([.fieldLink RX3 12 "LazyState$Run" "trace" "LLazyState$Trace;", .fieldLink RX3 28 "LazyState$Run" "handles" "[I", .fieldLink RX3 24 "LazyState$Run" "copies" "[LLazyState$Body;", .methodLink RX3 171 yX4_noteRead, .instanceMethod yX4_noteRead, .selects RX4 yX4_noteRead yX4_noteRead, .initialized RX4, .code yX4_noteRead cX4_noteRead 3 none, .fieldLink RX4 15 "LazyState$Trace" "readBits" "[I", .fieldLink RX4 9 "LazyState$Trace" "entries" "[I", .fieldLink RX4 21 "LazyState$Trace" "count" "I"] ++ wsX30 ++ wsX40)
def wsX3_get_r1 : List Cond := [Cond.fieldLink RX3 184 "LazyState$Body" "cells" "[J", Cond.methodLink RX3 177 yX3_ask, Cond.instanceMethod yX3_ask, Cond.selects RX3 yX3_ask yX3_ask, Cond.initialized RX3, Cond.code yX3_ask cX3_ask 6 (some .int), Cond.fieldLink RX3 28 "LazyState$Run" "handles" "[I", Cond.fieldLink RX3 24 "LazyState$Run" "copies" "[LLazyState$Body;", Cond.methodLink RX3 64 yX3_load, Cond.instanceMethod yX3_load, Cond.selects RX3 yX3_load yX3_load, Cond.code yX3_load cX3_load 2 none, Cond.fieldLink RX3 42 "LazyState$Run" "loadedBits" "I", Cond.classLink RX3 22 RX2, Cond.instantiable RX2 5, Cond.initialized RX2, Cond.fieldLink RX3 36 "LazyState$Run" "state" "[LLazyState$Body;", Cond.fieldLink RX3 101 "LazyState$Body" "type" "I", Cond.static yX5_bitOf, Cond.initialized RX5, Cond.code yX5_bitOf cX5_bitOf 2 (some .int), Cond.methodLink RX3 104 yX2_init, Cond.instanceMethod yX2_init, Cond.code yX2_init cX2_init 4 none]
def wsX3_get_r2 : List Cond := [Cond.methodLink RX2 3 objectInit, Cond.instanceMethod objectInit, Cond.code objectInit ⟨#[0xb1]⟩ 1 none, Cond.arrayClass .long, Cond.fieldLink RX2 9 "LazyState$Body" "cells" "[J", Cond.arrayClass .int, Cond.fieldLink RX2 15 "LazyState$Body" "items" "[I", Cond.fieldLink RX2 19 "LazyState$Body" "type" "I", Cond.fieldLink RX2 23 "LazyState$Body" "SORTS" "[I", Cond.constantLong RX2 26 (-3), Cond.methodLink RX3 106 yX2_copyFrom, Cond.instanceMethod yX2_copyFrom, Cond.selects RX2 yX2_copyFrom yX2_copyFrom, Cond.code yX2_copyFrom cX2_copyFrom 2 none, Cond.methodLink RX2 40 arraycopyName, Cond.native arraycopyName, Cond.static arraycopyName, Cond.initialized "java/lang/System", Cond.methodLink RX3 168 yX2_sortOf, Cond.instanceMethod yX2_sortOf, Cond.selects RX2 yX2_sortOf yX2_sortOf, Cond.code yX2_sortOf cX2_sortOf 2 (some .int), Cond.methodLink RX3 180 yX3_read, Cond.instanceMethod yX3_read]
def wsX3_get_r3 : List Cond := [Cond.selects RX3 yX3_read yX3_read, Cond.code yX3_read cX3_read 3 (some (.object "LazyState$Body")), Cond.fieldLink RX3 12 "LazyState$Run" "trace" "LLazyState$Trace;", Cond.methodLink RX3 171 yX4_noteRead, Cond.instanceMethod yX4_noteRead, Cond.selects RX4 yX4_noteRead yX4_noteRead, Cond.initialized RX4, Cond.code yX4_noteRead cX4_noteRead 3 none, Cond.fieldLink RX4 15 "LazyState$Trace" "readBits" "[I", Cond.fieldLink RX4 9 "LazyState$Trace" "entries" "[I", Cond.fieldLink RX4 21 "LazyState$Trace" "count" "I", Cond.methodLink RX3 124 yX3_setValue, Cond.instanceMethod yX3_setValue, Cond.selects RX3 yX3_setValue yX3_setValue, Cond.code yX3_setValue cX3_setValue 4 (some .int), Cond.fieldLink RX3 32 "LazyState$Run" "values" "[J"]
def wsX3_get : List Cond := .code yX3_get cX3_get 5 (some .int) :: ((wsX3_get_r1 ++ (wsX3_get_r2 ++ wsX3_get_r3)) ++ wsX20 ++ wsX30 ++ wsX40)
def wsX4_noteChanged : List Cond := .code yX4_noteChanged cX4_noteChanged 3 none :: ([.fieldLink RX4 18 "LazyState$Trace" "changedBits" "[I", .fieldLink RX4 9 "LazyState$Trace" "entries" "[I", .fieldLink RX4 21 "LazyState$Trace" "count" "I", .fieldLink RX4 25 "LazyState$Trace" "changedCount" "I"] ++ wsX40)
def wsX3_change : List Cond := .code yX3_change cX3_change 3 (some (.object "LazyState$Body")) :: ([.fieldLink RX3 12 "LazyState$Run" "trace" "LLazyState$Trace;", .fieldLink RX3 28 "LazyState$Run" "handles" "[I", .fieldLink RX3 24 "LazyState$Run" "copies" "[LLazyState$Body;", .methodLink RX3 174 yX4_noteChanged, .instanceMethod yX4_noteChanged, .selects RX4 yX4_noteChanged yX4_noteChanged, .initialized RX4, .code yX4_noteChanged cX4_noteChanged 3 none, .fieldLink RX4 18 "LazyState$Trace" "changedBits" "[I", .fieldLink RX4 9 "LazyState$Trace" "entries" "[I", .fieldLink RX4 21 "LazyState$Trace" "count" "I", .fieldLink RX4 25 "LazyState$Trace" "changedCount" "I"] ++ wsX30 ++ wsX40)
def wsX3_put_r1 : List Cond := [Cond.fieldLink RX3 184 "LazyState$Body" "cells" "[J", Cond.methodLink RX3 177 yX3_ask, Cond.instanceMethod yX3_ask, Cond.selects RX3 yX3_ask yX3_ask, Cond.initialized RX3, Cond.code yX3_ask cX3_ask 6 (some .int), Cond.fieldLink RX3 28 "LazyState$Run" "handles" "[I", Cond.fieldLink RX3 24 "LazyState$Run" "copies" "[LLazyState$Body;", Cond.methodLink RX3 64 yX3_load, Cond.instanceMethod yX3_load, Cond.selects RX3 yX3_load yX3_load, Cond.code yX3_load cX3_load 2 none, Cond.fieldLink RX3 42 "LazyState$Run" "loadedBits" "I", Cond.classLink RX3 22 RX2, Cond.instantiable RX2 5, Cond.initialized RX2, Cond.fieldLink RX3 36 "LazyState$Run" "state" "[LLazyState$Body;", Cond.fieldLink RX3 101 "LazyState$Body" "type" "I", Cond.static yX5_bitOf, Cond.initialized RX5, Cond.code yX5_bitOf cX5_bitOf 2 (some .int), Cond.methodLink RX3 104 yX2_init, Cond.instanceMethod yX2_init, Cond.code yX2_init cX2_init 4 none]
def wsX3_put_r2 : List Cond := [Cond.methodLink RX2 3 objectInit, Cond.instanceMethod objectInit, Cond.code objectInit ⟨#[0xb1]⟩ 1 none, Cond.arrayClass .long, Cond.fieldLink RX2 9 "LazyState$Body" "cells" "[J", Cond.arrayClass .int, Cond.fieldLink RX2 15 "LazyState$Body" "items" "[I", Cond.fieldLink RX2 19 "LazyState$Body" "type" "I", Cond.fieldLink RX2 23 "LazyState$Body" "SORTS" "[I", Cond.constantLong RX2 26 (-3), Cond.methodLink RX3 106 yX2_copyFrom, Cond.instanceMethod yX2_copyFrom, Cond.selects RX2 yX2_copyFrom yX2_copyFrom, Cond.code yX2_copyFrom cX2_copyFrom 2 none, Cond.methodLink RX2 40 arraycopyName, Cond.native arraycopyName, Cond.static arraycopyName, Cond.initialized "java/lang/System", Cond.methodLink RX3 168 yX2_sortOf, Cond.instanceMethod yX2_sortOf, Cond.selects RX2 yX2_sortOf yX2_sortOf, Cond.code yX2_sortOf cX2_sortOf 2 (some .int), Cond.methodLink RX3 187 yX3_change, Cond.instanceMethod yX3_change]
def wsX3_put_r3 : List Cond := [Cond.selects RX3 yX3_change yX3_change, Cond.code yX3_change cX3_change 3 (some (.object "LazyState$Body")), Cond.fieldLink RX3 12 "LazyState$Run" "trace" "LLazyState$Trace;", Cond.methodLink RX3 174 yX4_noteChanged, Cond.instanceMethod yX4_noteChanged, Cond.selects RX4 yX4_noteChanged yX4_noteChanged, Cond.initialized RX4, Cond.code yX4_noteChanged cX4_noteChanged 3 none, Cond.fieldLink RX4 18 "LazyState$Trace" "changedBits" "[I", Cond.fieldLink RX4 9 "LazyState$Trace" "entries" "[I", Cond.fieldLink RX4 21 "LazyState$Trace" "count" "I", Cond.fieldLink RX4 25 "LazyState$Trace" "changedCount" "I"]
def wsX3_put : List Cond := .code yX3_put cX3_put 7 (some .int) :: ((wsX3_put_r1 ++ (wsX3_put_r2 ++ wsX3_put_r3)) ++ wsX20 ++ wsX30 ++ wsX40)
def wsX3_follow_r1 : List Cond := [Cond.fieldLink RX3 28 "LazyState$Run" "handles" "[I", Cond.fieldLink RX3 184 "LazyState$Body" "cells" "[J", Cond.methodLink RX3 177 yX3_ask, Cond.instanceMethod yX3_ask, Cond.selects RX3 yX3_ask yX3_ask, Cond.initialized RX3, Cond.code yX3_ask cX3_ask 6 (some .int), Cond.fieldLink RX3 24 "LazyState$Run" "copies" "[LLazyState$Body;", Cond.methodLink RX3 64 yX3_load, Cond.instanceMethod yX3_load, Cond.selects RX3 yX3_load yX3_load, Cond.code yX3_load cX3_load 2 none, Cond.fieldLink RX3 42 "LazyState$Run" "loadedBits" "I", Cond.classLink RX3 22 RX2, Cond.instantiable RX2 5, Cond.initialized RX2, Cond.fieldLink RX3 36 "LazyState$Run" "state" "[LLazyState$Body;", Cond.fieldLink RX3 101 "LazyState$Body" "type" "I", Cond.static yX5_bitOf, Cond.initialized RX5, Cond.code yX5_bitOf cX5_bitOf 2 (some .int), Cond.methodLink RX3 104 yX2_init, Cond.instanceMethod yX2_init, Cond.code yX2_init cX2_init 4 none]
def wsX3_follow_r2 : List Cond := [Cond.methodLink RX2 3 objectInit, Cond.instanceMethod objectInit, Cond.code objectInit ⟨#[0xb1]⟩ 1 none, Cond.arrayClass .long, Cond.fieldLink RX2 9 "LazyState$Body" "cells" "[J", Cond.arrayClass .int, Cond.fieldLink RX2 15 "LazyState$Body" "items" "[I", Cond.fieldLink RX2 19 "LazyState$Body" "type" "I", Cond.fieldLink RX2 23 "LazyState$Body" "SORTS" "[I", Cond.constantLong RX2 26 (-3), Cond.methodLink RX3 106 yX2_copyFrom, Cond.instanceMethod yX2_copyFrom, Cond.selects RX2 yX2_copyFrom yX2_copyFrom, Cond.code yX2_copyFrom cX2_copyFrom 2 none, Cond.methodLink RX2 40 arraycopyName, Cond.native arraycopyName, Cond.static arraycopyName, Cond.initialized "java/lang/System", Cond.methodLink RX3 168 yX2_sortOf, Cond.instanceMethod yX2_sortOf, Cond.selects RX2 yX2_sortOf yX2_sortOf, Cond.code yX2_sortOf cX2_sortOf 2 (some .int), Cond.methodLink RX3 180 yX3_read, Cond.instanceMethod yX3_read]
def wsX3_follow_r3 : List Cond := [Cond.selects RX3 yX3_read yX3_read, Cond.code yX3_read cX3_read 3 (some (.object "LazyState$Body")), Cond.fieldLink RX3 12 "LazyState$Run" "trace" "LLazyState$Trace;", Cond.methodLink RX3 171 yX4_noteRead, Cond.instanceMethod yX4_noteRead, Cond.selects RX4 yX4_noteRead yX4_noteRead, Cond.initialized RX4, Cond.code yX4_noteRead cX4_noteRead 3 none, Cond.fieldLink RX4 15 "LazyState$Trace" "readBits" "[I", Cond.fieldLink RX4 9 "LazyState$Trace" "entries" "[I", Cond.fieldLink RX4 21 "LazyState$Trace" "count" "I"]
def wsX3_follow : List Cond := .code yX3_follow cX3_follow 5 (some .int) :: ((wsX3_follow_r1 ++ (wsX3_follow_r2 ++ wsX3_follow_r3)) ++ wsX30 ++ wsX20 ++ wsX40)
def wsX3_itemRefusal : List Cond := .code yX3_itemRefusal cX3_itemRefusal 4 (some .int) :: ([.fieldLink RX3 184 "LazyState$Body" "cells" "[J", .constantLong RX3 200 (-3), .methodLink RX3 202 yX2_hasItem, .instanceMethod yX2_hasItem, .selects RX2 yX2_hasItem yX2_hasItem, .initialized RX2, .code yX2_hasItem cX2_hasItem 4 (some .boolean), .fieldLink RX2 9 "LazyState$Body" "cells" "[J"] ++ wsX20)
def wsX3_getItem_r1 : List Cond := [Cond.fieldLink RX3 32 "LazyState$Run" "values" "[J", Cond.fieldLink RX3 194 "LazyState$Body" "items" "[I", Cond.methodLink RX3 177 yX3_ask, Cond.instanceMethod yX3_ask, Cond.selects RX3 yX3_ask yX3_ask, Cond.initialized RX3, Cond.code yX3_ask cX3_ask 6 (some .int), Cond.fieldLink RX3 28 "LazyState$Run" "handles" "[I", Cond.fieldLink RX3 24 "LazyState$Run" "copies" "[LLazyState$Body;", Cond.methodLink RX3 64 yX3_load, Cond.instanceMethod yX3_load, Cond.selects RX3 yX3_load yX3_load, Cond.code yX3_load cX3_load 2 none, Cond.fieldLink RX3 42 "LazyState$Run" "loadedBits" "I", Cond.classLink RX3 22 RX2, Cond.instantiable RX2 5, Cond.initialized RX2, Cond.fieldLink RX3 36 "LazyState$Run" "state" "[LLazyState$Body;", Cond.fieldLink RX3 101 "LazyState$Body" "type" "I", Cond.static yX5_bitOf, Cond.initialized RX5, Cond.code yX5_bitOf cX5_bitOf 2 (some .int), Cond.methodLink RX3 104 yX2_init, Cond.instanceMethod yX2_init]
def wsX3_getItem_r2 : List Cond := [Cond.code yX2_init cX2_init 4 none, Cond.methodLink RX2 3 objectInit, Cond.instanceMethod objectInit, Cond.code objectInit ⟨#[0xb1]⟩ 1 none, Cond.arrayClass .long, Cond.fieldLink RX2 9 "LazyState$Body" "cells" "[J", Cond.arrayClass .int, Cond.fieldLink RX2 15 "LazyState$Body" "items" "[I", Cond.fieldLink RX2 19 "LazyState$Body" "type" "I", Cond.fieldLink RX2 23 "LazyState$Body" "SORTS" "[I", Cond.constantLong RX2 26 (-3), Cond.methodLink RX3 106 yX2_copyFrom, Cond.instanceMethod yX2_copyFrom, Cond.selects RX2 yX2_copyFrom yX2_copyFrom, Cond.code yX2_copyFrom cX2_copyFrom 2 none, Cond.methodLink RX2 40 arraycopyName, Cond.native arraycopyName, Cond.static arraycopyName, Cond.initialized "java/lang/System", Cond.methodLink RX3 168 yX2_sortOf, Cond.instanceMethod yX2_sortOf, Cond.selects RX2 yX2_sortOf yX2_sortOf, Cond.code yX2_sortOf cX2_sortOf 2 (some .int), Cond.methodLink RX3 180 yX3_read]
def wsX3_getItem_r3 : List Cond := [Cond.instanceMethod yX3_read, Cond.selects RX3 yX3_read yX3_read, Cond.code yX3_read cX3_read 3 (some (.object "LazyState$Body")), Cond.fieldLink RX3 12 "LazyState$Run" "trace" "LLazyState$Trace;", Cond.methodLink RX3 171 yX4_noteRead, Cond.instanceMethod yX4_noteRead, Cond.selects RX4 yX4_noteRead yX4_noteRead, Cond.initialized RX4, Cond.code yX4_noteRead cX4_noteRead 3 none, Cond.fieldLink RX4 15 "LazyState$Trace" "readBits" "[I", Cond.fieldLink RX4 9 "LazyState$Trace" "entries" "[I", Cond.fieldLink RX4 21 "LazyState$Trace" "count" "I", Cond.methodLink RX3 190 yX3_itemRefusal, Cond.static yX3_itemRefusal, Cond.code yX3_itemRefusal cX3_itemRefusal 4 (some .int), Cond.fieldLink RX3 184 "LazyState$Body" "cells" "[J", Cond.constantLong RX3 200 (-3), Cond.methodLink RX3 202 yX2_hasItem, Cond.instanceMethod yX2_hasItem, Cond.selects RX2 yX2_hasItem yX2_hasItem, Cond.code yX2_hasItem cX2_hasItem 4 (some .boolean), Cond.methodLink RX3 197 yX2_itemPlace, Cond.static yX2_itemPlace, Cond.code yX2_itemPlace cX2_itemPlace 2 (some .int)]
def wsX3_getItem_r4 : List Cond := [Cond.methodLink RX3 124 yX3_setValue, Cond.instanceMethod yX3_setValue, Cond.selects RX3 yX3_setValue yX3_setValue, Cond.code yX3_setValue cX3_setValue 4 (some .int)]
def wsX3_getItem : List Cond := .code yX3_getItem cX3_getItem 7 (some .int) :: ((wsX3_getItem_r1 ++ (wsX3_getItem_r2 ++ (wsX3_getItem_r3 ++ wsX3_getItem_r4))) ++ wsX30 ++ wsX20 ++ wsX40)
def wsX3_lay_r1 : List Cond := [Cond.fieldLink RX3 32 "LazyState$Run" "values" "[J", Cond.fieldLink RX3 194 "LazyState$Body" "items" "[I", Cond.methodLink RX3 177 yX3_ask, Cond.instanceMethod yX3_ask, Cond.selects RX3 yX3_ask yX3_ask, Cond.initialized RX3, Cond.code yX3_ask cX3_ask 6 (some .int), Cond.fieldLink RX3 28 "LazyState$Run" "handles" "[I", Cond.fieldLink RX3 24 "LazyState$Run" "copies" "[LLazyState$Body;", Cond.methodLink RX3 64 yX3_load, Cond.instanceMethod yX3_load, Cond.selects RX3 yX3_load yX3_load, Cond.code yX3_load cX3_load 2 none, Cond.fieldLink RX3 42 "LazyState$Run" "loadedBits" "I", Cond.classLink RX3 22 RX2, Cond.instantiable RX2 5, Cond.initialized RX2, Cond.fieldLink RX3 36 "LazyState$Run" "state" "[LLazyState$Body;", Cond.fieldLink RX3 101 "LazyState$Body" "type" "I", Cond.static yX5_bitOf, Cond.initialized RX5, Cond.code yX5_bitOf cX5_bitOf 2 (some .int), Cond.methodLink RX3 104 yX2_init, Cond.instanceMethod yX2_init]
def wsX3_lay_r2 : List Cond := [Cond.code yX2_init cX2_init 4 none, Cond.methodLink RX2 3 objectInit, Cond.instanceMethod objectInit, Cond.code objectInit ⟨#[0xb1]⟩ 1 none, Cond.arrayClass .long, Cond.fieldLink RX2 9 "LazyState$Body" "cells" "[J", Cond.arrayClass .int, Cond.fieldLink RX2 15 "LazyState$Body" "items" "[I", Cond.fieldLink RX2 19 "LazyState$Body" "type" "I", Cond.fieldLink RX2 23 "LazyState$Body" "SORTS" "[I", Cond.constantLong RX2 26 (-3), Cond.methodLink RX3 106 yX2_copyFrom, Cond.instanceMethod yX2_copyFrom, Cond.selects RX2 yX2_copyFrom yX2_copyFrom, Cond.code yX2_copyFrom cX2_copyFrom 2 none, Cond.methodLink RX2 40 arraycopyName, Cond.native arraycopyName, Cond.static arraycopyName, Cond.initialized "java/lang/System", Cond.methodLink RX3 168 yX2_sortOf, Cond.instanceMethod yX2_sortOf, Cond.selects RX2 yX2_sortOf yX2_sortOf, Cond.code yX2_sortOf cX2_sortOf 2 (some .int), Cond.methodLink RX3 180 yX3_read]
def wsX3_lay_r3 : List Cond := [Cond.instanceMethod yX3_read, Cond.selects RX3 yX3_read yX3_read, Cond.code yX3_read cX3_read 3 (some (.object "LazyState$Body")), Cond.fieldLink RX3 12 "LazyState$Run" "trace" "LLazyState$Trace;", Cond.methodLink RX3 171 yX4_noteRead, Cond.instanceMethod yX4_noteRead, Cond.selects RX4 yX4_noteRead yX4_noteRead, Cond.initialized RX4, Cond.code yX4_noteRead cX4_noteRead 3 none, Cond.fieldLink RX4 15 "LazyState$Trace" "readBits" "[I", Cond.fieldLink RX4 9 "LazyState$Trace" "entries" "[I", Cond.fieldLink RX4 21 "LazyState$Trace" "count" "I", Cond.methodLink RX3 190 yX3_itemRefusal, Cond.static yX3_itemRefusal, Cond.code yX3_itemRefusal cX3_itemRefusal 4 (some .int), Cond.fieldLink RX3 184 "LazyState$Body" "cells" "[J", Cond.constantLong RX3 200 (-3), Cond.methodLink RX3 202 yX2_hasItem, Cond.instanceMethod yX2_hasItem, Cond.selects RX2 yX2_hasItem yX2_hasItem, Cond.code yX2_hasItem cX2_hasItem 4 (some .boolean), Cond.methodLink RX3 187 yX3_change, Cond.instanceMethod yX3_change, Cond.selects RX3 yX3_change yX3_change]
def wsX3_lay_r4 : List Cond := [Cond.code yX3_change cX3_change 3 (some (.object "LazyState$Body")), Cond.methodLink RX3 174 yX4_noteChanged, Cond.instanceMethod yX4_noteChanged, Cond.selects RX4 yX4_noteChanged yX4_noteChanged, Cond.code yX4_noteChanged cX4_noteChanged 3 none, Cond.fieldLink RX4 18 "LazyState$Trace" "changedBits" "[I", Cond.fieldLink RX4 25 "LazyState$Trace" "changedCount" "I", Cond.methodLink RX3 197 yX2_itemPlace, Cond.static yX2_itemPlace, Cond.code yX2_itemPlace cX2_itemPlace 2 (some .int)]
def wsX3_lay : List Cond := .code yX3_lay cX3_lay 6 (some .int) :: ((wsX3_lay_r1 ++ (wsX3_lay_r2 ++ (wsX3_lay_r3 ++ wsX3_lay_r4))) ++ wsX30 ++ wsX20 ++ wsX40)
def wsX3_renew_r1 : List Cond := [Cond.constantLong RX3 206 (8), Cond.methodLink RX3 177 yX3_ask, Cond.instanceMethod yX3_ask, Cond.selects RX3 yX3_ask yX3_ask, Cond.initialized RX3, Cond.code yX3_ask cX3_ask 6 (some .int), Cond.fieldLink RX3 28 "LazyState$Run" "handles" "[I", Cond.fieldLink RX3 24 "LazyState$Run" "copies" "[LLazyState$Body;", Cond.methodLink RX3 64 yX3_load, Cond.instanceMethod yX3_load, Cond.selects RX3 yX3_load yX3_load, Cond.code yX3_load cX3_load 2 none, Cond.fieldLink RX3 42 "LazyState$Run" "loadedBits" "I", Cond.classLink RX3 22 RX2, Cond.instantiable RX2 5, Cond.initialized RX2, Cond.fieldLink RX3 36 "LazyState$Run" "state" "[LLazyState$Body;", Cond.fieldLink RX3 101 "LazyState$Body" "type" "I", Cond.static yX5_bitOf, Cond.initialized RX5, Cond.code yX5_bitOf cX5_bitOf 2 (some .int), Cond.methodLink RX3 104 yX2_init, Cond.instanceMethod yX2_init, Cond.code yX2_init cX2_init 4 none]
def wsX3_renew_r2 : List Cond := [Cond.methodLink RX2 3 objectInit, Cond.instanceMethod objectInit, Cond.code objectInit ⟨#[0xb1]⟩ 1 none, Cond.arrayClass .long, Cond.fieldLink RX2 9 "LazyState$Body" "cells" "[J", Cond.arrayClass .int, Cond.fieldLink RX2 15 "LazyState$Body" "items" "[I", Cond.fieldLink RX2 19 "LazyState$Body" "type" "I", Cond.fieldLink RX2 23 "LazyState$Body" "SORTS" "[I", Cond.constantLong RX2 26 (-3), Cond.methodLink RX3 106 yX2_copyFrom, Cond.instanceMethod yX2_copyFrom, Cond.selects RX2 yX2_copyFrom yX2_copyFrom, Cond.code yX2_copyFrom cX2_copyFrom 2 none, Cond.methodLink RX2 40 arraycopyName, Cond.native arraycopyName, Cond.static arraycopyName, Cond.initialized "java/lang/System", Cond.methodLink RX3 168 yX2_sortOf, Cond.instanceMethod yX2_sortOf, Cond.selects RX2 yX2_sortOf yX2_sortOf, Cond.code yX2_sortOf cX2_sortOf 2 (some .int), Cond.methodLink RX3 187 yX3_change, Cond.instanceMethod yX3_change]
def wsX3_renew_r3 : List Cond := [Cond.selects RX3 yX3_change yX3_change, Cond.code yX3_change cX3_change 3 (some (.object "LazyState$Body")), Cond.fieldLink RX3 12 "LazyState$Run" "trace" "LLazyState$Trace;", Cond.methodLink RX3 174 yX4_noteChanged, Cond.instanceMethod yX4_noteChanged, Cond.selects RX4 yX4_noteChanged yX4_noteChanged, Cond.initialized RX4, Cond.code yX4_noteChanged cX4_noteChanged 3 none, Cond.fieldLink RX4 18 "LazyState$Trace" "changedBits" "[I", Cond.fieldLink RX4 9 "LazyState$Trace" "entries" "[I", Cond.fieldLink RX4 21 "LazyState$Trace" "count" "I", Cond.fieldLink RX4 25 "LazyState$Trace" "changedCount" "I", Cond.methodLink RX3 208 yX2_renewRow, Cond.instanceMethod yX2_renewRow, Cond.selects RX2 yX2_renewRow yX2_renewRow, Cond.code yX2_renewRow cX2_renewRow 4 none, Cond.methodLink RX2 28 yX2_itemPlace, Cond.static yX2_itemPlace, Cond.code yX2_itemPlace cX2_itemPlace 2 (some .int)]
def wsX3_renew : List Cond := .code yX3_renew cX3_renew 6 (some .int) :: ((wsX3_renew_r1 ++ (wsX3_renew_r2 ++ wsX3_renew_r3)) ++ wsX30 ++ wsX20 ++ wsX40)
def wsX3_shift_r1 : List Cond := [Cond.fieldLink RX3 115 "LazyState$Act" "b" "J", Cond.fieldLink RX3 110 "LazyState$Act" "a" "I", Cond.fieldLink RX3 139 "LazyState$Act" "d" "I", Cond.fieldLink RX3 118 "LazyState$Act" "c" "I", Cond.fieldLink RX3 184 "LazyState$Body" "cells" "[J", Cond.constantLong RX3 200 (-3), Cond.fieldLink RX3 32 "LazyState$Run" "values" "[J", Cond.fieldLink RX3 211 "LazyState$Act" "e" "I", Cond.fieldLink RX3 194 "LazyState$Body" "items" "[I", Cond.methodLink RX3 214 arraycopyName, Cond.native arraycopyName, Cond.static arraycopyName, Cond.initialized "java/lang/System", Cond.methodLink RX3 177 yX3_ask, Cond.instanceMethod yX3_ask, Cond.selects RX3 yX3_ask yX3_ask, Cond.initialized RX3, Cond.code yX3_ask cX3_ask 6 (some .int), Cond.fieldLink RX3 28 "LazyState$Run" "handles" "[I", Cond.fieldLink RX3 24 "LazyState$Run" "copies" "[LLazyState$Body;", Cond.methodLink RX3 64 yX3_load, Cond.instanceMethod yX3_load, Cond.selects RX3 yX3_load yX3_load, Cond.code yX3_load cX3_load 2 none]
def wsX3_shift_r2 : List Cond := [Cond.fieldLink RX3 42 "LazyState$Run" "loadedBits" "I", Cond.classLink RX3 22 RX2, Cond.instantiable RX2 5, Cond.initialized RX2, Cond.fieldLink RX3 36 "LazyState$Run" "state" "[LLazyState$Body;", Cond.fieldLink RX3 101 "LazyState$Body" "type" "I", Cond.static yX5_bitOf, Cond.initialized RX5, Cond.code yX5_bitOf cX5_bitOf 2 (some .int), Cond.methodLink RX3 104 yX2_init, Cond.instanceMethod yX2_init, Cond.code yX2_init cX2_init 4 none, Cond.methodLink RX2 3 objectInit, Cond.instanceMethod objectInit, Cond.code objectInit ⟨#[0xb1]⟩ 1 none, Cond.arrayClass .long, Cond.fieldLink RX2 9 "LazyState$Body" "cells" "[J", Cond.arrayClass .int, Cond.fieldLink RX2 15 "LazyState$Body" "items" "[I", Cond.fieldLink RX2 19 "LazyState$Body" "type" "I", Cond.fieldLink RX2 23 "LazyState$Body" "SORTS" "[I", Cond.constantLong RX2 26 (-3), Cond.methodLink RX3 106 yX2_copyFrom, Cond.instanceMethod yX2_copyFrom]
def wsX3_shift_r3 : List Cond := [Cond.selects RX2 yX2_copyFrom yX2_copyFrom, Cond.code yX2_copyFrom cX2_copyFrom 2 none, Cond.methodLink RX2 40 arraycopyName, Cond.methodLink RX3 168 yX2_sortOf, Cond.instanceMethod yX2_sortOf, Cond.selects RX2 yX2_sortOf yX2_sortOf, Cond.code yX2_sortOf cX2_sortOf 2 (some .int), Cond.methodLink RX3 180 yX3_read, Cond.instanceMethod yX3_read, Cond.selects RX3 yX3_read yX3_read, Cond.code yX3_read cX3_read 3 (some (.object "LazyState$Body")), Cond.fieldLink RX3 12 "LazyState$Run" "trace" "LLazyState$Trace;", Cond.methodLink RX3 171 yX4_noteRead, Cond.instanceMethod yX4_noteRead, Cond.selects RX4 yX4_noteRead yX4_noteRead, Cond.initialized RX4, Cond.code yX4_noteRead cX4_noteRead 3 none, Cond.fieldLink RX4 15 "LazyState$Trace" "readBits" "[I", Cond.fieldLink RX4 9 "LazyState$Trace" "entries" "[I", Cond.fieldLink RX4 21 "LazyState$Trace" "count" "I", Cond.methodLink RX3 187 yX3_change, Cond.instanceMethod yX3_change, Cond.selects RX3 yX3_change yX3_change, Cond.code yX3_change cX3_change 3 (some (.object "LazyState$Body"))]
def wsX3_shift_r4 : List Cond := [Cond.methodLink RX3 174 yX4_noteChanged, Cond.instanceMethod yX4_noteChanged, Cond.selects RX4 yX4_noteChanged yX4_noteChanged, Cond.code yX4_noteChanged cX4_noteChanged 3 none, Cond.fieldLink RX4 18 "LazyState$Trace" "changedBits" "[I", Cond.fieldLink RX4 25 "LazyState$Trace" "changedCount" "I", Cond.methodLink RX3 197 yX2_itemPlace, Cond.static yX2_itemPlace, Cond.code yX2_itemPlace cX2_itemPlace 2 (some .int)]
def wsX3_shift : List Cond := .code yX3_shift cX3_shift 9 (some .int) :: ((wsX3_shift_r1 ++ (wsX3_shift_r2 ++ (wsX3_shift_r3 ++ wsX3_shift_r4))) ++ wsX00 ++ wsX20 ++ wsX30 ++ wsX40)
def wsX3_areAlike_r1 : List Cond := [Cond.fieldLink RX3 36 "LazyState$Run" "state" "[LLazyState$Body;", Cond.fieldLink RX3 101 "LazyState$Body" "type" "I", Cond.fieldLink RX3 24 "LazyState$Run" "copies" "[LLazyState$Body;", Cond.fieldLink RX3 12 "LazyState$Run" "trace" "LLazyState$Trace;", Cond.methodLink RX3 64 yX3_load, Cond.instanceMethod yX3_load, Cond.selects RX3 yX3_load yX3_load, Cond.initialized RX3, Cond.code yX3_load cX3_load 2 none, Cond.fieldLink RX3 42 "LazyState$Run" "loadedBits" "I", Cond.classLink RX3 22 RX2, Cond.instantiable RX2 5, Cond.initialized RX2, Cond.static yX5_bitOf, Cond.initialized RX5, Cond.code yX5_bitOf cX5_bitOf 2 (some .int), Cond.methodLink RX3 104 yX2_init, Cond.instanceMethod yX2_init, Cond.code yX2_init cX2_init 4 none, Cond.methodLink RX2 3 objectInit, Cond.instanceMethod objectInit, Cond.code objectInit ⟨#[0xb1]⟩ 1 none, Cond.arrayClass .long, Cond.fieldLink RX2 9 "LazyState$Body" "cells" "[J"]
def wsX3_areAlike_r2 : List Cond := [Cond.arrayClass .int, Cond.fieldLink RX2 15 "LazyState$Body" "items" "[I", Cond.fieldLink RX2 19 "LazyState$Body" "type" "I", Cond.fieldLink RX2 23 "LazyState$Body" "SORTS" "[I", Cond.constantLong RX2 26 (-3), Cond.methodLink RX3 106 yX2_copyFrom, Cond.instanceMethod yX2_copyFrom, Cond.selects RX2 yX2_copyFrom yX2_copyFrom, Cond.code yX2_copyFrom cX2_copyFrom 2 none, Cond.methodLink RX2 40 arraycopyName, Cond.native arraycopyName, Cond.static arraycopyName, Cond.initialized "java/lang/System", Cond.methodLink RX3 168 yX2_sortOf, Cond.instanceMethod yX2_sortOf, Cond.selects RX2 yX2_sortOf yX2_sortOf, Cond.code yX2_sortOf cX2_sortOf 2 (some .int), Cond.methodLink RX3 171 yX4_noteRead, Cond.instanceMethod yX4_noteRead, Cond.selects RX4 yX4_noteRead yX4_noteRead, Cond.initialized RX4, Cond.code yX4_noteRead cX4_noteRead 3 none, Cond.fieldLink RX4 15 "LazyState$Trace" "readBits" "[I", Cond.fieldLink RX4 9 "LazyState$Trace" "entries" "[I"]
def wsX3_areAlike_r3 : List Cond := [Cond.fieldLink RX4 21 "LazyState$Trace" "count" "I", Cond.methodLink RX3 93 yX2_hasSameField, Cond.instanceMethod yX2_hasSameField, Cond.selects RX2 yX2_hasSameField yX2_hasSameField, Cond.code yX2_hasSameField cX2_hasSameField 3 (some .boolean), Cond.methodLink RX2 32 yX2_sortOf, Cond.methodLink RX2 36 yX2_hasSameItems, Cond.instanceMethod yX2_hasSameItems, Cond.selects RX2 yX2_hasSameItems yX2_hasSameItems, Cond.code yX2_hasSameItems cX2_hasSameItems 4 (some .boolean), Cond.methodLink RX2 28 yX2_itemPlace, Cond.static yX2_itemPlace, Cond.code yX2_itemPlace cX2_itemPlace 2 (some .int)]
def wsX3_areAlike : List Cond := .code yX3_areAlike cX3_areAlike 4 (some .boolean) :: ((wsX3_areAlike_r1 ++ (wsX3_areAlike_r2 ++ wsX3_areAlike_r3)) ++ wsX30 ++ wsX20 ++ wsX40)
def wsX3_goOnAt : List Cond := .code yX3_goOnAt cX3_goOnAt 2 (some .int) :: ([.fieldLink RX3 78 "LazyState$Run" "next" "I"] ++ wsX30)
def wsX3_end : List Cond := .code yX3_end cX3_end 3 (some .int) :: ([.fieldLink RX3 48 "LazyState$Run" "gift" "J", .methodLink RX3 160 yX3_goOnAt, .instanceMethod yX3_goOnAt, .selects RX3 yX3_goOnAt yX3_goOnAt, .initialized RX3, .code yX3_goOnAt cX3_goOnAt 2 (some .int), .fieldLink RX3 78 "LazyState$Run" "next" "I"] ++ wsX30)
def wsX3_perform_r1 : List Cond := [Cond.fieldLink RX3 110 "LazyState$Act" "a" "I", Cond.fieldLink RX3 115 "LazyState$Act" "b" "J", Cond.fieldLink RX3 118 "LazyState$Act" "c" "I", Cond.fieldLink RX3 121 "LazyState$Act" "kind" "I", Cond.fieldLink RX3 32 "LazyState$Run" "values" "[J", Cond.fieldLink RX3 28 "LazyState$Run" "handles" "[I", Cond.fieldLink RX3 139 "LazyState$Act" "d" "I", Cond.methodLink RX3 124 yX3_setValue, Cond.instanceMethod yX3_setValue, Cond.selects RX3 yX3_setValue yX3_setValue, Cond.initialized RX3, Cond.code yX3_setValue cX3_setValue 4 (some .int), Cond.methodLink RX3 128 yX3_get, Cond.instanceMethod yX3_get, Cond.selects RX3 yX3_get yX3_get, Cond.code yX3_get cX3_get 5 (some .int), Cond.fieldLink RX3 184 "LazyState$Body" "cells" "[J", Cond.methodLink RX3 177 yX3_ask, Cond.instanceMethod yX3_ask, Cond.selects RX3 yX3_ask yX3_ask, Cond.code yX3_ask cX3_ask 6 (some .int), Cond.fieldLink RX3 24 "LazyState$Run" "copies" "[LLazyState$Body;", Cond.methodLink RX3 64 yX3_load, Cond.instanceMethod yX3_load]
def wsX3_perform_r2 : List Cond := [Cond.selects RX3 yX3_load yX3_load, Cond.code yX3_load cX3_load 2 none, Cond.fieldLink RX3 42 "LazyState$Run" "loadedBits" "I", Cond.classLink RX3 22 RX2, Cond.instantiable RX2 5, Cond.initialized RX2, Cond.fieldLink RX3 36 "LazyState$Run" "state" "[LLazyState$Body;", Cond.fieldLink RX3 101 "LazyState$Body" "type" "I", Cond.static yX5_bitOf, Cond.initialized RX5, Cond.code yX5_bitOf cX5_bitOf 2 (some .int), Cond.methodLink RX3 104 yX2_init, Cond.instanceMethod yX2_init, Cond.code yX2_init cX2_init 4 none, Cond.methodLink RX2 3 objectInit, Cond.instanceMethod objectInit, Cond.code objectInit ⟨#[0xb1]⟩ 1 none, Cond.arrayClass .long, Cond.fieldLink RX2 9 "LazyState$Body" "cells" "[J", Cond.arrayClass .int, Cond.fieldLink RX2 15 "LazyState$Body" "items" "[I", Cond.fieldLink RX2 19 "LazyState$Body" "type" "I", Cond.fieldLink RX2 23 "LazyState$Body" "SORTS" "[I", Cond.constantLong RX2 26 (-3)]
def wsX3_perform_r3 : List Cond := [Cond.methodLink RX3 106 yX2_copyFrom, Cond.instanceMethod yX2_copyFrom, Cond.selects RX2 yX2_copyFrom yX2_copyFrom, Cond.code yX2_copyFrom cX2_copyFrom 2 none, Cond.methodLink RX2 40 arraycopyName, Cond.native arraycopyName, Cond.static arraycopyName, Cond.initialized "java/lang/System", Cond.methodLink RX3 168 yX2_sortOf, Cond.instanceMethod yX2_sortOf, Cond.selects RX2 yX2_sortOf yX2_sortOf, Cond.code yX2_sortOf cX2_sortOf 2 (some .int), Cond.methodLink RX3 180 yX3_read, Cond.instanceMethod yX3_read, Cond.selects RX3 yX3_read yX3_read, Cond.code yX3_read cX3_read 3 (some (.object "LazyState$Body")), Cond.fieldLink RX3 12 "LazyState$Run" "trace" "LLazyState$Trace;", Cond.methodLink RX3 171 yX4_noteRead, Cond.instanceMethod yX4_noteRead, Cond.selects RX4 yX4_noteRead yX4_noteRead, Cond.initialized RX4, Cond.code yX4_noteRead cX4_noteRead 3 none, Cond.fieldLink RX4 15 "LazyState$Trace" "readBits" "[I", Cond.fieldLink RX4 9 "LazyState$Trace" "entries" "[I"]
def wsX3_perform_r4 : List Cond := [Cond.fieldLink RX4 21 "LazyState$Trace" "count" "I", Cond.methodLink RX3 132 yX3_put, Cond.instanceMethod yX3_put, Cond.selects RX3 yX3_put yX3_put, Cond.code yX3_put cX3_put 7 (some .int), Cond.methodLink RX3 187 yX3_change, Cond.instanceMethod yX3_change, Cond.selects RX3 yX3_change yX3_change, Cond.code yX3_change cX3_change 3 (some (.object "LazyState$Body")), Cond.methodLink RX3 174 yX4_noteChanged, Cond.instanceMethod yX4_noteChanged, Cond.selects RX4 yX4_noteChanged yX4_noteChanged, Cond.code yX4_noteChanged cX4_noteChanged 3 none, Cond.fieldLink RX4 18 "LazyState$Trace" "changedBits" "[I", Cond.fieldLink RX4 25 "LazyState$Trace" "changedCount" "I", Cond.methodLink RX3 136 yX3_follow, Cond.instanceMethod yX3_follow, Cond.selects RX3 yX3_follow yX3_follow, Cond.code yX3_follow cX3_follow 5 (some .int), Cond.methodLink RX3 142 yX3_getItem, Cond.instanceMethod yX3_getItem, Cond.selects RX3 yX3_getItem yX3_getItem, Cond.code yX3_getItem cX3_getItem 7 (some .int), Cond.fieldLink RX3 194 "LazyState$Body" "items" "[I"]
def wsX3_perform_r5 : List Cond := [Cond.methodLink RX3 190 yX3_itemRefusal, Cond.static yX3_itemRefusal, Cond.code yX3_itemRefusal cX3_itemRefusal 4 (some .int), Cond.constantLong RX3 200 (-3), Cond.methodLink RX3 202 yX2_hasItem, Cond.instanceMethod yX2_hasItem, Cond.selects RX2 yX2_hasItem yX2_hasItem, Cond.code yX2_hasItem cX2_hasItem 4 (some .boolean), Cond.methodLink RX3 197 yX2_itemPlace, Cond.static yX2_itemPlace, Cond.code yX2_itemPlace cX2_itemPlace 2 (some .int), Cond.methodLink RX3 146 yX3_lay, Cond.instanceMethod yX3_lay, Cond.selects RX3 yX3_lay yX3_lay, Cond.code yX3_lay cX3_lay 6 (some .int), Cond.methodLink RX3 149 yX3_renew, Cond.instanceMethod yX3_renew, Cond.selects RX3 yX3_renew yX3_renew, Cond.code yX3_renew cX3_renew 6 (some .int), Cond.constantLong RX3 206 (8), Cond.methodLink RX3 208 yX2_renewRow, Cond.instanceMethod yX2_renewRow, Cond.selects RX2 yX2_renewRow yX2_renewRow, Cond.code yX2_renewRow cX2_renewRow 4 none]
def wsX3_perform_r6 : List Cond := [Cond.methodLink RX2 28 yX2_itemPlace, Cond.methodLink RX3 153 yX3_shift, Cond.instanceMethod yX3_shift, Cond.selects RX3 yX3_shift yX3_shift, Cond.code yX3_shift cX3_shift 9 (some .int), Cond.fieldLink RX3 211 "LazyState$Act" "e" "I", Cond.methodLink RX3 214 arraycopyName, Cond.methodLink RX3 156 yX3_areAlike, Cond.instanceMethod yX3_areAlike, Cond.selects RX3 yX3_areAlike yX3_areAlike, Cond.code yX3_areAlike cX3_areAlike 4 (some .boolean), Cond.methodLink RX3 93 yX2_hasSameField, Cond.instanceMethod yX2_hasSameField, Cond.selects RX2 yX2_hasSameField yX2_hasSameField, Cond.code yX2_hasSameField cX2_hasSameField 3 (some .boolean), Cond.methodLink RX2 32 yX2_sortOf, Cond.methodLink RX2 36 yX2_hasSameItems, Cond.instanceMethod yX2_hasSameItems, Cond.selects RX2 yX2_hasSameItems yX2_hasSameItems, Cond.code yX2_hasSameItems cX2_hasSameItems 4 (some .boolean), Cond.methodLink RX3 160 yX3_goOnAt, Cond.instanceMethod yX3_goOnAt, Cond.selects RX3 yX3_goOnAt yX3_goOnAt, Cond.code yX3_goOnAt cX3_goOnAt 2 (some .int)]
def wsX3_perform_r7 : List Cond := [Cond.fieldLink RX3 78 "LazyState$Run" "next" "I", Cond.methodLink RX3 164 yX3_end, Cond.instanceMethod yX3_end, Cond.selects RX3 yX3_end yX3_end, Cond.code yX3_end cX3_end 3 (some .int), Cond.fieldLink RX3 48 "LazyState$Run" "gift" "J"]
def wsX3_perform : List Cond := .code yX3_perform cX3_perform 5 (some .int) :: ((wsX3_perform_r1 ++ (wsX3_perform_r2 ++ (wsX3_perform_r3 ++ (wsX3_perform_r4 ++ (wsX3_perform_r5 ++ (wsX3_perform_r6 ++ wsX3_perform_r7)))))) ++ wsX00 ++ wsX30 ++ wsX20 ++ wsX40)
def wsX3_work_r1 : List Cond := [Cond.fieldLink RX3 45 "LazyState$Run" "done" "I", Cond.fieldLink RX3 78 "LazyState$Run" "next" "I", Cond.methodLink RX3 68 yX1_actAt, Cond.instanceMethod yX1_actAt, Cond.selects RX1 yX1_actAt yX1_actAt, Cond.initialized RX1, Cond.code yX1_actAt cX1_actAt 2 (some (.object "LazyState$Act")), Cond.fieldLink RX1 17 "LazyState$Behaviour" "size" "I", Cond.fieldLink RX1 11 "LazyState$Behaviour" "acts" "[LLazyState$Act;", Cond.methodLink RX3 74 yX3_fail, Cond.instanceMethod yX3_fail, Cond.selects RX3 yX3_fail yX3_fail, Cond.initialized RX3, Cond.code yX3_fail cX3_fail 3 none, Cond.fieldLink RX3 52 "LazyState$Run" "thrown" "I", Cond.fieldLink RX3 18 "LazyState$Run" "thrownAt" "I", Cond.methodLink RX3 81 yX3_perform, Cond.instanceMethod yX3_perform, Cond.selects RX3 yX3_perform yX3_perform, Cond.code yX3_perform cX3_perform 5 (some .int), Cond.fieldLink RX3 110 "LazyState$Act" "a" "I", Cond.fieldLink RX3 115 "LazyState$Act" "b" "J", Cond.fieldLink RX3 118 "LazyState$Act" "c" "I", Cond.fieldLink RX3 121 "LazyState$Act" "kind" "I"]
def wsX3_work_r2 : List Cond := [Cond.fieldLink RX3 32 "LazyState$Run" "values" "[J", Cond.fieldLink RX3 28 "LazyState$Run" "handles" "[I", Cond.fieldLink RX3 139 "LazyState$Act" "d" "I", Cond.methodLink RX3 124 yX3_setValue, Cond.instanceMethod yX3_setValue, Cond.selects RX3 yX3_setValue yX3_setValue, Cond.code yX3_setValue cX3_setValue 4 (some .int), Cond.methodLink RX3 128 yX3_get, Cond.instanceMethod yX3_get, Cond.selects RX3 yX3_get yX3_get, Cond.code yX3_get cX3_get 5 (some .int), Cond.fieldLink RX3 184 "LazyState$Body" "cells" "[J", Cond.methodLink RX3 177 yX3_ask, Cond.instanceMethod yX3_ask, Cond.selects RX3 yX3_ask yX3_ask, Cond.code yX3_ask cX3_ask 6 (some .int), Cond.fieldLink RX3 24 "LazyState$Run" "copies" "[LLazyState$Body;", Cond.methodLink RX3 64 yX3_load, Cond.instanceMethod yX3_load, Cond.selects RX3 yX3_load yX3_load, Cond.code yX3_load cX3_load 2 none, Cond.fieldLink RX3 42 "LazyState$Run" "loadedBits" "I", Cond.classLink RX3 22 RX2, Cond.instantiable RX2 5]
def wsX3_work_r3 : List Cond := [Cond.initialized RX2, Cond.fieldLink RX3 36 "LazyState$Run" "state" "[LLazyState$Body;", Cond.fieldLink RX3 101 "LazyState$Body" "type" "I", Cond.static yX5_bitOf, Cond.initialized RX5, Cond.code yX5_bitOf cX5_bitOf 2 (some .int), Cond.methodLink RX3 104 yX2_init, Cond.instanceMethod yX2_init, Cond.code yX2_init cX2_init 4 none, Cond.methodLink RX2 3 objectInit, Cond.instanceMethod objectInit, Cond.code objectInit ⟨#[0xb1]⟩ 1 none, Cond.arrayClass .long, Cond.fieldLink RX2 9 "LazyState$Body" "cells" "[J", Cond.arrayClass .int, Cond.fieldLink RX2 15 "LazyState$Body" "items" "[I", Cond.fieldLink RX2 19 "LazyState$Body" "type" "I", Cond.fieldLink RX2 23 "LazyState$Body" "SORTS" "[I", Cond.constantLong RX2 26 (-3), Cond.methodLink RX3 106 yX2_copyFrom, Cond.instanceMethod yX2_copyFrom, Cond.selects RX2 yX2_copyFrom yX2_copyFrom, Cond.code yX2_copyFrom cX2_copyFrom 2 none, Cond.methodLink RX2 40 arraycopyName]
def wsX3_work_r4 : List Cond := [Cond.native arraycopyName, Cond.static arraycopyName, Cond.initialized "java/lang/System", Cond.methodLink RX3 168 yX2_sortOf, Cond.instanceMethod yX2_sortOf, Cond.selects RX2 yX2_sortOf yX2_sortOf, Cond.code yX2_sortOf cX2_sortOf 2 (some .int), Cond.methodLink RX3 180 yX3_read, Cond.instanceMethod yX3_read, Cond.selects RX3 yX3_read yX3_read, Cond.code yX3_read cX3_read 3 (some (.object "LazyState$Body")), Cond.fieldLink RX3 12 "LazyState$Run" "trace" "LLazyState$Trace;", Cond.methodLink RX3 171 yX4_noteRead, Cond.instanceMethod yX4_noteRead, Cond.selects RX4 yX4_noteRead yX4_noteRead, Cond.initialized RX4, Cond.code yX4_noteRead cX4_noteRead 3 none, Cond.fieldLink RX4 15 "LazyState$Trace" "readBits" "[I", Cond.fieldLink RX4 9 "LazyState$Trace" "entries" "[I", Cond.fieldLink RX4 21 "LazyState$Trace" "count" "I", Cond.methodLink RX3 132 yX3_put, Cond.instanceMethod yX3_put, Cond.selects RX3 yX3_put yX3_put, Cond.code yX3_put cX3_put 7 (some .int)]
def wsX3_work_r5 : List Cond := [Cond.methodLink RX3 187 yX3_change, Cond.instanceMethod yX3_change, Cond.selects RX3 yX3_change yX3_change, Cond.code yX3_change cX3_change 3 (some (.object "LazyState$Body")), Cond.methodLink RX3 174 yX4_noteChanged, Cond.instanceMethod yX4_noteChanged, Cond.selects RX4 yX4_noteChanged yX4_noteChanged, Cond.code yX4_noteChanged cX4_noteChanged 3 none, Cond.fieldLink RX4 18 "LazyState$Trace" "changedBits" "[I", Cond.fieldLink RX4 25 "LazyState$Trace" "changedCount" "I", Cond.methodLink RX3 136 yX3_follow, Cond.instanceMethod yX3_follow, Cond.selects RX3 yX3_follow yX3_follow, Cond.code yX3_follow cX3_follow 5 (some .int), Cond.methodLink RX3 142 yX3_getItem, Cond.instanceMethod yX3_getItem, Cond.selects RX3 yX3_getItem yX3_getItem, Cond.code yX3_getItem cX3_getItem 7 (some .int), Cond.fieldLink RX3 194 "LazyState$Body" "items" "[I", Cond.methodLink RX3 190 yX3_itemRefusal, Cond.static yX3_itemRefusal, Cond.code yX3_itemRefusal cX3_itemRefusal 4 (some .int), Cond.constantLong RX3 200 (-3), Cond.methodLink RX3 202 yX2_hasItem]
def wsX3_work_r6 : List Cond := [Cond.instanceMethod yX2_hasItem, Cond.selects RX2 yX2_hasItem yX2_hasItem, Cond.code yX2_hasItem cX2_hasItem 4 (some .boolean), Cond.methodLink RX3 197 yX2_itemPlace, Cond.static yX2_itemPlace, Cond.code yX2_itemPlace cX2_itemPlace 2 (some .int), Cond.methodLink RX3 146 yX3_lay, Cond.instanceMethod yX3_lay, Cond.selects RX3 yX3_lay yX3_lay, Cond.code yX3_lay cX3_lay 6 (some .int), Cond.methodLink RX3 149 yX3_renew, Cond.instanceMethod yX3_renew, Cond.selects RX3 yX3_renew yX3_renew, Cond.code yX3_renew cX3_renew 6 (some .int), Cond.constantLong RX3 206 (8), Cond.methodLink RX3 208 yX2_renewRow, Cond.instanceMethod yX2_renewRow, Cond.selects RX2 yX2_renewRow yX2_renewRow, Cond.code yX2_renewRow cX2_renewRow 4 none, Cond.methodLink RX2 28 yX2_itemPlace, Cond.methodLink RX3 153 yX3_shift, Cond.instanceMethod yX3_shift, Cond.selects RX3 yX3_shift yX3_shift, Cond.code yX3_shift cX3_shift 9 (some .int)]
def wsX3_work_r7 : List Cond := [Cond.fieldLink RX3 211 "LazyState$Act" "e" "I", Cond.methodLink RX3 214 arraycopyName, Cond.methodLink RX3 156 yX3_areAlike, Cond.instanceMethod yX3_areAlike, Cond.selects RX3 yX3_areAlike yX3_areAlike, Cond.code yX3_areAlike cX3_areAlike 4 (some .boolean), Cond.methodLink RX3 93 yX2_hasSameField, Cond.instanceMethod yX2_hasSameField, Cond.selects RX2 yX2_hasSameField yX2_hasSameField, Cond.code yX2_hasSameField cX2_hasSameField 3 (some .boolean), Cond.methodLink RX2 32 yX2_sortOf, Cond.methodLink RX2 36 yX2_hasSameItems, Cond.instanceMethod yX2_hasSameItems, Cond.selects RX2 yX2_hasSameItems yX2_hasSameItems, Cond.code yX2_hasSameItems cX2_hasSameItems 4 (some .boolean), Cond.methodLink RX3 160 yX3_goOnAt, Cond.instanceMethod yX3_goOnAt, Cond.selects RX3 yX3_goOnAt yX3_goOnAt, Cond.code yX3_goOnAt cX3_goOnAt 2 (some .int), Cond.methodLink RX3 164 yX3_end, Cond.instanceMethod yX3_end, Cond.selects RX3 yX3_end yX3_end, Cond.code yX3_end cX3_end 3 (some .int), Cond.fieldLink RX3 48 "LazyState$Run" "gift" "J"]
def wsX3_work : List Cond := .code yX3_work cX3_work 6 none :: ((wsX3_work_r1 ++ (wsX3_work_r2 ++ (wsX3_work_r3 ++ (wsX3_work_r4 ++ (wsX3_work_r5 ++ (wsX3_work_r6 ++ wsX3_work_r7)))))) ++ wsX30 ++ wsX10 ++ wsX00 ++ wsX20 ++ wsX40)
def wsX4_isSameAs : List Cond := .code yX4_isSameAs cX4_isSameAs 3 (some .boolean) :: ([.fieldLink RX4 21 "LazyState$Trace" "count" "I", .fieldLink RX4 9 "LazyState$Trace" "entries" "[I"] ++ wsX40)
def wsX3_endsLike : List Cond := .code yX3_endsLike cX3_endsLike 2 (some .boolean) :: ([.fieldLink RX3 52 "LazyState$Run" "thrown" "I", .fieldLink RX3 18 "LazyState$Run" "thrownAt" "I", .fieldLink RX3 48 "LazyState$Run" "gift" "J", .fieldLink RX3 12 "LazyState$Run" "trace" "LLazyState$Trace;", .methodLink RX3 85 yX4_isSameAs, .instanceMethod yX4_isSameAs, .selects RX4 yX4_isSameAs yX4_isSameAs, .initialized RX4, .code yX4_isSameAs cX4_isSameAs 3 (some .boolean), .fieldLink RX4 21 "LazyState$Trace" "count" "I", .fieldLink RX4 9 "LazyState$Trace" "entries" "[I"] ++ wsX30 ++ wsX40)
def wsX3_bodyOf : List Cond := .code yX3_bodyOf cX3_bodyOf 2 (some (.object "LazyState$Body")) :: ([.fieldLink RX3 42 "LazyState$Run" "loadedBits" "I", .fieldLink RX3 24 "LazyState$Run" "copies" "[LLazyState$Body;", .fieldLink RX3 36 "LazyState$Run" "state" "[LLazyState$Body;", .static yX5_bitOf, .initialized RX5, .code yX5_bitOf cX5_bitOf 2 (some .int)] ++ wsX30)
def wsX3_changesLike_r1 : List Cond := [Cond.fieldLink RX3 52 "LazyState$Run" "thrown" "I", Cond.methodLink RX3 89 yX3_bodyOf, Cond.instanceMethod yX3_bodyOf, Cond.selects RX3 yX3_bodyOf yX3_bodyOf, Cond.initialized RX3, Cond.code yX3_bodyOf cX3_bodyOf 2 (some (.object "LazyState$Body")), Cond.fieldLink RX3 42 "LazyState$Run" "loadedBits" "I", Cond.fieldLink RX3 24 "LazyState$Run" "copies" "[LLazyState$Body;", Cond.fieldLink RX3 36 "LazyState$Run" "state" "[LLazyState$Body;", Cond.static yX5_bitOf, Cond.initialized RX5, Cond.code yX5_bitOf cX5_bitOf 2 (some .int), Cond.methodLink RX3 93 yX2_hasSameField, Cond.instanceMethod yX2_hasSameField, Cond.selects RX2 yX2_hasSameField yX2_hasSameField, Cond.initialized RX2, Cond.code yX2_hasSameField cX2_hasSameField 3 (some .boolean), Cond.fieldLink RX2 9 "LazyState$Body" "cells" "[J", Cond.methodLink RX2 32 yX2_sortOf, Cond.instanceMethod yX2_sortOf, Cond.selects RX2 yX2_sortOf yX2_sortOf, Cond.code yX2_sortOf cX2_sortOf 2 (some .int), Cond.fieldLink RX2 23 "LazyState$Body" "SORTS" "[I", Cond.fieldLink RX2 19 "LazyState$Body" "type" "I"]
def wsX3_changesLike_r2 : List Cond := [Cond.methodLink RX2 36 yX2_hasSameItems, Cond.instanceMethod yX2_hasSameItems, Cond.selects RX2 yX2_hasSameItems yX2_hasSameItems, Cond.code yX2_hasSameItems cX2_hasSameItems 4 (some .boolean), Cond.fieldLink RX2 15 "LazyState$Body" "items" "[I", Cond.methodLink RX2 28 yX2_itemPlace, Cond.static yX2_itemPlace, Cond.code yX2_itemPlace cX2_itemPlace 2 (some .int)]
def wsX3_changesLike : List Cond := .code yX3_changesLike cX3_changesLike 5 (some .boolean) :: ((wsX3_changesLike_r1 ++ wsX3_changesLike_r2) ++ wsX30 ++ wsX20)
def wsX5_init_r1 : List Cond := [Cond.methodLink RX5 3 objectInit, Cond.instanceMethod objectInit, Cond.code objectInit ⟨#[0xb1]⟩ 1 none, Cond.classLink RX5 9 RX2, Cond.fieldLink RX5 11 "LazyState" "objects" "[LLazyState$Body;", Cond.classLink RX5 15 RX1, Cond.fieldLink RX5 17 "LazyState" "behaviours" "[LLazyState$Behaviour;", Cond.classLink RX5 21 RX3, Cond.instantiable RX3 11, Cond.initialized RX3, Cond.fieldLink RX5 24 "LazyState" "latest" "LLazyState$Run;", Cond.fieldLink RX5 28 "LazyState" "lazy" "LLazyState$Run;", Cond.fieldLink RX5 31 "LazyState" "eager" "LLazyState$Run;", Cond.arrayClass .int, Cond.fieldLink RX5 34 "LazyState" "writtenLeaves" "[I", Cond.fieldLink RX5 38 "LazyState" "writeCounts" "[I", Cond.fieldLink RX5 41 "LazyState" "viewStatus" "I", Cond.instantiable RX1 2, Cond.initialized RX1, Cond.instanceMethod yX3_init, Cond.code yX3_init cX3_init 1 none, Cond.methodLink RX3 3 objectInit, Cond.classLink RX3 9 RX4, Cond.instantiable RX4 5]
def wsX5_init_r2 : List Cond := [Cond.initialized RX4, Cond.fieldLink RX3 12 "LazyState$Run" "trace" "LLazyState$Trace;", Cond.fieldLink RX3 18 "LazyState$Run" "thrownAt" "I", Cond.classLink RX3 22 RX2, Cond.fieldLink RX3 24 "LazyState$Run" "copies" "[LLazyState$Body;", Cond.fieldLink RX3 28 "LazyState$Run" "handles" "[I", Cond.arrayClass .long, Cond.fieldLink RX3 32 "LazyState$Run" "values" "[J", Cond.instanceMethod yX4_init, Cond.code yX4_init cX4_init 1 none, Cond.methodLink RX4 3 objectInit, Cond.fieldLink RX4 9 "LazyState$Trace" "entries" "[I", Cond.fieldLink RX4 15 "LazyState$Trace" "readBits" "[I", Cond.fieldLink RX4 18 "LazyState$Trace" "changedBits" "[I", Cond.instanceMethod yX1_init, Cond.code yX1_init cX1_init 1 none, Cond.methodLink RX1 3 objectInit, Cond.classLink RX1 9 RX0, Cond.fieldLink RX1 11 "LazyState$Behaviour" "acts" "[LLazyState$Act;"]
def wsX5_init : List Cond := .code yX5_init cX5_init 2 none :: ((wsX5_init_r1 ++ wsX5_init_r2) ++ wsX50 ++ wsX30 ++ wsX10 ++ wsX40)
def wsX5_object : List Cond := .code yX5_object cX5_object 2 (some .int) :: ([.fieldLink RX5 46 "LazyState" "objectCount" "I", .fieldLink RX5 11 "LazyState" "objects" "[LLazyState$Body;", .classLink RX5 9 RX2, .instantiable RX2 5, .initialized RX2, .methodLink RX5 49 yX2_init, .instanceMethod yX2_init, .code yX2_init cX2_init 4 none, .methodLink RX2 3 objectInit, .instanceMethod objectInit, .code objectInit ⟨#[0xb1]⟩ 1 none, .arrayClass .long, .fieldLink RX2 9 "LazyState$Body" "cells" "[J", .arrayClass .int, .fieldLink RX2 15 "LazyState$Body" "items" "[I", .fieldLink RX2 19 "LazyState$Body" "type" "I", .fieldLink RX2 23 "LazyState$Body" "SORTS" "[I", .constantLong RX2 26 (-3)] ++ wsX50 ++ wsX20)
def wsX5_isObject : List Cond := .code yX5_isObject cX5_isObject 2 (some .boolean) :: ([.fieldLink RX5 46 "LazyState" "objectCount" "I"] ++ wsX50)
def wsX5_sortAt : List Cond := .code yX5_sortAt cX5_sortAt 3 (some .int) :: ([.fieldLink RX5 11 "LazyState" "objects" "[LLazyState$Body;", .methodLink RX5 60 yX5_isObject, .instanceMethod yX5_isObject, .selects RX5 yX5_isObject yX5_isObject, .initialized RX5, .code yX5_isObject cX5_isObject 2 (some .boolean), .fieldLink RX5 46 "LazyState" "objectCount" "I", .methodLink RX5 199 yX2_sortOf, .instanceMethod yX2_sortOf, .selects RX2 yX2_sortOf yX2_sortOf, .initialized RX2, .code yX2_sortOf cX2_sortOf 2 (some .int), .fieldLink RX2 23 "LazyState$Body" "SORTS" "[I", .fieldLink RX2 19 "LazyState$Body" "type" "I"] ++ wsX50 ++ wsX20)
def wsX5_raiseHeight : List Cond := .code yX5_raiseHeight cX5_raiseHeight 1 none :: ([.fieldLink RX5 68 "LazyState" "heightNow" "I", .fieldLink RX5 122 "LazyState" "cachedBits" "I"] ++ wsX50)
def wsX5_newVersion_r1 : List Cond := [Cond.classLink RX5 9 RX2, Cond.instantiable RX2 5, Cond.initialized RX2, Cond.fieldLink RX5 202 "LazyState$Body" "type" "I", Cond.fieldLink RX5 68 "LazyState" "heightNow" "I", Cond.fieldLink RX5 209 "LazyState$Body" "since" "I", Cond.fieldLink RX5 11 "LazyState" "objects" "[LLazyState$Body;", Cond.fieldLink RX5 212 "LazyState$Body" "before" "LLazyState$Body;", Cond.methodLink RX5 49 yX2_init, Cond.instanceMethod yX2_init, Cond.code yX2_init cX2_init 4 none, Cond.methodLink RX2 3 objectInit, Cond.instanceMethod objectInit, Cond.code objectInit ⟨#[0xb1]⟩ 1 none, Cond.arrayClass .long, Cond.fieldLink RX2 9 "LazyState$Body" "cells" "[J", Cond.arrayClass .int, Cond.fieldLink RX2 15 "LazyState$Body" "items" "[I", Cond.fieldLink RX2 19 "LazyState$Body" "type" "I", Cond.fieldLink RX2 23 "LazyState$Body" "SORTS" "[I", Cond.constantLong RX2 26 (-3), Cond.methodLink RX5 205 yX2_copyFrom, Cond.instanceMethod yX2_copyFrom, Cond.selects RX2 yX2_copyFrom yX2_copyFrom]
def wsX5_newVersion_r2 : List Cond := [Cond.code yX2_copyFrom cX2_copyFrom 2 none, Cond.methodLink RX2 40 arraycopyName, Cond.native arraycopyName, Cond.static arraycopyName, Cond.initialized "java/lang/System"]
def wsX5_newVersion : List Cond := .code yX5_newVersion cX5_newVersion 4 (some (.object "LazyState$Body")) :: ((wsX5_newVersion_r1 ++ wsX5_newVersion_r2) ++ wsX20 ++ wsX50)
def wsX5_changeCell_r1 : List Cond := [Cond.fieldLink RX5 11 "LazyState" "objects" "[LLazyState$Body;", Cond.fieldLink RX5 179 "LazyState$Body" "cells" "[J", Cond.fieldLink RX5 68 "LazyState" "heightNow" "I", Cond.methodLink RX5 71 yX5_raiseHeight, Cond.instanceMethod yX5_raiseHeight, Cond.selects RX5 yX5_raiseHeight yX5_raiseHeight, Cond.initialized RX5, Cond.code yX5_raiseHeight cX5_raiseHeight 1 none, Cond.fieldLink RX5 122 "LazyState" "cachedBits" "I", Cond.methodLink RX5 74 yX5_newVersion, Cond.instanceMethod yX5_newVersion, Cond.selects RX5 yX5_newVersion yX5_newVersion, Cond.code yX5_newVersion cX5_newVersion 4 (some (.object "LazyState$Body")), Cond.classLink RX5 9 RX2, Cond.instantiable RX2 5, Cond.initialized RX2, Cond.fieldLink RX5 202 "LazyState$Body" "type" "I", Cond.fieldLink RX5 209 "LazyState$Body" "since" "I", Cond.fieldLink RX5 212 "LazyState$Body" "before" "LLazyState$Body;", Cond.methodLink RX5 49 yX2_init, Cond.instanceMethod yX2_init, Cond.code yX2_init cX2_init 4 none, Cond.methodLink RX2 3 objectInit, Cond.instanceMethod objectInit]
def wsX5_changeCell_r2 : List Cond := [Cond.code objectInit ⟨#[0xb1]⟩ 1 none, Cond.arrayClass .long, Cond.fieldLink RX2 9 "LazyState$Body" "cells" "[J", Cond.arrayClass .int, Cond.fieldLink RX2 15 "LazyState$Body" "items" "[I", Cond.fieldLink RX2 19 "LazyState$Body" "type" "I", Cond.fieldLink RX2 23 "LazyState$Body" "SORTS" "[I", Cond.constantLong RX2 26 (-3), Cond.methodLink RX5 205 yX2_copyFrom, Cond.instanceMethod yX2_copyFrom, Cond.selects RX2 yX2_copyFrom yX2_copyFrom, Cond.code yX2_copyFrom cX2_copyFrom 2 none, Cond.methodLink RX2 40 arraycopyName, Cond.native arraycopyName, Cond.static arraycopyName, Cond.initialized "java/lang/System"]
def wsX5_changeCell : List Cond := .code yX5_changeCell cX5_changeCell 5 (some .int) :: ((wsX5_changeCell_r1 ++ wsX5_changeCell_r2) ++ wsX50 ++ wsX20)
def wsX5_number_r1 : List Cond := [Cond.methodLink RX5 52 yX5_sortAt, Cond.instanceMethod yX5_sortAt, Cond.selects RX5 yX5_sortAt yX5_sortAt, Cond.initialized RX5, Cond.code yX5_sortAt cX5_sortAt 3 (some .int), Cond.fieldLink RX5 11 "LazyState" "objects" "[LLazyState$Body;", Cond.methodLink RX5 60 yX5_isObject, Cond.instanceMethod yX5_isObject, Cond.selects RX5 yX5_isObject yX5_isObject, Cond.code yX5_isObject cX5_isObject 2 (some .boolean), Cond.fieldLink RX5 46 "LazyState" "objectCount" "I", Cond.methodLink RX5 199 yX2_sortOf, Cond.instanceMethod yX2_sortOf, Cond.selects RX2 yX2_sortOf yX2_sortOf, Cond.initialized RX2, Cond.code yX2_sortOf cX2_sortOf 2 (some .int), Cond.fieldLink RX2 23 "LazyState$Body" "SORTS" "[I", Cond.fieldLink RX2 19 "LazyState$Body" "type" "I", Cond.methodLink RX5 56 yX5_changeCell, Cond.instanceMethod yX5_changeCell, Cond.selects RX5 yX5_changeCell yX5_changeCell, Cond.code yX5_changeCell cX5_changeCell 5 (some .int), Cond.fieldLink RX5 179 "LazyState$Body" "cells" "[J", Cond.fieldLink RX5 68 "LazyState" "heightNow" "I"]
def wsX5_number_r2 : List Cond := [Cond.methodLink RX5 71 yX5_raiseHeight, Cond.instanceMethod yX5_raiseHeight, Cond.selects RX5 yX5_raiseHeight yX5_raiseHeight, Cond.code yX5_raiseHeight cX5_raiseHeight 1 none, Cond.fieldLink RX5 122 "LazyState" "cachedBits" "I", Cond.methodLink RX5 74 yX5_newVersion, Cond.instanceMethod yX5_newVersion, Cond.selects RX5 yX5_newVersion yX5_newVersion, Cond.code yX5_newVersion cX5_newVersion 4 (some (.object "LazyState$Body")), Cond.classLink RX5 9 RX2, Cond.instantiable RX2 5, Cond.fieldLink RX5 202 "LazyState$Body" "type" "I", Cond.fieldLink RX5 209 "LazyState$Body" "since" "I", Cond.fieldLink RX5 212 "LazyState$Body" "before" "LLazyState$Body;", Cond.methodLink RX5 49 yX2_init, Cond.instanceMethod yX2_init, Cond.code yX2_init cX2_init 4 none, Cond.methodLink RX2 3 objectInit, Cond.instanceMethod objectInit, Cond.code objectInit ⟨#[0xb1]⟩ 1 none, Cond.arrayClass .long, Cond.fieldLink RX2 9 "LazyState$Body" "cells" "[J", Cond.arrayClass .int, Cond.fieldLink RX2 15 "LazyState$Body" "items" "[I"]
def wsX5_number_r3 : List Cond := [Cond.constantLong RX2 26 (-3), Cond.methodLink RX5 205 yX2_copyFrom, Cond.instanceMethod yX2_copyFrom, Cond.selects RX2 yX2_copyFrom yX2_copyFrom, Cond.code yX2_copyFrom cX2_copyFrom 2 none, Cond.methodLink RX2 40 arraycopyName, Cond.native arraycopyName, Cond.static arraycopyName, Cond.initialized "java/lang/System"]
def wsX5_number : List Cond := .code yX5_number cX5_number 5 (some .int) :: ((wsX5_number_r1 ++ (wsX5_number_r2 ++ wsX5_number_r3)) ++ wsX50 ++ wsX20)
def wsX5_link_r1 : List Cond := [Cond.methodLink RX5 52 yX5_sortAt, Cond.instanceMethod yX5_sortAt, Cond.selects RX5 yX5_sortAt yX5_sortAt, Cond.initialized RX5, Cond.code yX5_sortAt cX5_sortAt 3 (some .int), Cond.fieldLink RX5 11 "LazyState" "objects" "[LLazyState$Body;", Cond.methodLink RX5 60 yX5_isObject, Cond.instanceMethod yX5_isObject, Cond.selects RX5 yX5_isObject yX5_isObject, Cond.code yX5_isObject cX5_isObject 2 (some .boolean), Cond.fieldLink RX5 46 "LazyState" "objectCount" "I", Cond.methodLink RX5 199 yX2_sortOf, Cond.instanceMethod yX2_sortOf, Cond.selects RX2 yX2_sortOf yX2_sortOf, Cond.initialized RX2, Cond.code yX2_sortOf cX2_sortOf 2 (some .int), Cond.fieldLink RX2 23 "LazyState$Body" "SORTS" "[I", Cond.fieldLink RX2 19 "LazyState$Body" "type" "I", Cond.methodLink RX5 56 yX5_changeCell, Cond.instanceMethod yX5_changeCell, Cond.selects RX5 yX5_changeCell yX5_changeCell, Cond.code yX5_changeCell cX5_changeCell 5 (some .int), Cond.fieldLink RX5 179 "LazyState$Body" "cells" "[J", Cond.fieldLink RX5 68 "LazyState" "heightNow" "I"]
def wsX5_link_r2 : List Cond := [Cond.methodLink RX5 71 yX5_raiseHeight, Cond.instanceMethod yX5_raiseHeight, Cond.selects RX5 yX5_raiseHeight yX5_raiseHeight, Cond.code yX5_raiseHeight cX5_raiseHeight 1 none, Cond.fieldLink RX5 122 "LazyState" "cachedBits" "I", Cond.methodLink RX5 74 yX5_newVersion, Cond.instanceMethod yX5_newVersion, Cond.selects RX5 yX5_newVersion yX5_newVersion, Cond.code yX5_newVersion cX5_newVersion 4 (some (.object "LazyState$Body")), Cond.classLink RX5 9 RX2, Cond.instantiable RX2 5, Cond.fieldLink RX5 202 "LazyState$Body" "type" "I", Cond.fieldLink RX5 209 "LazyState$Body" "since" "I", Cond.fieldLink RX5 212 "LazyState$Body" "before" "LLazyState$Body;", Cond.methodLink RX5 49 yX2_init, Cond.instanceMethod yX2_init, Cond.code yX2_init cX2_init 4 none, Cond.methodLink RX2 3 objectInit, Cond.instanceMethod objectInit, Cond.code objectInit ⟨#[0xb1]⟩ 1 none, Cond.arrayClass .long, Cond.fieldLink RX2 9 "LazyState$Body" "cells" "[J", Cond.arrayClass .int, Cond.fieldLink RX2 15 "LazyState$Body" "items" "[I"]
def wsX5_link_r3 : List Cond := [Cond.constantLong RX2 26 (-3), Cond.methodLink RX5 205 yX2_copyFrom, Cond.instanceMethod yX2_copyFrom, Cond.selects RX2 yX2_copyFrom yX2_copyFrom, Cond.code yX2_copyFrom cX2_copyFrom 2 none, Cond.methodLink RX2 40 arraycopyName, Cond.native arraycopyName, Cond.static arraycopyName, Cond.initialized "java/lang/System"]
def wsX5_link : List Cond := .code yX5_link cX5_link 4 (some .int) :: ((wsX5_link_r1 ++ (wsX5_link_r2 ++ wsX5_link_r3)) ++ wsX50 ++ wsX20)
def wsX5_row_r1 : List Cond := [Cond.fieldLink RX5 11 "LazyState" "objects" "[LLazyState$Body;", Cond.fieldLink RX5 68 "LazyState" "heightNow" "I", Cond.methodLink RX5 52 yX5_sortAt, Cond.instanceMethod yX5_sortAt, Cond.selects RX5 yX5_sortAt yX5_sortAt, Cond.initialized RX5, Cond.code yX5_sortAt cX5_sortAt 3 (some .int), Cond.methodLink RX5 60 yX5_isObject, Cond.instanceMethod yX5_isObject, Cond.selects RX5 yX5_isObject yX5_isObject, Cond.code yX5_isObject cX5_isObject 2 (some .boolean), Cond.fieldLink RX5 46 "LazyState" "objectCount" "I", Cond.methodLink RX5 199 yX2_sortOf, Cond.instanceMethod yX2_sortOf, Cond.selects RX2 yX2_sortOf yX2_sortOf, Cond.initialized RX2, Cond.code yX2_sortOf cX2_sortOf 2 (some .int), Cond.fieldLink RX2 23 "LazyState$Body" "SORTS" "[I", Cond.fieldLink RX2 19 "LazyState$Body" "type" "I", Cond.methodLink RX5 64 yX2_hasBlankRow, Cond.instanceMethod yX2_hasBlankRow, Cond.selects RX2 yX2_hasBlankRow yX2_hasBlankRow, Cond.code yX2_hasBlankRow cX2_hasBlankRow 4 (some .boolean), Cond.fieldLink RX2 9 "LazyState$Body" "cells" "[J"]
def wsX5_row_r2 : List Cond := [Cond.fieldLink RX2 15 "LazyState$Body" "items" "[I", Cond.methodLink RX2 28 yX2_itemPlace, Cond.static yX2_itemPlace, Cond.code yX2_itemPlace cX2_itemPlace 2 (some .int), Cond.methodLink RX5 71 yX5_raiseHeight, Cond.instanceMethod yX5_raiseHeight, Cond.selects RX5 yX5_raiseHeight yX5_raiseHeight, Cond.code yX5_raiseHeight cX5_raiseHeight 1 none, Cond.fieldLink RX5 122 "LazyState" "cachedBits" "I", Cond.methodLink RX5 74 yX5_newVersion, Cond.instanceMethod yX5_newVersion, Cond.selects RX5 yX5_newVersion yX5_newVersion, Cond.code yX5_newVersion cX5_newVersion 4 (some (.object "LazyState$Body")), Cond.classLink RX5 9 RX2, Cond.instantiable RX2 5, Cond.fieldLink RX5 202 "LazyState$Body" "type" "I", Cond.fieldLink RX5 209 "LazyState$Body" "since" "I", Cond.fieldLink RX5 212 "LazyState$Body" "before" "LLazyState$Body;", Cond.methodLink RX5 49 yX2_init, Cond.instanceMethod yX2_init, Cond.code yX2_init cX2_init 4 none, Cond.methodLink RX2 3 objectInit, Cond.instanceMethod objectInit, Cond.code objectInit ⟨#[0xb1]⟩ 1 none]
def wsX5_row_r3 : List Cond := [Cond.arrayClass .long, Cond.arrayClass .int, Cond.constantLong RX2 26 (-3), Cond.methodLink RX5 205 yX2_copyFrom, Cond.instanceMethod yX2_copyFrom, Cond.selects RX2 yX2_copyFrom yX2_copyFrom, Cond.code yX2_copyFrom cX2_copyFrom 2 none, Cond.methodLink RX2 40 arraycopyName, Cond.native arraycopyName, Cond.static arraycopyName, Cond.initialized "java/lang/System", Cond.methodLink RX5 78 yX2_renewRow, Cond.instanceMethod yX2_renewRow, Cond.selects RX2 yX2_renewRow yX2_renewRow, Cond.code yX2_renewRow cX2_renewRow 4 none]
def wsX5_row : List Cond := .code yX5_row cX5_row 4 (some .int) :: ((wsX5_row_r1 ++ (wsX5_row_r2 ++ wsX5_row_r3)) ++ wsX50 ++ wsX20)
def wsX5_isBehaviour : List Cond := .code yX5_isBehaviour cX5_isBehaviour 1 (some .boolean) :: ([])
def wsX5_act_r1 : List Cond := [Cond.classLink RX5 85 RX0, Cond.instantiable RX0 6, Cond.initialized RX0, Cond.fieldLink RX5 17 "LazyState" "behaviours" "[LLazyState$Behaviour;", Cond.methodLink RX5 82 yX5_isBehaviour, Cond.static yX5_isBehaviour, Cond.initialized RX5, Cond.code yX5_isBehaviour cX5_isBehaviour 1 (some .boolean), Cond.methodLink RX5 87 yX0_init, Cond.instanceMethod yX0_init, Cond.code yX0_init cX0_init 8 none, Cond.methodLink RX0 1 objectInit, Cond.instanceMethod objectInit, Cond.code objectInit ⟨#[0xb1]⟩ 1 none, Cond.fieldLink RX0 7 "LazyState$Act" "kind" "I", Cond.fieldLink RX0 13 "LazyState$Act" "a" "I", Cond.fieldLink RX0 16 "LazyState$Act" "b" "J", Cond.fieldLink RX0 20 "LazyState$Act" "c" "I", Cond.fieldLink RX0 23 "LazyState$Act" "d" "I", Cond.fieldLink RX0 26 "LazyState$Act" "e" "I", Cond.methodLink RX5 90 yX0_isAsTold, Cond.instanceMethod yX0_isAsTold, Cond.selects RX0 yX0_isAsTold yX0_isAsTold, Cond.code yX0_isAsTold cX0_isAsTold 1 (some .boolean)]
def wsX5_act_r2 : List Cond := [Cond.methodLink RX0 29 yX0_fits, Cond.instanceMethod yX0_fits, Cond.selects RX0 yX0_fits yX0_fits, Cond.code yX0_fits cX0_fits 5 (some .boolean), Cond.fieldLink RX0 33 "LazyState$Act" "MOST" "[I", Cond.methodLink RX5 94 yX1_append, Cond.instanceMethod yX1_append, Cond.selects RX1 yX1_append yX1_append, Cond.initialized RX1, Cond.code yX1_append cX1_append 2 (some .int), Cond.fieldLink RX1 17 "LazyState$Behaviour" "size" "I", Cond.fieldLink RX1 11 "LazyState$Behaviour" "acts" "[LLazyState$Act;"]
def wsX5_act : List Cond := .code yX5_act cX5_act 10 (some .int) :: ((wsX5_act_r1 ++ wsX5_act_r2) ++ wsX00 ++ wsX50 ++ wsX10)
def wsX5_clear : List Cond := .code yX5_clear cX5_clear 2 (some .int) :: ([.fieldLink RX5 17 "LazyState" "behaviours" "[LLazyState$Behaviour;", .methodLink RX5 82 yX5_isBehaviour, .static yX5_isBehaviour, .initialized RX5, .code yX5_isBehaviour cX5_isBehaviour 1 (some .boolean), .methodLink RX5 98 yX1_empty, .instanceMethod yX1_empty, .selects RX1 yX1_empty yX1_empty, .initialized RX1, .code yX1_empty cX1_empty 2 (some .int), .fieldLink RX1 17 "LazyState$Behaviour" "size" "I"] ++ wsX50 ++ wsX10)
def wsX5_callRefusal : List Cond := .code yX5_callRefusal cX5_callRefusal 3 (some .int) :: ([.fieldLink RX5 68 "LazyState" "heightNow" "I", .methodLink RX5 60 yX5_isObject, .instanceMethod yX5_isObject, .selects RX5 yX5_isObject yX5_isObject, .initialized RX5, .code yX5_isObject cX5_isObject 2 (some .boolean), .fieldLink RX5 46 "LazyState" "objectCount" "I", .methodLink RX5 82 yX5_isBehaviour, .static yX5_isBehaviour, .code yX5_isBehaviour cX5_isBehaviour 1 (some .boolean)] ++ wsX50)
def wsJ6_bitCount_0f7a4 : List Cond := .code yJ6_bitCount_0f7a4 cJ6_bitCount_0f7a4 1 (some .int) :: ([.constant RJ6 265 (1431655765), .constant RJ6 266 (858993459), .constant RJ6 267 (252645135)])
def wsX5_noteWritten_r1 : List Cond := [Cond.fieldLink RX5 11 "LazyState" "objects" "[LLazyState$Body;", Cond.fieldLink RX5 24 "LazyState" "latest" "LLazyState$Run;", Cond.fieldLink RX5 34 "LazyState" "writtenLeaves" "[I", Cond.fieldLink RX5 131 "LazyState" "writtenCount" "I", Cond.fieldLink RX5 38 "LazyState" "writeCounts" "[I", Cond.methodLink RX5 219 yX3_bodyOf, Cond.instanceMethod yX3_bodyOf, Cond.selects RX3 yX3_bodyOf yX3_bodyOf, Cond.initialized RX3, Cond.code yX3_bodyOf cX3_bodyOf 2 (some (.object "LazyState$Body")), Cond.fieldLink RX3 42 "LazyState$Run" "loadedBits" "I", Cond.fieldLink RX3 24 "LazyState$Run" "copies" "[LLazyState$Body;", Cond.fieldLink RX3 36 "LazyState$Run" "state" "[LLazyState$Body;", Cond.static yX5_bitOf, Cond.initialized RX5, Cond.code yX5_bitOf cX5_bitOf 2 (some .int), Cond.methodLink RX5 222 yX2_hasSameField, Cond.instanceMethod yX2_hasSameField, Cond.selects RX2 yX2_hasSameField yX2_hasSameField, Cond.initialized RX2, Cond.code yX2_hasSameField cX2_hasSameField 3 (some .boolean), Cond.fieldLink RX2 9 "LazyState$Body" "cells" "[J", Cond.methodLink RX2 32 yX2_sortOf, Cond.instanceMethod yX2_sortOf]
def wsX5_noteWritten_r2 : List Cond := [Cond.selects RX2 yX2_sortOf yX2_sortOf, Cond.code yX2_sortOf cX2_sortOf 2 (some .int), Cond.fieldLink RX2 23 "LazyState$Body" "SORTS" "[I", Cond.fieldLink RX2 19 "LazyState$Body" "type" "I", Cond.methodLink RX2 36 yX2_hasSameItems, Cond.instanceMethod yX2_hasSameItems, Cond.selects RX2 yX2_hasSameItems yX2_hasSameItems, Cond.code yX2_hasSameItems cX2_hasSameItems 4 (some .boolean), Cond.fieldLink RX2 15 "LazyState$Body" "items" "[I", Cond.methodLink RX2 28 yX2_itemPlace, Cond.static yX2_itemPlace, Cond.code yX2_itemPlace cX2_itemPlace 2 (some .int)]
def wsX5_noteWritten : List Cond := .code yX5_noteWritten cX5_noteWritten 4 none :: ((wsX5_noteWritten_r1 ++ wsX5_noteWritten_r2) ++ wsX50 ++ wsX30 ++ wsX20)
def wsX5_keepChanges_r1 : List Cond := [Cond.fieldLink RX5 46 "LazyState" "objectCount" "I", Cond.fieldLink RX5 131 "LazyState" "writtenCount" "I", Cond.fieldLink RX5 24 "LazyState" "latest" "LLazyState$Run;", Cond.fieldLink RX5 119 "LazyState$Run" "loadedBits" "I", Cond.methodLink RX5 159 yX5_bitOf, Cond.static yX5_bitOf, Cond.initialized RX5, Cond.code yX5_bitOf cX5_bitOf 2 (some .int), Cond.methodLink RX5 216 yX5_noteWritten, Cond.instanceMethod yX5_noteWritten, Cond.selects RX5 yX5_noteWritten yX5_noteWritten, Cond.code yX5_noteWritten cX5_noteWritten 4 none, Cond.fieldLink RX5 11 "LazyState" "objects" "[LLazyState$Body;", Cond.fieldLink RX5 34 "LazyState" "writtenLeaves" "[I", Cond.fieldLink RX5 38 "LazyState" "writeCounts" "[I", Cond.methodLink RX5 219 yX3_bodyOf, Cond.instanceMethod yX3_bodyOf, Cond.selects RX3 yX3_bodyOf yX3_bodyOf, Cond.initialized RX3, Cond.code yX3_bodyOf cX3_bodyOf 2 (some (.object "LazyState$Body")), Cond.fieldLink RX3 42 "LazyState$Run" "loadedBits" "I", Cond.fieldLink RX3 24 "LazyState$Run" "copies" "[LLazyState$Body;", Cond.fieldLink RX3 36 "LazyState$Run" "state" "[LLazyState$Body;", Cond.methodLink RX5 222 yX2_hasSameField]
def wsX5_keepChanges_r2 : List Cond := [Cond.instanceMethod yX2_hasSameField, Cond.selects RX2 yX2_hasSameField yX2_hasSameField, Cond.initialized RX2, Cond.code yX2_hasSameField cX2_hasSameField 3 (some .boolean), Cond.fieldLink RX2 9 "LazyState$Body" "cells" "[J", Cond.methodLink RX2 32 yX2_sortOf, Cond.instanceMethod yX2_sortOf, Cond.selects RX2 yX2_sortOf yX2_sortOf, Cond.code yX2_sortOf cX2_sortOf 2 (some .int), Cond.fieldLink RX2 23 "LazyState$Body" "SORTS" "[I", Cond.fieldLink RX2 19 "LazyState$Body" "type" "I", Cond.methodLink RX2 36 yX2_hasSameItems, Cond.instanceMethod yX2_hasSameItems, Cond.selects RX2 yX2_hasSameItems yX2_hasSameItems, Cond.code yX2_hasSameItems cX2_hasSameItems 4 (some .boolean), Cond.fieldLink RX2 15 "LazyState$Body" "items" "[I", Cond.methodLink RX2 28 yX2_itemPlace, Cond.static yX2_itemPlace, Cond.code yX2_itemPlace cX2_itemPlace 2 (some .int), Cond.methodLink RX5 71 yX5_raiseHeight, Cond.instanceMethod yX5_raiseHeight, Cond.selects RX5 yX5_raiseHeight yX5_raiseHeight, Cond.code yX5_raiseHeight cX5_raiseHeight 1 none, Cond.fieldLink RX5 68 "LazyState" "heightNow" "I"]
def wsX5_keepChanges_r3 : List Cond := [Cond.fieldLink RX5 122 "LazyState" "cachedBits" "I", Cond.methodLink RX5 74 yX5_newVersion, Cond.instanceMethod yX5_newVersion, Cond.selects RX5 yX5_newVersion yX5_newVersion, Cond.code yX5_newVersion cX5_newVersion 4 (some (.object "LazyState$Body")), Cond.classLink RX5 9 RX2, Cond.instantiable RX2 5, Cond.fieldLink RX5 202 "LazyState$Body" "type" "I", Cond.fieldLink RX5 209 "LazyState$Body" "since" "I", Cond.fieldLink RX5 212 "LazyState$Body" "before" "LLazyState$Body;", Cond.methodLink RX5 49 yX2_init, Cond.instanceMethod yX2_init, Cond.code yX2_init cX2_init 4 none, Cond.methodLink RX2 3 objectInit, Cond.instanceMethod objectInit, Cond.code objectInit ⟨#[0xb1]⟩ 1 none, Cond.arrayClass .long, Cond.arrayClass .int, Cond.constantLong RX2 26 (-3), Cond.methodLink RX5 205 yX2_copyFrom, Cond.instanceMethod yX2_copyFrom, Cond.selects RX2 yX2_copyFrom yX2_copyFrom, Cond.code yX2_copyFrom cX2_copyFrom 2 none, Cond.methodLink RX2 40 arraycopyName]
def wsX5_keepChanges_r4 : List Cond := [Cond.native arraycopyName, Cond.static arraycopyName, Cond.initialized "java/lang/System"]
def wsX5_keepChanges : List Cond := .code yX5_keepChanges cX5_keepChanges 3 none :: ((wsX5_keepChanges_r1 ++ (wsX5_keepChanges_r2 ++ (wsX5_keepChanges_r3 ++ wsX5_keepChanges_r4))) ++ wsX50 ++ wsX30 ++ wsX20)
def wsX5_call_r1 : List Cond := [Cond.fieldLink RX5 24 "LazyState" "latest" "LLazyState$Run;", Cond.fieldLink RX5 11 "LazyState" "objects" "[LLazyState$Body;", Cond.fieldLink RX5 17 "LazyState" "behaviours" "[LLazyState$Behaviour;", Cond.fieldLink RX5 113 "LazyState" "callCount" "I", Cond.fieldLink RX5 116 "LazyState" "fetchCount" "I", Cond.fieldLink RX5 119 "LazyState$Run" "loadedBits" "I", Cond.fieldLink RX5 122 "LazyState" "cachedBits" "I", Cond.fieldLink RX5 131 "LazyState" "writtenCount" "I", Cond.fieldLink RX5 134 "LazyState$Run" "thrown" "I", Cond.methodLink RX5 102 yX5_callRefusal, Cond.instanceMethod yX5_callRefusal, Cond.selects RX5 yX5_callRefusal yX5_callRefusal, Cond.initialized RX5, Cond.code yX5_callRefusal cX5_callRefusal 3 (some .int), Cond.fieldLink RX5 68 "LazyState" "heightNow" "I", Cond.methodLink RX5 60 yX5_isObject, Cond.instanceMethod yX5_isObject, Cond.selects RX5 yX5_isObject yX5_isObject, Cond.code yX5_isObject cX5_isObject 2 (some .boolean), Cond.fieldLink RX5 46 "LazyState" "objectCount" "I", Cond.methodLink RX5 82 yX5_isBehaviour, Cond.static yX5_isBehaviour, Cond.code yX5_isBehaviour cX5_isBehaviour 1 (some .boolean), Cond.methodLink RX5 105 yX3_start]
def wsX5_call_r2 : List Cond := [Cond.instanceMethod yX3_start, Cond.selects RX3 yX3_start yX3_start, Cond.initialized RX3, Cond.code yX3_start cX3_start 5 none, Cond.fieldLink RX3 36 "LazyState$Run" "state" "[LLazyState$Body;", Cond.fieldLink RX3 12 "LazyState$Run" "trace" "LLazyState$Trace;", Cond.fieldLink RX3 42 "LazyState$Run" "loadedBits" "I", Cond.fieldLink RX3 45 "LazyState$Run" "done" "I", Cond.fieldLink RX3 48 "LazyState$Run" "gift" "J", Cond.fieldLink RX3 52 "LazyState$Run" "thrown" "I", Cond.fieldLink RX3 18 "LazyState$Run" "thrownAt" "I", Cond.fieldLink RX3 28 "LazyState$Run" "handles" "[I", Cond.fieldLink RX3 32 "LazyState$Run" "values" "[J", Cond.methodLink RX3 39 yX4_restart, Cond.instanceMethod yX4_restart, Cond.selects RX4 yX4_restart yX4_restart, Cond.initialized RX4, Cond.code yX4_restart cX4_restart 1 none, Cond.fieldLink RX4 21 "LazyState$Trace" "count" "I", Cond.fieldLink RX4 25 "LazyState$Trace" "changedCount" "I", Cond.fieldLink RX4 15 "LazyState$Trace" "readBits" "[I", Cond.fieldLink RX4 18 "LazyState$Trace" "changedBits" "[I", Cond.methodLink RX4 28 yJ7_fill_53178, Cond.static yJ7_fill_53178]
def wsX5_call_r3 : List Cond := [Cond.initialized RJ7, Cond.code yJ7_fill_53178 cJ7_fill_53178 4 none, Cond.methodLink RX3 55 yJ7_fill_53178, Cond.methodLink RX3 61 yJ7_fill_d0a16, Cond.static yJ7_fill_d0a16, Cond.code yJ7_fill_d0a16 cJ7_fill_d0a16 5 none, Cond.methodLink RX5 109 yX3_work, Cond.instanceMethod yX3_work, Cond.selects RX3 yX3_work yX3_work, Cond.code yX3_work cX3_work 6 none, Cond.fieldLink RX3 78 "LazyState$Run" "next" "I", Cond.methodLink RX3 68 yX1_actAt, Cond.instanceMethod yX1_actAt, Cond.selects RX1 yX1_actAt yX1_actAt, Cond.initialized RX1, Cond.code yX1_actAt cX1_actAt 2 (some (.object "LazyState$Act")), Cond.fieldLink RX1 17 "LazyState$Behaviour" "size" "I", Cond.fieldLink RX1 11 "LazyState$Behaviour" "acts" "[LLazyState$Act;", Cond.methodLink RX3 74 yX3_fail, Cond.instanceMethod yX3_fail, Cond.selects RX3 yX3_fail yX3_fail, Cond.code yX3_fail cX3_fail 3 none, Cond.methodLink RX3 81 yX3_perform, Cond.instanceMethod yX3_perform]
def wsX5_call_r4 : List Cond := [Cond.selects RX3 yX3_perform yX3_perform, Cond.code yX3_perform cX3_perform 5 (some .int), Cond.fieldLink RX3 110 "LazyState$Act" "a" "I", Cond.fieldLink RX3 115 "LazyState$Act" "b" "J", Cond.fieldLink RX3 118 "LazyState$Act" "c" "I", Cond.fieldLink RX3 121 "LazyState$Act" "kind" "I", Cond.fieldLink RX3 139 "LazyState$Act" "d" "I", Cond.methodLink RX3 124 yX3_setValue, Cond.instanceMethod yX3_setValue, Cond.selects RX3 yX3_setValue yX3_setValue, Cond.code yX3_setValue cX3_setValue 4 (some .int), Cond.methodLink RX3 128 yX3_get, Cond.instanceMethod yX3_get, Cond.selects RX3 yX3_get yX3_get, Cond.code yX3_get cX3_get 5 (some .int), Cond.fieldLink RX3 184 "LazyState$Body" "cells" "[J", Cond.methodLink RX3 177 yX3_ask, Cond.instanceMethod yX3_ask, Cond.selects RX3 yX3_ask yX3_ask, Cond.code yX3_ask cX3_ask 6 (some .int), Cond.fieldLink RX3 24 "LazyState$Run" "copies" "[LLazyState$Body;", Cond.methodLink RX3 64 yX3_load, Cond.instanceMethod yX3_load, Cond.selects RX3 yX3_load yX3_load]
def wsX5_call_r5 : List Cond := [Cond.code yX3_load cX3_load 2 none, Cond.classLink RX3 22 RX2, Cond.instantiable RX2 5, Cond.initialized RX2, Cond.fieldLink RX3 101 "LazyState$Body" "type" "I", Cond.static yX5_bitOf, Cond.code yX5_bitOf cX5_bitOf 2 (some .int), Cond.methodLink RX3 104 yX2_init, Cond.instanceMethod yX2_init, Cond.code yX2_init cX2_init 4 none, Cond.methodLink RX2 3 objectInit, Cond.instanceMethod objectInit, Cond.code objectInit ⟨#[0xb1]⟩ 1 none, Cond.arrayClass .long, Cond.fieldLink RX2 9 "LazyState$Body" "cells" "[J", Cond.arrayClass .int, Cond.fieldLink RX2 15 "LazyState$Body" "items" "[I", Cond.fieldLink RX2 19 "LazyState$Body" "type" "I", Cond.fieldLink RX2 23 "LazyState$Body" "SORTS" "[I", Cond.constantLong RX2 26 (-3), Cond.methodLink RX3 106 yX2_copyFrom, Cond.instanceMethod yX2_copyFrom, Cond.selects RX2 yX2_copyFrom yX2_copyFrom, Cond.code yX2_copyFrom cX2_copyFrom 2 none]
def wsX5_call_r6 : List Cond := [Cond.methodLink RX2 40 arraycopyName, Cond.native arraycopyName, Cond.static arraycopyName, Cond.initialized "java/lang/System", Cond.methodLink RX3 168 yX2_sortOf, Cond.instanceMethod yX2_sortOf, Cond.selects RX2 yX2_sortOf yX2_sortOf, Cond.code yX2_sortOf cX2_sortOf 2 (some .int), Cond.methodLink RX3 180 yX3_read, Cond.instanceMethod yX3_read, Cond.selects RX3 yX3_read yX3_read, Cond.code yX3_read cX3_read 3 (some (.object "LazyState$Body")), Cond.methodLink RX3 171 yX4_noteRead, Cond.instanceMethod yX4_noteRead, Cond.selects RX4 yX4_noteRead yX4_noteRead, Cond.code yX4_noteRead cX4_noteRead 3 none, Cond.fieldLink RX4 9 "LazyState$Trace" "entries" "[I", Cond.methodLink RX3 132 yX3_put, Cond.instanceMethod yX3_put, Cond.selects RX3 yX3_put yX3_put, Cond.code yX3_put cX3_put 7 (some .int), Cond.methodLink RX3 187 yX3_change, Cond.instanceMethod yX3_change, Cond.selects RX3 yX3_change yX3_change]
def wsX5_call_r7 : List Cond := [Cond.code yX3_change cX3_change 3 (some (.object "LazyState$Body")), Cond.methodLink RX3 174 yX4_noteChanged, Cond.instanceMethod yX4_noteChanged, Cond.selects RX4 yX4_noteChanged yX4_noteChanged, Cond.code yX4_noteChanged cX4_noteChanged 3 none, Cond.methodLink RX3 136 yX3_follow, Cond.instanceMethod yX3_follow, Cond.selects RX3 yX3_follow yX3_follow, Cond.code yX3_follow cX3_follow 5 (some .int), Cond.methodLink RX3 142 yX3_getItem, Cond.instanceMethod yX3_getItem, Cond.selects RX3 yX3_getItem yX3_getItem, Cond.code yX3_getItem cX3_getItem 7 (some .int), Cond.fieldLink RX3 194 "LazyState$Body" "items" "[I", Cond.methodLink RX3 190 yX3_itemRefusal, Cond.static yX3_itemRefusal, Cond.code yX3_itemRefusal cX3_itemRefusal 4 (some .int), Cond.constantLong RX3 200 (-3), Cond.methodLink RX3 202 yX2_hasItem, Cond.instanceMethod yX2_hasItem, Cond.selects RX2 yX2_hasItem yX2_hasItem, Cond.code yX2_hasItem cX2_hasItem 4 (some .boolean), Cond.methodLink RX3 197 yX2_itemPlace, Cond.static yX2_itemPlace]
def wsX5_call_r8 : List Cond := [Cond.code yX2_itemPlace cX2_itemPlace 2 (some .int), Cond.methodLink RX3 146 yX3_lay, Cond.instanceMethod yX3_lay, Cond.selects RX3 yX3_lay yX3_lay, Cond.code yX3_lay cX3_lay 6 (some .int), Cond.methodLink RX3 149 yX3_renew, Cond.instanceMethod yX3_renew, Cond.selects RX3 yX3_renew yX3_renew, Cond.code yX3_renew cX3_renew 6 (some .int), Cond.constantLong RX3 206 (8), Cond.methodLink RX3 208 yX2_renewRow, Cond.instanceMethod yX2_renewRow, Cond.selects RX2 yX2_renewRow yX2_renewRow, Cond.code yX2_renewRow cX2_renewRow 4 none, Cond.methodLink RX2 28 yX2_itemPlace, Cond.methodLink RX3 153 yX3_shift, Cond.instanceMethod yX3_shift, Cond.selects RX3 yX3_shift yX3_shift, Cond.code yX3_shift cX3_shift 9 (some .int), Cond.fieldLink RX3 211 "LazyState$Act" "e" "I", Cond.methodLink RX3 214 arraycopyName, Cond.methodLink RX3 156 yX3_areAlike, Cond.instanceMethod yX3_areAlike, Cond.selects RX3 yX3_areAlike yX3_areAlike]
def wsX5_call_r9 : List Cond := [Cond.code yX3_areAlike cX3_areAlike 4 (some .boolean), Cond.methodLink RX3 93 yX2_hasSameField, Cond.instanceMethod yX2_hasSameField, Cond.selects RX2 yX2_hasSameField yX2_hasSameField, Cond.code yX2_hasSameField cX2_hasSameField 3 (some .boolean), Cond.methodLink RX2 32 yX2_sortOf, Cond.methodLink RX2 36 yX2_hasSameItems, Cond.instanceMethod yX2_hasSameItems, Cond.selects RX2 yX2_hasSameItems yX2_hasSameItems, Cond.code yX2_hasSameItems cX2_hasSameItems 4 (some .boolean), Cond.methodLink RX3 160 yX3_goOnAt, Cond.instanceMethod yX3_goOnAt, Cond.selects RX3 yX3_goOnAt yX3_goOnAt, Cond.code yX3_goOnAt cX3_goOnAt 2 (some .int), Cond.methodLink RX3 164 yX3_end, Cond.instanceMethod yX3_end, Cond.selects RX3 yX3_end yX3_end, Cond.code yX3_end cX3_end 3 (some .int), Cond.methodLink RX5 125 yJ6_bitCount_0f7a4, Cond.static yJ6_bitCount_0f7a4, Cond.initialized RJ6, Cond.code yJ6_bitCount_0f7a4 cJ6_bitCount_0f7a4 1 (some .int), Cond.constant RJ6 265 (1431655765), Cond.constant RJ6 266 (858993459)]
def wsX5_call_r10 : List Cond := [Cond.constant RJ6 267 (252645135), Cond.methodLink RX5 137 yX5_keepChanges, Cond.instanceMethod yX5_keepChanges, Cond.selects RX5 yX5_keepChanges yX5_keepChanges, Cond.code yX5_keepChanges cX5_keepChanges 3 none, Cond.methodLink RX5 159 yX5_bitOf, Cond.methodLink RX5 216 yX5_noteWritten, Cond.instanceMethod yX5_noteWritten, Cond.selects RX5 yX5_noteWritten yX5_noteWritten, Cond.code yX5_noteWritten cX5_noteWritten 4 none, Cond.fieldLink RX5 34 "LazyState" "writtenLeaves" "[I", Cond.fieldLink RX5 38 "LazyState" "writeCounts" "[I", Cond.methodLink RX5 219 yX3_bodyOf, Cond.instanceMethod yX3_bodyOf, Cond.selects RX3 yX3_bodyOf yX3_bodyOf, Cond.code yX3_bodyOf cX3_bodyOf 2 (some (.object "LazyState$Body")), Cond.methodLink RX5 222 yX2_hasSameField, Cond.methodLink RX5 71 yX5_raiseHeight, Cond.instanceMethod yX5_raiseHeight, Cond.selects RX5 yX5_raiseHeight yX5_raiseHeight, Cond.code yX5_raiseHeight cX5_raiseHeight 1 none, Cond.methodLink RX5 74 yX5_newVersion, Cond.instanceMethod yX5_newVersion, Cond.selects RX5 yX5_newVersion yX5_newVersion]
def wsX5_call_r11 : List Cond := [Cond.code yX5_newVersion cX5_newVersion 4 (some (.object "LazyState$Body")), Cond.classLink RX5 9 RX2, Cond.fieldLink RX5 202 "LazyState$Body" "type" "I", Cond.fieldLink RX5 209 "LazyState$Body" "since" "I", Cond.fieldLink RX5 212 "LazyState$Body" "before" "LLazyState$Body;", Cond.methodLink RX5 49 yX2_init, Cond.methodLink RX5 205 yX2_copyFrom]
def wsX5_call : List Cond := .code yX5_call cX5_call 6 (some .int) :: ((wsX5_call_r1 ++ (wsX5_call_r2 ++ (wsX5_call_r3 ++ (wsX5_call_r4 ++ (wsX5_call_r5 ++ (wsX5_call_r6 ++ (wsX5_call_r7 ++ (wsX5_call_r8 ++ (wsX5_call_r9 ++ (wsX5_call_r10 ++ wsX5_call_r11)))))))))) ++ wsX50 ++ wsX30 ++ wsX40 ++ wsX10 ++ wsX00 ++ wsX20)
def wsX5_gave : List Cond := .code yX5_gave cX5_gave 1 (some .long) :: ([.fieldLink RX5 24 "LazyState" "latest" "LLazyState$Run;", .fieldLink RX5 140 "LazyState$Run" "gift" "J"] ++ wsX50 ++ wsX30)
def wsX5_where : List Cond := .code yX5_where cX5_where 1 (some .int) :: ([.fieldLink RX5 24 "LazyState" "latest" "LLazyState$Run;", .fieldLink RX5 144 "LazyState$Run" "thrownAt" "I"] ++ wsX50 ++ wsX30)
def wsX5_touched : List Cond := .code yX5_touched cX5_touched 4 (some .int) :: ([.fieldLink RX5 24 "LazyState" "latest" "LLazyState$Run;", .fieldLink RX5 147 "LazyState$Run" "trace" "LLazyState$Trace;", .fieldLink RX5 151 "LazyState$Trace" "count" "I", .fieldLink RX5 156 "LazyState$Trace" "entries" "[I"] ++ wsX50 ++ wsX30 ++ wsX40)
def wsX5_written : List Cond := .code yX5_written cX5_written 2 (some .int) :: ([.fieldLink RX5 131 "LazyState" "writtenCount" "I", .fieldLink RX5 34 "LazyState" "writtenLeaves" "[I"] ++ wsX50)
def wsX5_loaded : List Cond := .code yX5_loaded cX5_loaded 2 (some .int) :: ([.fieldLink RX5 24 "LazyState" "latest" "LLazyState$Run;", .fieldLink RX5 119 "LazyState$Run" "loadedBits" "I", .methodLink RX5 60 yX5_isObject, .instanceMethod yX5_isObject, .selects RX5 yX5_isObject yX5_isObject, .initialized RX5, .code yX5_isObject cX5_isObject 2 (some .boolean), .fieldLink RX5 46 "LazyState" "objectCount" "I", .methodLink RX5 159 yX5_bitOf, .static yX5_bitOf, .code yX5_bitOf cX5_bitOf 2 (some .int)] ++ wsX50 ++ wsX30)
def wsX5_cached : List Cond := .code yX5_cached cX5_cached 2 (some .int) :: ([.fieldLink RX5 122 "LazyState" "cachedBits" "I", .methodLink RX5 60 yX5_isObject, .instanceMethod yX5_isObject, .selects RX5 yX5_isObject yX5_isObject, .initialized RX5, .code yX5_isObject cX5_isObject 2 (some .boolean), .fieldLink RX5 46 "LazyState" "objectCount" "I", .methodLink RX5 159 yX5_bitOf, .static yX5_bitOf, .code yX5_bitOf cX5_bitOf 2 (some .int)] ++ wsX50)
def wsX5_hint : List Cond := .code yX5_hint cX5_hint 3 (some .int) :: ([.fieldLink RX5 122 "LazyState" "cachedBits" "I", .fieldLink RX5 116 "LazyState" "fetchCount" "I", .methodLink RX5 60 yX5_isObject, .instanceMethod yX5_isObject, .selects RX5 yX5_isObject yX5_isObject, .initialized RX5, .code yX5_isObject cX5_isObject 2 (some .boolean), .fieldLink RX5 46 "LazyState" "objectCount" "I", .methodLink RX5 159 yX5_bitOf, .static yX5_bitOf, .code yX5_bitOf cX5_bitOf 2 (some .int)] ++ wsX50)
def wsX5_times : List Cond := .code yX5_times cX5_times 2 (some .int) :: ([.fieldLink RX5 38 "LazyState" "writeCounts" "[I", .methodLink RX5 52 yX5_sortAt, .instanceMethod yX5_sortAt, .selects RX5 yX5_sortAt yX5_sortAt, .initialized RX5, .code yX5_sortAt cX5_sortAt 3 (some .int), .fieldLink RX5 11 "LazyState" "objects" "[LLazyState$Body;", .methodLink RX5 60 yX5_isObject, .instanceMethod yX5_isObject, .selects RX5 yX5_isObject yX5_isObject, .code yX5_isObject cX5_isObject 2 (some .boolean), .fieldLink RX5 46 "LazyState" "objectCount" "I", .methodLink RX5 199 yX2_sortOf, .instanceMethod yX2_sortOf, .selects RX2 yX2_sortOf yX2_sortOf, .initialized RX2, .code yX2_sortOf cX2_sortOf 2 (some .int), .fieldLink RX2 23 "LazyState$Body" "SORTS" "[I", .fieldLink RX2 19 "LazyState$Body" "type" "I"] ++ wsX50 ++ wsX20)
def wsX5_all_r1 : List Cond := [Cond.fieldLink RX5 28 "LazyState" "lazy" "LLazyState$Run;", Cond.fieldLink RX5 11 "LazyState" "objects" "[LLazyState$Body;", Cond.fieldLink RX5 17 "LazyState" "behaviours" "[LLazyState$Behaviour;", Cond.fieldLink RX5 31 "LazyState" "eager" "LLazyState$Run;", Cond.fieldLink RX5 46 "LazyState" "objectCount" "I", Cond.methodLink RX5 102 yX5_callRefusal, Cond.instanceMethod yX5_callRefusal, Cond.selects RX5 yX5_callRefusal yX5_callRefusal, Cond.initialized RX5, Cond.code yX5_callRefusal cX5_callRefusal 3 (some .int), Cond.fieldLink RX5 68 "LazyState" "heightNow" "I", Cond.methodLink RX5 60 yX5_isObject, Cond.instanceMethod yX5_isObject, Cond.selects RX5 yX5_isObject yX5_isObject, Cond.code yX5_isObject cX5_isObject 2 (some .boolean), Cond.methodLink RX5 82 yX5_isBehaviour, Cond.static yX5_isBehaviour, Cond.code yX5_isBehaviour cX5_isBehaviour 1 (some .boolean), Cond.methodLink RX5 105 yX3_start, Cond.instanceMethod yX3_start, Cond.selects RX3 yX3_start yX3_start, Cond.initialized RX3, Cond.code yX3_start cX3_start 5 none, Cond.fieldLink RX3 36 "LazyState$Run" "state" "[LLazyState$Body;"]
def wsX5_all_r2 : List Cond := [Cond.fieldLink RX3 12 "LazyState$Run" "trace" "LLazyState$Trace;", Cond.fieldLink RX3 42 "LazyState$Run" "loadedBits" "I", Cond.fieldLink RX3 45 "LazyState$Run" "done" "I", Cond.fieldLink RX3 48 "LazyState$Run" "gift" "J", Cond.fieldLink RX3 52 "LazyState$Run" "thrown" "I", Cond.fieldLink RX3 18 "LazyState$Run" "thrownAt" "I", Cond.fieldLink RX3 28 "LazyState$Run" "handles" "[I", Cond.fieldLink RX3 32 "LazyState$Run" "values" "[J", Cond.methodLink RX3 39 yX4_restart, Cond.instanceMethod yX4_restart, Cond.selects RX4 yX4_restart yX4_restart, Cond.initialized RX4, Cond.code yX4_restart cX4_restart 1 none, Cond.fieldLink RX4 21 "LazyState$Trace" "count" "I", Cond.fieldLink RX4 25 "LazyState$Trace" "changedCount" "I", Cond.fieldLink RX4 15 "LazyState$Trace" "readBits" "[I", Cond.fieldLink RX4 18 "LazyState$Trace" "changedBits" "[I", Cond.methodLink RX4 28 yJ7_fill_53178, Cond.static yJ7_fill_53178, Cond.initialized RJ7, Cond.code yJ7_fill_53178 cJ7_fill_53178 4 none, Cond.methodLink RX3 55 yJ7_fill_53178, Cond.methodLink RX3 61 yJ7_fill_d0a16, Cond.static yJ7_fill_d0a16]
def wsX5_all_r3 : List Cond := [Cond.code yJ7_fill_d0a16 cJ7_fill_d0a16 5 none, Cond.methodLink RX5 109 yX3_work, Cond.instanceMethod yX3_work, Cond.selects RX3 yX3_work yX3_work, Cond.code yX3_work cX3_work 6 none, Cond.fieldLink RX3 78 "LazyState$Run" "next" "I", Cond.methodLink RX3 68 yX1_actAt, Cond.instanceMethod yX1_actAt, Cond.selects RX1 yX1_actAt yX1_actAt, Cond.initialized RX1, Cond.code yX1_actAt cX1_actAt 2 (some (.object "LazyState$Act")), Cond.fieldLink RX1 17 "LazyState$Behaviour" "size" "I", Cond.fieldLink RX1 11 "LazyState$Behaviour" "acts" "[LLazyState$Act;", Cond.methodLink RX3 74 yX3_fail, Cond.instanceMethod yX3_fail, Cond.selects RX3 yX3_fail yX3_fail, Cond.code yX3_fail cX3_fail 3 none, Cond.methodLink RX3 81 yX3_perform, Cond.instanceMethod yX3_perform, Cond.selects RX3 yX3_perform yX3_perform, Cond.code yX3_perform cX3_perform 5 (some .int), Cond.fieldLink RX3 110 "LazyState$Act" "a" "I", Cond.fieldLink RX3 115 "LazyState$Act" "b" "J", Cond.fieldLink RX3 118 "LazyState$Act" "c" "I"]
def wsX5_all_r4 : List Cond := [Cond.fieldLink RX3 121 "LazyState$Act" "kind" "I", Cond.fieldLink RX3 139 "LazyState$Act" "d" "I", Cond.methodLink RX3 124 yX3_setValue, Cond.instanceMethod yX3_setValue, Cond.selects RX3 yX3_setValue yX3_setValue, Cond.code yX3_setValue cX3_setValue 4 (some .int), Cond.methodLink RX3 128 yX3_get, Cond.instanceMethod yX3_get, Cond.selects RX3 yX3_get yX3_get, Cond.code yX3_get cX3_get 5 (some .int), Cond.fieldLink RX3 184 "LazyState$Body" "cells" "[J", Cond.methodLink RX3 177 yX3_ask, Cond.instanceMethod yX3_ask, Cond.selects RX3 yX3_ask yX3_ask, Cond.code yX3_ask cX3_ask 6 (some .int), Cond.fieldLink RX3 24 "LazyState$Run" "copies" "[LLazyState$Body;", Cond.methodLink RX3 64 yX3_load, Cond.instanceMethod yX3_load, Cond.selects RX3 yX3_load yX3_load, Cond.code yX3_load cX3_load 2 none, Cond.classLink RX3 22 RX2, Cond.instantiable RX2 5, Cond.initialized RX2, Cond.fieldLink RX3 101 "LazyState$Body" "type" "I"]
def wsX5_all_r5 : List Cond := [Cond.static yX5_bitOf, Cond.code yX5_bitOf cX5_bitOf 2 (some .int), Cond.methodLink RX3 104 yX2_init, Cond.instanceMethod yX2_init, Cond.code yX2_init cX2_init 4 none, Cond.methodLink RX2 3 objectInit, Cond.instanceMethod objectInit, Cond.code objectInit ⟨#[0xb1]⟩ 1 none, Cond.arrayClass .long, Cond.fieldLink RX2 9 "LazyState$Body" "cells" "[J", Cond.arrayClass .int, Cond.fieldLink RX2 15 "LazyState$Body" "items" "[I", Cond.fieldLink RX2 19 "LazyState$Body" "type" "I", Cond.fieldLink RX2 23 "LazyState$Body" "SORTS" "[I", Cond.constantLong RX2 26 (-3), Cond.methodLink RX3 106 yX2_copyFrom, Cond.instanceMethod yX2_copyFrom, Cond.selects RX2 yX2_copyFrom yX2_copyFrom, Cond.code yX2_copyFrom cX2_copyFrom 2 none, Cond.methodLink RX2 40 arraycopyName, Cond.native arraycopyName, Cond.static arraycopyName, Cond.initialized "java/lang/System", Cond.methodLink RX3 168 yX2_sortOf]
def wsX5_all_r6 : List Cond := [Cond.instanceMethod yX2_sortOf, Cond.selects RX2 yX2_sortOf yX2_sortOf, Cond.code yX2_sortOf cX2_sortOf 2 (some .int), Cond.methodLink RX3 180 yX3_read, Cond.instanceMethod yX3_read, Cond.selects RX3 yX3_read yX3_read, Cond.code yX3_read cX3_read 3 (some (.object "LazyState$Body")), Cond.methodLink RX3 171 yX4_noteRead, Cond.instanceMethod yX4_noteRead, Cond.selects RX4 yX4_noteRead yX4_noteRead, Cond.code yX4_noteRead cX4_noteRead 3 none, Cond.fieldLink RX4 9 "LazyState$Trace" "entries" "[I", Cond.methodLink RX3 132 yX3_put, Cond.instanceMethod yX3_put, Cond.selects RX3 yX3_put yX3_put, Cond.code yX3_put cX3_put 7 (some .int), Cond.methodLink RX3 187 yX3_change, Cond.instanceMethod yX3_change, Cond.selects RX3 yX3_change yX3_change, Cond.code yX3_change cX3_change 3 (some (.object "LazyState$Body")), Cond.methodLink RX3 174 yX4_noteChanged, Cond.instanceMethod yX4_noteChanged, Cond.selects RX4 yX4_noteChanged yX4_noteChanged, Cond.code yX4_noteChanged cX4_noteChanged 3 none]
def wsX5_all_r7 : List Cond := [Cond.methodLink RX3 136 yX3_follow, Cond.instanceMethod yX3_follow, Cond.selects RX3 yX3_follow yX3_follow, Cond.code yX3_follow cX3_follow 5 (some .int), Cond.methodLink RX3 142 yX3_getItem, Cond.instanceMethod yX3_getItem, Cond.selects RX3 yX3_getItem yX3_getItem, Cond.code yX3_getItem cX3_getItem 7 (some .int), Cond.fieldLink RX3 194 "LazyState$Body" "items" "[I", Cond.methodLink RX3 190 yX3_itemRefusal, Cond.static yX3_itemRefusal, Cond.code yX3_itemRefusal cX3_itemRefusal 4 (some .int), Cond.constantLong RX3 200 (-3), Cond.methodLink RX3 202 yX2_hasItem, Cond.instanceMethod yX2_hasItem, Cond.selects RX2 yX2_hasItem yX2_hasItem, Cond.code yX2_hasItem cX2_hasItem 4 (some .boolean), Cond.methodLink RX3 197 yX2_itemPlace, Cond.static yX2_itemPlace, Cond.code yX2_itemPlace cX2_itemPlace 2 (some .int), Cond.methodLink RX3 146 yX3_lay, Cond.instanceMethod yX3_lay, Cond.selects RX3 yX3_lay yX3_lay, Cond.code yX3_lay cX3_lay 6 (some .int)]
def wsX5_all_r8 : List Cond := [Cond.methodLink RX3 149 yX3_renew, Cond.instanceMethod yX3_renew, Cond.selects RX3 yX3_renew yX3_renew, Cond.code yX3_renew cX3_renew 6 (some .int), Cond.constantLong RX3 206 (8), Cond.methodLink RX3 208 yX2_renewRow, Cond.instanceMethod yX2_renewRow, Cond.selects RX2 yX2_renewRow yX2_renewRow, Cond.code yX2_renewRow cX2_renewRow 4 none, Cond.methodLink RX2 28 yX2_itemPlace, Cond.methodLink RX3 153 yX3_shift, Cond.instanceMethod yX3_shift, Cond.selects RX3 yX3_shift yX3_shift, Cond.code yX3_shift cX3_shift 9 (some .int), Cond.fieldLink RX3 211 "LazyState$Act" "e" "I", Cond.methodLink RX3 214 arraycopyName, Cond.methodLink RX3 156 yX3_areAlike, Cond.instanceMethod yX3_areAlike, Cond.selects RX3 yX3_areAlike yX3_areAlike, Cond.code yX3_areAlike cX3_areAlike 4 (some .boolean), Cond.methodLink RX3 93 yX2_hasSameField, Cond.instanceMethod yX2_hasSameField, Cond.selects RX2 yX2_hasSameField yX2_hasSameField, Cond.code yX2_hasSameField cX2_hasSameField 3 (some .boolean)]
def wsX5_all_r9 : List Cond := [Cond.methodLink RX2 32 yX2_sortOf, Cond.methodLink RX2 36 yX2_hasSameItems, Cond.instanceMethod yX2_hasSameItems, Cond.selects RX2 yX2_hasSameItems yX2_hasSameItems, Cond.code yX2_hasSameItems cX2_hasSameItems 4 (some .boolean), Cond.methodLink RX3 160 yX3_goOnAt, Cond.instanceMethod yX3_goOnAt, Cond.selects RX3 yX3_goOnAt yX3_goOnAt, Cond.code yX3_goOnAt cX3_goOnAt 2 (some .int), Cond.methodLink RX3 164 yX3_end, Cond.instanceMethod yX3_end, Cond.selects RX3 yX3_end yX3_end, Cond.code yX3_end cX3_end 3 (some .int), Cond.methodLink RX5 162 yX3_loadAhead, Cond.instanceMethod yX3_loadAhead, Cond.selects RX3 yX3_loadAhead yX3_loadAhead, Cond.code yX3_loadAhead cX3_loadAhead 3 none, Cond.methodLink RX5 165 yX3_endsLike, Cond.instanceMethod yX3_endsLike, Cond.selects RX3 yX3_endsLike yX3_endsLike, Cond.code yX3_endsLike cX3_endsLike 2 (some .boolean), Cond.methodLink RX3 85 yX4_isSameAs, Cond.instanceMethod yX4_isSameAs, Cond.selects RX4 yX4_isSameAs yX4_isSameAs]
def wsX5_all_r10 : List Cond := [Cond.code yX4_isSameAs cX4_isSameAs 3 (some .boolean), Cond.methodLink RX5 169 yX3_changesLike, Cond.instanceMethod yX3_changesLike, Cond.selects RX3 yX3_changesLike yX3_changesLike, Cond.code yX3_changesLike cX3_changesLike 5 (some .boolean), Cond.methodLink RX3 89 yX3_bodyOf, Cond.instanceMethod yX3_bodyOf, Cond.selects RX3 yX3_bodyOf yX3_bodyOf, Cond.code yX3_bodyOf cX3_bodyOf 2 (some (.object "LazyState$Body"))]
def wsX5_all : List Cond := .code yX5_all cX5_all 6 (some .int) :: ((wsX5_all_r1 ++ (wsX5_all_r2 ++ (wsX5_all_r3 ++ (wsX5_all_r4 ++ (wsX5_all_r5 ++ (wsX5_all_r6 ++ (wsX5_all_r7 ++ (wsX5_all_r8 ++ (wsX5_all_r9 ++ wsX5_all_r10))))))))) ++ wsX50 ++ wsX30 ++ wsX40 ++ wsX10 ++ wsX00 ++ wsX20)
def wsX5_view_r1 : List Cond := [Cond.fieldLink RX5 41 "LazyState" "viewStatus" "I", Cond.fieldLink RX5 68 "LazyState" "heightNow" "I", Cond.constantLong RX5 173 (-1), Cond.fieldLink RX5 11 "LazyState" "objects" "[LLazyState$Body;", Cond.fieldLink RX5 179 "LazyState$Body" "cells" "[J", Cond.fieldLink RX5 187 "LazyState$Body" "items" "[I", Cond.methodLink RX5 52 yX5_sortAt, Cond.instanceMethod yX5_sortAt, Cond.selects RX5 yX5_sortAt yX5_sortAt, Cond.initialized RX5, Cond.code yX5_sortAt cX5_sortAt 3 (some .int), Cond.methodLink RX5 60 yX5_isObject, Cond.instanceMethod yX5_isObject, Cond.selects RX5 yX5_isObject yX5_isObject, Cond.code yX5_isObject cX5_isObject 2 (some .boolean), Cond.fieldLink RX5 46 "LazyState" "objectCount" "I", Cond.methodLink RX5 199 yX2_sortOf, Cond.instanceMethod yX2_sortOf, Cond.selects RX2 yX2_sortOf yX2_sortOf, Cond.initialized RX2, Cond.code yX2_sortOf cX2_sortOf 2 (some .int), Cond.fieldLink RX2 23 "LazyState$Body" "SORTS" "[I", Cond.fieldLink RX2 19 "LazyState$Body" "type" "I", Cond.methodLink RX5 175 yX2_asOf]
def wsX5_view_r2 : List Cond := [Cond.instanceMethod yX2_asOf, Cond.selects RX2 yX2_asOf yX2_asOf, Cond.code yX2_asOf cX2_asOf 3 (some (.object "LazyState$Body")), Cond.fieldLink RX2 46 "LazyState$Body" "before" "LLazyState$Body;", Cond.fieldLink RX2 50 "LazyState$Body" "since" "I", Cond.methodLink RX5 183 yX2_hasItem, Cond.instanceMethod yX2_hasItem, Cond.selects RX2 yX2_hasItem yX2_hasItem, Cond.code yX2_hasItem cX2_hasItem 4 (some .boolean), Cond.fieldLink RX2 9 "LazyState$Body" "cells" "[J", Cond.methodLink RX5 190 yX2_itemPlace, Cond.static yX2_itemPlace, Cond.code yX2_itemPlace cX2_itemPlace 2 (some .int)]
def wsX5_view : List Cond := .code yX5_view cX5_view 7 (some .long) :: ((wsX5_view_r1 ++ wsX5_view_r2) ++ wsX50 ++ wsX20)
def wsX5_status : List Cond := .code yX5_status cX5_status 1 (some .int) :: ([.fieldLink RX5 41 "LazyState" "viewStatus" "I"] ++ wsX50)
def wsX5_told : List Cond := .code yX5_told cX5_told 2 (some .int) :: ([.fieldLink RX5 46 "LazyState" "objectCount" "I", .fieldLink RX5 68 "LazyState" "heightNow" "I", .fieldLink RX5 116 "LazyState" "fetchCount" "I", .fieldLink RX5 24 "LazyState" "latest" "LLazyState$Run;", .fieldLink RX5 147 "LazyState$Run" "trace" "LLazyState$Trace;", .fieldLink RX5 151 "LazyState$Trace" "count" "I", .fieldLink RX5 193 "LazyState$Trace" "changedCount" "I", .fieldLink RX5 131 "LazyState" "writtenCount" "I", .fieldLink RX5 119 "LazyState$Run" "loadedBits" "I", .fieldLink RX5 196 "LazyState$Run" "done" "I", .fieldLink RX5 113 "LazyState" "callCount" "I", .methodLink RX5 125 yJ6_bitCount_0f7a4, .static yJ6_bitCount_0f7a4, .initialized RJ6, .code yJ6_bitCount_0f7a4 cJ6_bitCount_0f7a4 1 (some .int), .constant RJ6 265 (1431655765), .constant RJ6 266 (858993459), .constant RJ6 267 (252645135)] ++ wsX50 ++ wsX30 ++ wsX40)
def wsX6_init_r1 : List Cond := [Cond.methodLink RX6 1 objectInit, Cond.instanceMethod objectInit, Cond.code objectInit ⟨#[0xb1]⟩ 1 none, Cond.arrayClass .int, Cond.fieldLink RX6 7 "LazyStateModel" "types" "[I", Cond.arrayClass .long, Cond.fieldLink RX6 13 "LazyStateModel" "numbers" "[J", Cond.fieldLink RX6 17 "LazyStateModel" "sizes" "[I", Cond.constant RX6 20 (64512), Cond.fieldLink RX6 21 "LazyStateModel" "items" "[I", Cond.arrayClass .boolean, Cond.fieldLink RX6 24 "LazyStateModel" "isCached" "[Z", Cond.fieldLink RX6 28 "LazyStateModel" "times" "[I", Cond.fieldLink RX6 31 "LazyStateModel" "many" "[I", Cond.fieldLink RX6 34 "LazyStateModel" "kinds" "[I", Cond.fieldLink RX6 37 "LazyStateModel" "as" "[I", Cond.fieldLink RX6 40 "LazyStateModel" "bs" "[J", Cond.fieldLink RX6 43 "LazyStateModel" "cs" "[I", Cond.fieldLink RX6 46 "LazyStateModel" "ds" "[I", Cond.fieldLink RX6 49 "LazyStateModel" "es" "[I", Cond.fieldLink RX6 52 "LazyStateModel" "where" "I", Cond.fieldLink RX6 56 "LazyStateModel" "touchedLeaf" "[I", Cond.fieldLink RX6 59 "LazyStateModel" "touchedHow" "[I", Cond.fieldLink RX6 62 "LazyStateModel" "written" "[I"]
def wsX6_init_r2 : List Cond := [Cond.fieldLink RX6 65 "LazyStateModel" "isLoaded" "[Z", Cond.fieldLink RX6 68 "LazyStateModel" "handles" "[I", Cond.fieldLink RX6 71 "LazyStateModel" "values" "[J"]
def wsX6_init : List Cond := .code yX6_init cX6_init 1 none :: ((wsX6_init_r1 ++ wsX6_init_r2) ++ wsX60)
def wsX6_in : List Cond := .code yX6_in cX6_in 6 (some .boolean) :: ([])
def wsX6_isObject : List Cond := .code yX6_isObject cX6_isObject 2 (some .boolean) :: ([.fieldLink RX6 74 "LazyStateModel" "objects" "I", .methodLink RX6 77 yX6_in, .static yX6_in, .initialized RX6, .code yX6_in cX6_in 6 (some .boolean)] ++ wsX60)
def wsX6_fieldsOf : List Cond := .code yX6_fieldsOf cX6_fieldsOf 1 (some .int) :: ([])
def wsX6_sortOf : List Cond := .code yX6_sortOf cX6_sortOf 2 (some .int) :: ([])
def wsX6_has : List Cond := .code yX6_has cX6_has 4 (some .boolean) :: ([.fieldLink RX6 7 "LazyStateModel" "types" "[I", .methodLink RX6 81 yX6_isObject, .instanceMethod yX6_isObject, .selects RX6 yX6_isObject yX6_isObject, .initialized RX6, .code yX6_isObject cX6_isObject 2 (some .boolean), .fieldLink RX6 74 "LazyStateModel" "objects" "I", .methodLink RX6 77 yX6_in, .static yX6_in, .code yX6_in cX6_in 6 (some .boolean), .methodLink RX6 85 yX6_fieldsOf, .static yX6_fieldsOf, .code yX6_fieldsOf cX6_fieldsOf 1 (some .int), .methodLink RX6 89 yX6_sortOf, .static yX6_sortOf, .code yX6_sortOf cX6_sortOf 2 (some .int)] ++ wsX60)
def wsX6_first : List Cond := .code yX6_first cX6_first 5 none :: ([.fieldLink RX6 13 "LazyStateModel" "numbers" "[J", .fieldLink RX6 7 "LazyStateModel" "types" "[I", .constantLong RX6 93 (-3), .fieldLink RX6 17 "LazyStateModel" "sizes" "[I", .methodLink RX6 85 yX6_fieldsOf, .static yX6_fieldsOf, .initialized RX6, .code yX6_fieldsOf cX6_fieldsOf 1 (some .int), .methodLink RX6 89 yX6_sortOf, .static yX6_sortOf, .code yX6_sortOf cX6_sortOf 2 (some .int)] ++ wsX60)
def wsX6_object : List Cond := .code yX6_object cX6_object 5 (some .int) :: ([.constantLong RX6 95 (2), .fieldLink RX6 74 "LazyStateModel" "objects" "I", .fieldLink RX6 7 "LazyStateModel" "types" "[I", .methodLink RX6 77 yX6_in, .static yX6_in, .initialized RX6, .code yX6_in cX6_in 6 (some .boolean), .methodLink RX6 97 yX6_first, .instanceMethod yX6_first, .selects RX6 yX6_first yX6_first, .code yX6_first cX6_first 5 none, .fieldLink RX6 13 "LazyStateModel" "numbers" "[J", .constantLong RX6 93 (-3), .fieldLink RX6 17 "LazyStateModel" "sizes" "[I", .methodLink RX6 85 yX6_fieldsOf, .static yX6_fieldsOf, .code yX6_fieldsOf cX6_fieldsOf 1 (some .int), .methodLink RX6 89 yX6_sortOf, .static yX6_sortOf, .code yX6_sortOf cX6_sortOf 2 (some .int)] ++ wsX60)
def wsX6_copyLeaf : List Cond := .code yX6_copyLeaf cX6_copyLeaf 7 none :: ([.fieldLink RX6 13 "LazyStateModel" "numbers" "[J", .fieldLink RX6 17 "LazyStateModel" "sizes" "[I", .fieldLink RX6 21 "LazyStateModel" "items" "[I"] ++ wsX60)
def wsX6_copyAll : List Cond := .code yX6_copyAll cX6_copyAll 4 none :: ([.methodLink RX6 101 yX6_copyLeaf, .instanceMethod yX6_copyLeaf, .selects RX6 yX6_copyLeaf yX6_copyLeaf, .initialized RX6, .code yX6_copyLeaf cX6_copyLeaf 7 none, .fieldLink RX6 13 "LazyStateModel" "numbers" "[J", .fieldLink RX6 17 "LazyStateModel" "sizes" "[I", .fieldLink RX6 21 "LazyStateModel" "items" "[I"] ++ wsX60)
def wsX6_areAlike : List Cond := .code yX6_areAlike cX6_areAlike 5 (some .boolean) :: ([.fieldLink RX6 13 "LazyStateModel" "numbers" "[J", .fieldLink RX6 17 "LazyStateModel" "sizes" "[I", .fieldLink RX6 21 "LazyStateModel" "items" "[I"] ++ wsX60)
def wsX6_rises : List Cond := .code yX6_rises cX6_rises 2 none :: ([.fieldLink RX6 104 "LazyStateModel" "height" "I", .fieldLink RX6 24 "LazyStateModel" "isCached" "[Z", .methodLink RX6 107 yX6_copyAll, .instanceMethod yX6_copyAll, .selects RX6 yX6_copyAll yX6_copyAll, .initialized RX6, .code yX6_copyAll cX6_copyAll 4 none, .methodLink RX6 101 yX6_copyLeaf, .instanceMethod yX6_copyLeaf, .selects RX6 yX6_copyLeaf yX6_copyLeaf, .code yX6_copyLeaf cX6_copyLeaf 7 none, .fieldLink RX6 13 "LazyStateModel" "numbers" "[J", .fieldLink RX6 17 "LazyStateModel" "sizes" "[I", .fieldLink RX6 21 "LazyStateModel" "items" "[I"] ++ wsX60)
def wsX6_changed : List Cond := .code yX6_changed cX6_changed 2 (some .int) :: ([.fieldLink RX6 104 "LazyStateModel" "height" "I", .methodLink RX6 111 yX6_areAlike, .instanceMethod yX6_areAlike, .selects RX6 yX6_areAlike yX6_areAlike, .initialized RX6, .code yX6_areAlike cX6_areAlike 5 (some .boolean), .fieldLink RX6 13 "LazyStateModel" "numbers" "[J", .fieldLink RX6 17 "LazyStateModel" "sizes" "[I", .fieldLink RX6 21 "LazyStateModel" "items" "[I", .methodLink RX6 115 yX6_rises, .instanceMethod yX6_rises, .selects RX6 yX6_rises yX6_rises, .code yX6_rises cX6_rises 2 none, .fieldLink RX6 24 "LazyStateModel" "isCached" "[Z", .methodLink RX6 107 yX6_copyAll, .instanceMethod yX6_copyAll, .selects RX6 yX6_copyAll yX6_copyAll, .code yX6_copyAll cX6_copyAll 4 none, .methodLink RX6 101 yX6_copyLeaf, .instanceMethod yX6_copyLeaf, .selects RX6 yX6_copyLeaf yX6_copyLeaf, .code yX6_copyLeaf cX6_copyLeaf 7 none] ++ wsX60)
def wsX6_number_r1 : List Cond := [Cond.fieldLink RX6 104 "LazyStateModel" "height" "I", Cond.fieldLink RX6 13 "LazyStateModel" "numbers" "[J", Cond.methodLink RX6 118 yX6_has, Cond.instanceMethod yX6_has, Cond.selects RX6 yX6_has yX6_has, Cond.initialized RX6, Cond.code yX6_has cX6_has 4 (some .boolean), Cond.fieldLink RX6 7 "LazyStateModel" "types" "[I", Cond.methodLink RX6 81 yX6_isObject, Cond.instanceMethod yX6_isObject, Cond.selects RX6 yX6_isObject yX6_isObject, Cond.code yX6_isObject cX6_isObject 2 (some .boolean), Cond.fieldLink RX6 74 "LazyStateModel" "objects" "I", Cond.methodLink RX6 77 yX6_in, Cond.static yX6_in, Cond.code yX6_in cX6_in 6 (some .boolean), Cond.methodLink RX6 85 yX6_fieldsOf, Cond.static yX6_fieldsOf, Cond.code yX6_fieldsOf cX6_fieldsOf 1 (some .int), Cond.methodLink RX6 89 yX6_sortOf, Cond.static yX6_sortOf, Cond.code yX6_sortOf cX6_sortOf 2 (some .int), Cond.methodLink RX6 107 yX6_copyAll, Cond.instanceMethod yX6_copyAll]
def wsX6_number_r2 : List Cond := [Cond.selects RX6 yX6_copyAll yX6_copyAll, Cond.code yX6_copyAll cX6_copyAll 4 none, Cond.methodLink RX6 101 yX6_copyLeaf, Cond.instanceMethod yX6_copyLeaf, Cond.selects RX6 yX6_copyLeaf yX6_copyLeaf, Cond.code yX6_copyLeaf cX6_copyLeaf 7 none, Cond.fieldLink RX6 17 "LazyStateModel" "sizes" "[I", Cond.fieldLink RX6 21 "LazyStateModel" "items" "[I", Cond.methodLink RX6 122 yX6_changed, Cond.instanceMethod yX6_changed, Cond.selects RX6 yX6_changed yX6_changed, Cond.code yX6_changed cX6_changed 2 (some .int), Cond.methodLink RX6 111 yX6_areAlike, Cond.instanceMethod yX6_areAlike, Cond.selects RX6 yX6_areAlike yX6_areAlike, Cond.code yX6_areAlike cX6_areAlike 5 (some .boolean), Cond.methodLink RX6 115 yX6_rises, Cond.instanceMethod yX6_rises, Cond.selects RX6 yX6_rises yX6_rises, Cond.code yX6_rises cX6_rises 2 none, Cond.fieldLink RX6 24 "LazyStateModel" "isCached" "[Z"]
def wsX6_number : List Cond := .code yX6_number cX6_number 5 (some .int) :: ((wsX6_number_r1 ++ wsX6_number_r2) ++ wsX60)
def wsX6_link_r1 : List Cond := [Cond.fieldLink RX6 104 "LazyStateModel" "height" "I", Cond.fieldLink RX6 13 "LazyStateModel" "numbers" "[J", Cond.methodLink RX6 118 yX6_has, Cond.instanceMethod yX6_has, Cond.selects RX6 yX6_has yX6_has, Cond.initialized RX6, Cond.code yX6_has cX6_has 4 (some .boolean), Cond.fieldLink RX6 7 "LazyStateModel" "types" "[I", Cond.methodLink RX6 81 yX6_isObject, Cond.instanceMethod yX6_isObject, Cond.selects RX6 yX6_isObject yX6_isObject, Cond.code yX6_isObject cX6_isObject 2 (some .boolean), Cond.fieldLink RX6 74 "LazyStateModel" "objects" "I", Cond.methodLink RX6 77 yX6_in, Cond.static yX6_in, Cond.code yX6_in cX6_in 6 (some .boolean), Cond.methodLink RX6 85 yX6_fieldsOf, Cond.static yX6_fieldsOf, Cond.code yX6_fieldsOf cX6_fieldsOf 1 (some .int), Cond.methodLink RX6 89 yX6_sortOf, Cond.static yX6_sortOf, Cond.code yX6_sortOf cX6_sortOf 2 (some .int), Cond.methodLink RX6 107 yX6_copyAll, Cond.instanceMethod yX6_copyAll]
def wsX6_link_r2 : List Cond := [Cond.selects RX6 yX6_copyAll yX6_copyAll, Cond.code yX6_copyAll cX6_copyAll 4 none, Cond.methodLink RX6 101 yX6_copyLeaf, Cond.instanceMethod yX6_copyLeaf, Cond.selects RX6 yX6_copyLeaf yX6_copyLeaf, Cond.code yX6_copyLeaf cX6_copyLeaf 7 none, Cond.fieldLink RX6 17 "LazyStateModel" "sizes" "[I", Cond.fieldLink RX6 21 "LazyStateModel" "items" "[I", Cond.methodLink RX6 122 yX6_changed, Cond.instanceMethod yX6_changed, Cond.selects RX6 yX6_changed yX6_changed, Cond.code yX6_changed cX6_changed 2 (some .int), Cond.methodLink RX6 111 yX6_areAlike, Cond.instanceMethod yX6_areAlike, Cond.selects RX6 yX6_areAlike yX6_areAlike, Cond.code yX6_areAlike cX6_areAlike 5 (some .boolean), Cond.methodLink RX6 115 yX6_rises, Cond.instanceMethod yX6_rises, Cond.selects RX6 yX6_rises yX6_rises, Cond.code yX6_rises cX6_rises 2 none, Cond.fieldLink RX6 24 "LazyStateModel" "isCached" "[Z"]
def wsX6_link : List Cond := .code yX6_link cX6_link 4 (some .int) :: ((wsX6_link_r1 ++ wsX6_link_r2) ++ wsX60)
def wsX6_newRow : List Cond := .code yX6_newRow cX6_newRow 4 none :: ([.fieldLink RX6 17 "LazyStateModel" "sizes" "[I", .fieldLink RX6 21 "LazyStateModel" "items" "[I"] ++ wsX60)
def wsX6_row_r1 : List Cond := [Cond.constantLong RX6 125 (8), Cond.fieldLink RX6 104 "LazyStateModel" "height" "I", Cond.methodLink RX6 118 yX6_has, Cond.instanceMethod yX6_has, Cond.selects RX6 yX6_has yX6_has, Cond.initialized RX6, Cond.code yX6_has cX6_has 4 (some .boolean), Cond.fieldLink RX6 7 "LazyStateModel" "types" "[I", Cond.methodLink RX6 81 yX6_isObject, Cond.instanceMethod yX6_isObject, Cond.selects RX6 yX6_isObject yX6_isObject, Cond.code yX6_isObject cX6_isObject 2 (some .boolean), Cond.fieldLink RX6 74 "LazyStateModel" "objects" "I", Cond.methodLink RX6 77 yX6_in, Cond.static yX6_in, Cond.code yX6_in cX6_in 6 (some .boolean), Cond.methodLink RX6 85 yX6_fieldsOf, Cond.static yX6_fieldsOf, Cond.code yX6_fieldsOf cX6_fieldsOf 1 (some .int), Cond.methodLink RX6 89 yX6_sortOf, Cond.static yX6_sortOf, Cond.code yX6_sortOf cX6_sortOf 2 (some .int), Cond.methodLink RX6 107 yX6_copyAll, Cond.instanceMethod yX6_copyAll]
def wsX6_row_r2 : List Cond := [Cond.selects RX6 yX6_copyAll yX6_copyAll, Cond.code yX6_copyAll cX6_copyAll 4 none, Cond.methodLink RX6 101 yX6_copyLeaf, Cond.instanceMethod yX6_copyLeaf, Cond.selects RX6 yX6_copyLeaf yX6_copyLeaf, Cond.code yX6_copyLeaf cX6_copyLeaf 7 none, Cond.fieldLink RX6 13 "LazyStateModel" "numbers" "[J", Cond.fieldLink RX6 17 "LazyStateModel" "sizes" "[I", Cond.fieldLink RX6 21 "LazyStateModel" "items" "[I", Cond.methodLink RX6 127 yX6_newRow, Cond.instanceMethod yX6_newRow, Cond.selects RX6 yX6_newRow yX6_newRow, Cond.code yX6_newRow cX6_newRow 4 none, Cond.methodLink RX6 122 yX6_changed, Cond.instanceMethod yX6_changed, Cond.selects RX6 yX6_changed yX6_changed, Cond.code yX6_changed cX6_changed 2 (some .int), Cond.methodLink RX6 111 yX6_areAlike, Cond.instanceMethod yX6_areAlike, Cond.selects RX6 yX6_areAlike yX6_areAlike, Cond.code yX6_areAlike cX6_areAlike 5 (some .boolean), Cond.methodLink RX6 115 yX6_rises, Cond.instanceMethod yX6_rises, Cond.selects RX6 yX6_rises yX6_rises]
def wsX6_row_r3 : List Cond := [Cond.code yX6_rises cX6_rises 2 none, Cond.fieldLink RX6 24 "LazyStateModel" "isCached" "[Z"]
def wsX6_row : List Cond := .code yX6_row cX6_row 4 (some .int) :: ((wsX6_row_r1 ++ (wsX6_row_r2 ++ wsX6_row_r3)) ++ wsX60)
def wsX6_four : List Cond := .code yX6_four cX6_four 2 (some .boolean) :: ([.constantLong RX6 130 (3), .methodLink RX6 77 yX6_in, .static yX6_in, .initialized RX6, .code yX6_in cX6_in 6 (some .boolean)])
def wsX6_eight : List Cond := .code yX6_eight cX6_eight 2 (some .boolean) :: ([.constantLong RX6 132 (7), .methodLink RX6 77 yX6_in, .static yX6_in, .initialized RX6, .code yX6_in cX6_in 6 (some .boolean)])
def wsX6_isAct : List Cond := .code yX6_isAct cX6_isAct 7 (some .boolean) :: ([.constantLong RX6 141 (32), .methodLink RX6 134 yX6_four, .static yX6_four, .initialized RX6, .code yX6_four cX6_four 2 (some .boolean), .constantLong RX6 130 (3), .methodLink RX6 77 yX6_in, .static yX6_in, .code yX6_in cX6_in 6 (some .boolean), .methodLink RX6 138 yX6_eight, .static yX6_eight, .code yX6_eight cX6_eight 2 (some .boolean), .constantLong RX6 132 (7)])
def wsX6_act : List Cond := .code yX6_act cX6_act 10 (some .int) :: ([.constantLong RX6 143 (5), .fieldLink RX6 31 "LazyStateModel" "many" "[I", .fieldLink RX6 34 "LazyStateModel" "kinds" "[I", .fieldLink RX6 37 "LazyStateModel" "as" "[I", .fieldLink RX6 40 "LazyStateModel" "bs" "[J", .fieldLink RX6 43 "LazyStateModel" "cs" "[I", .fieldLink RX6 46 "LazyStateModel" "ds" "[I", .fieldLink RX6 49 "LazyStateModel" "es" "[I", .methodLink RX6 77 yX6_in, .static yX6_in, .initialized RX6, .code yX6_in cX6_in 6 (some .boolean), .methodLink RX6 145 yX6_isAct, .static yX6_isAct, .code yX6_isAct cX6_isAct 7 (some .boolean), .constantLong RX6 141 (32), .methodLink RX6 134 yX6_four, .static yX6_four, .code yX6_four cX6_four 2 (some .boolean), .constantLong RX6 130 (3), .methodLink RX6 138 yX6_eight, .static yX6_eight, .code yX6_eight cX6_eight 2 (some .boolean), .constantLong RX6 132 (7)] ++ wsX60)
def wsX6_clear : List Cond := .code yX6_clear cX6_clear 3 (some .int) :: ([.constantLong RX6 143 (5), .fieldLink RX6 31 "LazyStateModel" "many" "[I", .methodLink RX6 77 yX6_in, .static yX6_in, .initialized RX6, .code yX6_in cX6_in 6 (some .boolean)] ++ wsX60)
def wsX6_load : List Cond := .code yX6_load cX6_load 2 none :: ([.fieldLink RX6 65 "LazyStateModel" "isLoaded" "[Z", .fieldLink RX6 149 "LazyStateModel" "fetches" "I", .fieldLink RX6 24 "LazyStateModel" "isCached" "[Z"] ++ wsX60)
def wsX6_touch : List Cond := .code yX6_touch cX6_touch 5 none :: ([.fieldLink RX6 152 "LazyStateModel" "touchedMany" "I", .fieldLink RX6 56 "LazyStateModel" "touchedLeaf" "[I", .fieldLink RX6 59 "LazyStateModel" "touchedHow" "[I"] ++ wsX60)
def wsX6_leafOf : List Cond := .code yX6_leafOf cX6_leafOf 6 (some .int) :: ([.fieldLink RX6 68 "LazyStateModel" "handles" "[I", .fieldLink RX6 155 "LazyStateModel" "threw" "I", .fieldLink RX6 7 "LazyStateModel" "types" "[I", .methodLink RX6 158 yX6_load, .instanceMethod yX6_load, .selects RX6 yX6_load yX6_load, .initialized RX6, .code yX6_load cX6_load 2 none, .fieldLink RX6 65 "LazyStateModel" "isLoaded" "[Z", .fieldLink RX6 149 "LazyStateModel" "fetches" "I", .fieldLink RX6 24 "LazyStateModel" "isCached" "[Z", .methodLink RX6 85 yX6_fieldsOf, .static yX6_fieldsOf, .code yX6_fieldsOf cX6_fieldsOf 1 (some .int), .methodLink RX6 89 yX6_sortOf, .static yX6_sortOf, .code yX6_sortOf cX6_sortOf 2 (some .int)] ++ wsX60)
def wsX6_readLeaf_r1 : List Cond := [Cond.methodLink RX6 162 yX6_leafOf, Cond.instanceMethod yX6_leafOf, Cond.selects RX6 yX6_leafOf yX6_leafOf, Cond.initialized RX6, Cond.code yX6_leafOf cX6_leafOf 6 (some .int), Cond.fieldLink RX6 68 "LazyStateModel" "handles" "[I", Cond.fieldLink RX6 155 "LazyStateModel" "threw" "I", Cond.fieldLink RX6 7 "LazyStateModel" "types" "[I", Cond.methodLink RX6 158 yX6_load, Cond.instanceMethod yX6_load, Cond.selects RX6 yX6_load yX6_load, Cond.code yX6_load cX6_load 2 none, Cond.fieldLink RX6 65 "LazyStateModel" "isLoaded" "[Z", Cond.fieldLink RX6 149 "LazyStateModel" "fetches" "I", Cond.fieldLink RX6 24 "LazyStateModel" "isCached" "[Z", Cond.methodLink RX6 85 yX6_fieldsOf, Cond.static yX6_fieldsOf, Cond.code yX6_fieldsOf cX6_fieldsOf 1 (some .int), Cond.methodLink RX6 89 yX6_sortOf, Cond.static yX6_sortOf, Cond.code yX6_sortOf cX6_sortOf 2 (some .int), Cond.methodLink RX6 166 yX6_touch, Cond.instanceMethod yX6_touch, Cond.selects RX6 yX6_touch yX6_touch]
def wsX6_readLeaf_r2 : List Cond := [Cond.code yX6_touch cX6_touch 5 none, Cond.fieldLink RX6 152 "LazyStateModel" "touchedMany" "I", Cond.fieldLink RX6 56 "LazyStateModel" "touchedLeaf" "[I", Cond.fieldLink RX6 59 "LazyStateModel" "touchedHow" "[I"]
def wsX6_readLeaf : List Cond := .code yX6_readLeaf cX6_readLeaf 6 (some .int) :: ((wsX6_readLeaf_r1 ++ wsX6_readLeaf_r2) ++ wsX60)
def wsX6_at : List Cond := .code yX6_at cX6_at 1 (some .int) :: ([])
def wsX6_itemOf : List Cond := .code yX6_itemOf cX6_itemOf 4 (some .int) :: ([.fieldLink RX6 17 "LazyStateModel" "sizes" "[I", .fieldLink RX6 155 "LazyStateModel" "threw" "I", .methodLink RX6 169 yX6_at, .static yX6_at, .initialized RX6, .code yX6_at cX6_at 1 (some .int), .methodLink RX6 77 yX6_in, .static yX6_in, .code yX6_in cX6_in 6 (some .boolean)] ++ wsX60)
def wsX6_shift_r1 : List Cond := [Cond.fieldLink RX6 17 "LazyStateModel" "sizes" "[I", Cond.fieldLink RX6 155 "LazyStateModel" "threw" "I", Cond.fieldLink RX6 21 "LazyStateModel" "items" "[I", Cond.methodLink RX6 172 yX6_readLeaf, Cond.instanceMethod yX6_readLeaf, Cond.selects RX6 yX6_readLeaf yX6_readLeaf, Cond.initialized RX6, Cond.code yX6_readLeaf cX6_readLeaf 6 (some .int), Cond.methodLink RX6 162 yX6_leafOf, Cond.instanceMethod yX6_leafOf, Cond.selects RX6 yX6_leafOf yX6_leafOf, Cond.code yX6_leafOf cX6_leafOf 6 (some .int), Cond.fieldLink RX6 68 "LazyStateModel" "handles" "[I", Cond.fieldLink RX6 7 "LazyStateModel" "types" "[I", Cond.methodLink RX6 158 yX6_load, Cond.instanceMethod yX6_load, Cond.selects RX6 yX6_load yX6_load, Cond.code yX6_load cX6_load 2 none, Cond.fieldLink RX6 65 "LazyStateModel" "isLoaded" "[Z", Cond.fieldLink RX6 149 "LazyStateModel" "fetches" "I", Cond.fieldLink RX6 24 "LazyStateModel" "isCached" "[Z", Cond.methodLink RX6 85 yX6_fieldsOf, Cond.static yX6_fieldsOf, Cond.code yX6_fieldsOf cX6_fieldsOf 1 (some .int)]
def wsX6_shift_r2 : List Cond := [Cond.methodLink RX6 89 yX6_sortOf, Cond.static yX6_sortOf, Cond.code yX6_sortOf cX6_sortOf 2 (some .int), Cond.methodLink RX6 166 yX6_touch, Cond.instanceMethod yX6_touch, Cond.selects RX6 yX6_touch yX6_touch, Cond.code yX6_touch cX6_touch 5 none, Cond.fieldLink RX6 152 "LazyStateModel" "touchedMany" "I", Cond.fieldLink RX6 56 "LazyStateModel" "touchedLeaf" "[I", Cond.fieldLink RX6 59 "LazyStateModel" "touchedHow" "[I", Cond.methodLink RX6 169 yX6_at, Cond.static yX6_at, Cond.code yX6_at cX6_at 1 (some .int)]
def wsX6_shift : List Cond := .code yX6_shift cX6_shift 13 none :: ((wsX6_shift_r1 ++ wsX6_shift_r2) ++ wsX60)
def wsX6_rowActs_r1 : List Cond := [Cond.fieldLink RX6 37 "LazyStateModel" "as" "[I", Cond.fieldLink RX6 40 "LazyStateModel" "bs" "[J", Cond.fieldLink RX6 43 "LazyStateModel" "cs" "[I", Cond.fieldLink RX6 46 "LazyStateModel" "ds" "[I", Cond.fieldLink RX6 34 "LazyStateModel" "kinds" "[I", Cond.fieldLink RX6 71 "LazyStateModel" "values" "[J", Cond.fieldLink RX6 21 "LazyStateModel" "items" "[I", Cond.constantLong RX6 125 (8), Cond.fieldLink RX6 155 "LazyStateModel" "threw" "I", Cond.fieldLink RX6 49 "LazyStateModel" "es" "[I", Cond.methodLink RX6 172 yX6_readLeaf, Cond.instanceMethod yX6_readLeaf, Cond.selects RX6 yX6_readLeaf yX6_readLeaf, Cond.initialized RX6, Cond.code yX6_readLeaf cX6_readLeaf 6 (some .int), Cond.methodLink RX6 162 yX6_leafOf, Cond.instanceMethod yX6_leafOf, Cond.selects RX6 yX6_leafOf yX6_leafOf, Cond.code yX6_leafOf cX6_leafOf 6 (some .int), Cond.fieldLink RX6 68 "LazyStateModel" "handles" "[I", Cond.fieldLink RX6 7 "LazyStateModel" "types" "[I", Cond.methodLink RX6 158 yX6_load, Cond.instanceMethod yX6_load, Cond.selects RX6 yX6_load yX6_load]
def wsX6_rowActs_r2 : List Cond := [Cond.code yX6_load cX6_load 2 none, Cond.fieldLink RX6 65 "LazyStateModel" "isLoaded" "[Z", Cond.fieldLink RX6 149 "LazyStateModel" "fetches" "I", Cond.fieldLink RX6 24 "LazyStateModel" "isCached" "[Z", Cond.methodLink RX6 85 yX6_fieldsOf, Cond.static yX6_fieldsOf, Cond.code yX6_fieldsOf cX6_fieldsOf 1 (some .int), Cond.methodLink RX6 89 yX6_sortOf, Cond.static yX6_sortOf, Cond.code yX6_sortOf cX6_sortOf 2 (some .int), Cond.methodLink RX6 166 yX6_touch, Cond.instanceMethod yX6_touch, Cond.selects RX6 yX6_touch yX6_touch, Cond.code yX6_touch cX6_touch 5 none, Cond.fieldLink RX6 152 "LazyStateModel" "touchedMany" "I", Cond.fieldLink RX6 56 "LazyStateModel" "touchedLeaf" "[I", Cond.fieldLink RX6 59 "LazyStateModel" "touchedHow" "[I", Cond.methodLink RX6 175 yX6_itemOf, Cond.instanceMethod yX6_itemOf, Cond.selects RX6 yX6_itemOf yX6_itemOf, Cond.code yX6_itemOf cX6_itemOf 4 (some .int), Cond.fieldLink RX6 17 "LazyStateModel" "sizes" "[I", Cond.methodLink RX6 169 yX6_at, Cond.static yX6_at]
def wsX6_rowActs_r3 : List Cond := [Cond.code yX6_at cX6_at 1 (some .int), Cond.methodLink RX6 77 yX6_in, Cond.static yX6_in, Cond.code yX6_in cX6_in 6 (some .boolean), Cond.methodLink RX6 127 yX6_newRow, Cond.instanceMethod yX6_newRow, Cond.selects RX6 yX6_newRow yX6_newRow, Cond.code yX6_newRow cX6_newRow 4 none, Cond.methodLink RX6 179 yX6_shift, Cond.instanceMethod yX6_shift, Cond.selects RX6 yX6_shift yX6_shift, Cond.code yX6_shift cX6_shift 13 none]
def wsX6_rowActs : List Cond := .code yX6_rowActs cX6_rowActs 10 none :: ((wsX6_rowActs_r1 ++ (wsX6_rowActs_r2 ++ wsX6_rowActs_r3)) ++ wsX60)
def wsX6_like_r1 : List Cond := [Cond.fieldLink RX6 7 "LazyStateModel" "types" "[I", Cond.methodLink RX6 158 yX6_load, Cond.instanceMethod yX6_load, Cond.selects RX6 yX6_load yX6_load, Cond.initialized RX6, Cond.code yX6_load cX6_load 2 none, Cond.fieldLink RX6 65 "LazyStateModel" "isLoaded" "[Z", Cond.fieldLink RX6 149 "LazyStateModel" "fetches" "I", Cond.fieldLink RX6 24 "LazyStateModel" "isCached" "[Z", Cond.methodLink RX6 85 yX6_fieldsOf, Cond.static yX6_fieldsOf, Cond.code yX6_fieldsOf cX6_fieldsOf 1 (some .int), Cond.methodLink RX6 166 yX6_touch, Cond.instanceMethod yX6_touch, Cond.selects RX6 yX6_touch yX6_touch, Cond.code yX6_touch cX6_touch 5 none, Cond.fieldLink RX6 152 "LazyStateModel" "touchedMany" "I", Cond.fieldLink RX6 56 "LazyStateModel" "touchedLeaf" "[I", Cond.fieldLink RX6 59 "LazyStateModel" "touchedHow" "[I", Cond.methodLink RX6 169 yX6_at, Cond.static yX6_at, Cond.code yX6_at cX6_at 1 (some .int), Cond.methodLink RX6 111 yX6_areAlike, Cond.instanceMethod yX6_areAlike]
def wsX6_like_r2 : List Cond := [Cond.selects RX6 yX6_areAlike yX6_areAlike, Cond.code yX6_areAlike cX6_areAlike 5 (some .boolean), Cond.fieldLink RX6 13 "LazyStateModel" "numbers" "[J", Cond.fieldLink RX6 17 "LazyStateModel" "sizes" "[I", Cond.fieldLink RX6 21 "LazyStateModel" "items" "[I"]
def wsX6_like : List Cond := .code yX6_like cX6_like 5 (some .boolean) :: ((wsX6_like_r1 ++ wsX6_like_r2) ++ wsX60)
def wsX6_fieldActs_r1 : List Cond := [Cond.fieldLink RX6 37 "LazyStateModel" "as" "[I", Cond.fieldLink RX6 40 "LazyStateModel" "bs" "[J", Cond.fieldLink RX6 43 "LazyStateModel" "cs" "[I", Cond.fieldLink RX6 34 "LazyStateModel" "kinds" "[I", Cond.fieldLink RX6 71 "LazyStateModel" "values" "[J", Cond.fieldLink RX6 13 "LazyStateModel" "numbers" "[J", Cond.fieldLink RX6 68 "LazyStateModel" "handles" "[I", Cond.methodLink RX6 172 yX6_readLeaf, Cond.instanceMethod yX6_readLeaf, Cond.selects RX6 yX6_readLeaf yX6_readLeaf, Cond.initialized RX6, Cond.code yX6_readLeaf cX6_readLeaf 6 (some .int), Cond.methodLink RX6 162 yX6_leafOf, Cond.instanceMethod yX6_leafOf, Cond.selects RX6 yX6_leafOf yX6_leafOf, Cond.code yX6_leafOf cX6_leafOf 6 (some .int), Cond.fieldLink RX6 155 "LazyStateModel" "threw" "I", Cond.fieldLink RX6 7 "LazyStateModel" "types" "[I", Cond.methodLink RX6 158 yX6_load, Cond.instanceMethod yX6_load, Cond.selects RX6 yX6_load yX6_load, Cond.code yX6_load cX6_load 2 none, Cond.fieldLink RX6 65 "LazyStateModel" "isLoaded" "[Z", Cond.fieldLink RX6 149 "LazyStateModel" "fetches" "I"]
def wsX6_fieldActs_r2 : List Cond := [Cond.fieldLink RX6 24 "LazyStateModel" "isCached" "[Z", Cond.methodLink RX6 85 yX6_fieldsOf, Cond.static yX6_fieldsOf, Cond.code yX6_fieldsOf cX6_fieldsOf 1 (some .int), Cond.methodLink RX6 89 yX6_sortOf, Cond.static yX6_sortOf, Cond.code yX6_sortOf cX6_sortOf 2 (some .int), Cond.methodLink RX6 166 yX6_touch, Cond.instanceMethod yX6_touch, Cond.selects RX6 yX6_touch yX6_touch, Cond.code yX6_touch cX6_touch 5 none, Cond.fieldLink RX6 152 "LazyStateModel" "touchedMany" "I", Cond.fieldLink RX6 56 "LazyStateModel" "touchedLeaf" "[I", Cond.fieldLink RX6 59 "LazyStateModel" "touchedHow" "[I", Cond.methodLink RX6 169 yX6_at, Cond.static yX6_at, Cond.code yX6_at cX6_at 1 (some .int), Cond.methodLink RX6 183 yX6_like, Cond.instanceMethod yX6_like, Cond.selects RX6 yX6_like yX6_like, Cond.code yX6_like cX6_like 5 (some .boolean), Cond.methodLink RX6 111 yX6_areAlike, Cond.instanceMethod yX6_areAlike, Cond.selects RX6 yX6_areAlike yX6_areAlike]
def wsX6_fieldActs_r3 : List Cond := [Cond.code yX6_areAlike cX6_areAlike 5 (some .boolean), Cond.fieldLink RX6 17 "LazyStateModel" "sizes" "[I", Cond.fieldLink RX6 21 "LazyStateModel" "items" "[I"]
def wsX6_fieldActs : List Cond := .code yX6_fieldActs cX6_fieldActs 7 none :: ((wsX6_fieldActs_r1 ++ (wsX6_fieldActs_r2 ++ wsX6_fieldActs_r3)) ++ wsX60)
def wsX6_does_r1 : List Cond := [Cond.fieldLink RX6 37 "LazyStateModel" "as" "[I", Cond.fieldLink RX6 34 "LazyStateModel" "kinds" "[I", Cond.fieldLink RX6 71 "LazyStateModel" "values" "[J", Cond.fieldLink RX6 40 "LazyStateModel" "bs" "[J", Cond.fieldLink RX6 43 "LazyStateModel" "cs" "[I", Cond.fieldLink RX6 155 "LazyStateModel" "threw" "I", Cond.fieldLink RX6 186 "LazyStateModel" "gave" "J", Cond.methodLink RX6 190 yX6_rowActs, Cond.instanceMethod yX6_rowActs, Cond.selects RX6 yX6_rowActs yX6_rowActs, Cond.initialized RX6, Cond.code yX6_rowActs cX6_rowActs 10 none, Cond.fieldLink RX6 46 "LazyStateModel" "ds" "[I", Cond.fieldLink RX6 21 "LazyStateModel" "items" "[I", Cond.constantLong RX6 125 (8), Cond.fieldLink RX6 49 "LazyStateModel" "es" "[I", Cond.methodLink RX6 172 yX6_readLeaf, Cond.instanceMethod yX6_readLeaf, Cond.selects RX6 yX6_readLeaf yX6_readLeaf, Cond.code yX6_readLeaf cX6_readLeaf 6 (some .int), Cond.methodLink RX6 162 yX6_leafOf, Cond.instanceMethod yX6_leafOf, Cond.selects RX6 yX6_leafOf yX6_leafOf, Cond.code yX6_leafOf cX6_leafOf 6 (some .int)]
def wsX6_does_r2 : List Cond := [Cond.fieldLink RX6 68 "LazyStateModel" "handles" "[I", Cond.fieldLink RX6 7 "LazyStateModel" "types" "[I", Cond.methodLink RX6 158 yX6_load, Cond.instanceMethod yX6_load, Cond.selects RX6 yX6_load yX6_load, Cond.code yX6_load cX6_load 2 none, Cond.fieldLink RX6 65 "LazyStateModel" "isLoaded" "[Z", Cond.fieldLink RX6 149 "LazyStateModel" "fetches" "I", Cond.fieldLink RX6 24 "LazyStateModel" "isCached" "[Z", Cond.methodLink RX6 85 yX6_fieldsOf, Cond.static yX6_fieldsOf, Cond.code yX6_fieldsOf cX6_fieldsOf 1 (some .int), Cond.methodLink RX6 89 yX6_sortOf, Cond.static yX6_sortOf, Cond.code yX6_sortOf cX6_sortOf 2 (some .int), Cond.methodLink RX6 166 yX6_touch, Cond.instanceMethod yX6_touch, Cond.selects RX6 yX6_touch yX6_touch, Cond.code yX6_touch cX6_touch 5 none, Cond.fieldLink RX6 152 "LazyStateModel" "touchedMany" "I", Cond.fieldLink RX6 56 "LazyStateModel" "touchedLeaf" "[I", Cond.fieldLink RX6 59 "LazyStateModel" "touchedHow" "[I", Cond.methodLink RX6 175 yX6_itemOf, Cond.instanceMethod yX6_itemOf]
def wsX6_does_r3 : List Cond := [Cond.selects RX6 yX6_itemOf yX6_itemOf, Cond.code yX6_itemOf cX6_itemOf 4 (some .int), Cond.fieldLink RX6 17 "LazyStateModel" "sizes" "[I", Cond.methodLink RX6 169 yX6_at, Cond.static yX6_at, Cond.code yX6_at cX6_at 1 (some .int), Cond.methodLink RX6 77 yX6_in, Cond.static yX6_in, Cond.code yX6_in cX6_in 6 (some .boolean), Cond.methodLink RX6 127 yX6_newRow, Cond.instanceMethod yX6_newRow, Cond.selects RX6 yX6_newRow yX6_newRow, Cond.code yX6_newRow cX6_newRow 4 none, Cond.methodLink RX6 179 yX6_shift, Cond.instanceMethod yX6_shift, Cond.selects RX6 yX6_shift yX6_shift, Cond.code yX6_shift cX6_shift 13 none, Cond.methodLink RX6 193 yX6_fieldActs, Cond.instanceMethod yX6_fieldActs, Cond.selects RX6 yX6_fieldActs yX6_fieldActs, Cond.code yX6_fieldActs cX6_fieldActs 7 none, Cond.fieldLink RX6 13 "LazyStateModel" "numbers" "[J", Cond.methodLink RX6 183 yX6_like, Cond.instanceMethod yX6_like]
def wsX6_does_r4 : List Cond := [Cond.selects RX6 yX6_like yX6_like, Cond.code yX6_like cX6_like 5 (some .boolean), Cond.methodLink RX6 111 yX6_areAlike, Cond.instanceMethod yX6_areAlike, Cond.selects RX6 yX6_areAlike yX6_areAlike, Cond.code yX6_areAlike cX6_areAlike 5 (some .boolean)]
def wsX6_does : List Cond := .code yX6_does cX6_does 4 (some .int) :: ((wsX6_does_r1 ++ (wsX6_does_r2 ++ (wsX6_does_r3 ++ wsX6_does_r4))) ++ wsX60)
def wsX6_begin : List Cond := .code yX6_begin cX6_begin 5 none :: ([.fieldLink RX6 186 "LazyStateModel" "gave" "J", .fieldLink RX6 52 "LazyStateModel" "where" "I", .fieldLink RX6 152 "LazyStateModel" "touchedMany" "I", .fieldLink RX6 196 "LazyStateModel" "writtenMany" "I", .fieldLink RX6 199 "LazyStateModel" "acts" "I", .fieldLink RX6 155 "LazyStateModel" "threw" "I", .fieldLink RX6 65 "LazyStateModel" "isLoaded" "[Z", .fieldLink RX6 68 "LazyStateModel" "handles" "[I", .fieldLink RX6 71 "LazyStateModel" "values" "[J", .fieldLink RX6 104 "LazyStateModel" "height" "I", .methodLink RX6 107 yX6_copyAll, .instanceMethod yX6_copyAll, .selects RX6 yX6_copyAll yX6_copyAll, .initialized RX6, .code yX6_copyAll cX6_copyAll 4 none, .methodLink RX6 101 yX6_copyLeaf, .instanceMethod yX6_copyLeaf, .selects RX6 yX6_copyLeaf yX6_copyLeaf, .code yX6_copyLeaf cX6_copyLeaf 7 none, .fieldLink RX6 13 "LazyStateModel" "numbers" "[J", .fieldLink RX6 17 "LazyStateModel" "sizes" "[I", .fieldLink RX6 21 "LazyStateModel" "items" "[I"] ++ wsX60)
def wsX6_call_r1 : List Cond := [Cond.constantLong RX6 143 (5), Cond.fieldLink RX6 104 "LazyStateModel" "height" "I", Cond.fieldLink RX6 202 "LazyStateModel" "calls" "I", Cond.fieldLink RX6 31 "LazyStateModel" "many" "[I", Cond.fieldLink RX6 155 "LazyStateModel" "threw" "I", Cond.fieldLink RX6 199 "LazyStateModel" "acts" "I", Cond.fieldLink RX6 52 "LazyStateModel" "where" "I", Cond.fieldLink RX6 186 "LazyStateModel" "gave" "J", Cond.fieldLink RX6 62 "LazyStateModel" "written" "[I", Cond.fieldLink RX6 196 "LazyStateModel" "writtenMany" "I", Cond.fieldLink RX6 28 "LazyStateModel" "times" "[I", Cond.methodLink RX6 81 yX6_isObject, Cond.instanceMethod yX6_isObject, Cond.selects RX6 yX6_isObject yX6_isObject, Cond.initialized RX6, Cond.code yX6_isObject cX6_isObject 2 (some .boolean), Cond.fieldLink RX6 74 "LazyStateModel" "objects" "I", Cond.methodLink RX6 77 yX6_in, Cond.static yX6_in, Cond.code yX6_in cX6_in 6 (some .boolean), Cond.methodLink RX6 205 yX6_begin, Cond.instanceMethod yX6_begin, Cond.selects RX6 yX6_begin yX6_begin, Cond.code yX6_begin cX6_begin 5 none]
def wsX6_call_r2 : List Cond := [Cond.fieldLink RX6 152 "LazyStateModel" "touchedMany" "I", Cond.fieldLink RX6 65 "LazyStateModel" "isLoaded" "[Z", Cond.fieldLink RX6 68 "LazyStateModel" "handles" "[I", Cond.fieldLink RX6 71 "LazyStateModel" "values" "[J", Cond.methodLink RX6 107 yX6_copyAll, Cond.instanceMethod yX6_copyAll, Cond.selects RX6 yX6_copyAll yX6_copyAll, Cond.code yX6_copyAll cX6_copyAll 4 none, Cond.methodLink RX6 101 yX6_copyLeaf, Cond.instanceMethod yX6_copyLeaf, Cond.selects RX6 yX6_copyLeaf yX6_copyLeaf, Cond.code yX6_copyLeaf cX6_copyLeaf 7 none, Cond.fieldLink RX6 13 "LazyStateModel" "numbers" "[J", Cond.fieldLink RX6 17 "LazyStateModel" "sizes" "[I", Cond.fieldLink RX6 21 "LazyStateModel" "items" "[I", Cond.methodLink RX6 209 yX6_does, Cond.instanceMethod yX6_does, Cond.selects RX6 yX6_does yX6_does, Cond.code yX6_does cX6_does 4 (some .int), Cond.fieldLink RX6 37 "LazyStateModel" "as" "[I", Cond.fieldLink RX6 34 "LazyStateModel" "kinds" "[I", Cond.fieldLink RX6 40 "LazyStateModel" "bs" "[J", Cond.fieldLink RX6 43 "LazyStateModel" "cs" "[I", Cond.methodLink RX6 190 yX6_rowActs]
def wsX6_call_r3 : List Cond := [Cond.instanceMethod yX6_rowActs, Cond.selects RX6 yX6_rowActs yX6_rowActs, Cond.code yX6_rowActs cX6_rowActs 10 none, Cond.fieldLink RX6 46 "LazyStateModel" "ds" "[I", Cond.constantLong RX6 125 (8), Cond.fieldLink RX6 49 "LazyStateModel" "es" "[I", Cond.methodLink RX6 172 yX6_readLeaf, Cond.instanceMethod yX6_readLeaf, Cond.selects RX6 yX6_readLeaf yX6_readLeaf, Cond.code yX6_readLeaf cX6_readLeaf 6 (some .int), Cond.methodLink RX6 162 yX6_leafOf, Cond.instanceMethod yX6_leafOf, Cond.selects RX6 yX6_leafOf yX6_leafOf, Cond.code yX6_leafOf cX6_leafOf 6 (some .int), Cond.fieldLink RX6 7 "LazyStateModel" "types" "[I", Cond.methodLink RX6 158 yX6_load, Cond.instanceMethod yX6_load, Cond.selects RX6 yX6_load yX6_load, Cond.code yX6_load cX6_load 2 none, Cond.fieldLink RX6 149 "LazyStateModel" "fetches" "I", Cond.fieldLink RX6 24 "LazyStateModel" "isCached" "[Z", Cond.methodLink RX6 85 yX6_fieldsOf, Cond.static yX6_fieldsOf, Cond.code yX6_fieldsOf cX6_fieldsOf 1 (some .int)]
def wsX6_call_r4 : List Cond := [Cond.methodLink RX6 89 yX6_sortOf, Cond.static yX6_sortOf, Cond.code yX6_sortOf cX6_sortOf 2 (some .int), Cond.methodLink RX6 166 yX6_touch, Cond.instanceMethod yX6_touch, Cond.selects RX6 yX6_touch yX6_touch, Cond.code yX6_touch cX6_touch 5 none, Cond.fieldLink RX6 56 "LazyStateModel" "touchedLeaf" "[I", Cond.fieldLink RX6 59 "LazyStateModel" "touchedHow" "[I", Cond.methodLink RX6 175 yX6_itemOf, Cond.instanceMethod yX6_itemOf, Cond.selects RX6 yX6_itemOf yX6_itemOf, Cond.code yX6_itemOf cX6_itemOf 4 (some .int), Cond.methodLink RX6 169 yX6_at, Cond.static yX6_at, Cond.code yX6_at cX6_at 1 (some .int), Cond.methodLink RX6 127 yX6_newRow, Cond.instanceMethod yX6_newRow, Cond.selects RX6 yX6_newRow yX6_newRow, Cond.code yX6_newRow cX6_newRow 4 none, Cond.methodLink RX6 179 yX6_shift, Cond.instanceMethod yX6_shift, Cond.selects RX6 yX6_shift yX6_shift, Cond.code yX6_shift cX6_shift 13 none]
def wsX6_call_r5 : List Cond := [Cond.methodLink RX6 193 yX6_fieldActs, Cond.instanceMethod yX6_fieldActs, Cond.selects RX6 yX6_fieldActs yX6_fieldActs, Cond.code yX6_fieldActs cX6_fieldActs 7 none, Cond.methodLink RX6 183 yX6_like, Cond.instanceMethod yX6_like, Cond.selects RX6 yX6_like yX6_like, Cond.code yX6_like cX6_like 5 (some .boolean), Cond.methodLink RX6 111 yX6_areAlike, Cond.instanceMethod yX6_areAlike, Cond.selects RX6 yX6_areAlike yX6_areAlike, Cond.code yX6_areAlike cX6_areAlike 5 (some .boolean), Cond.methodLink RX6 115 yX6_rises, Cond.instanceMethod yX6_rises, Cond.selects RX6 yX6_rises yX6_rises, Cond.code yX6_rises cX6_rises 2 none]
def wsX6_call : List Cond := .code yX6_call cX6_call 7 (some .int) :: ((wsX6_call_r1 ++ (wsX6_call_r2 ++ (wsX6_call_r3 ++ (wsX6_call_r4 ++ wsX6_call_r5)))) ++ wsX60)
def wsX6_gave : List Cond := .code yX6_gave cX6_gave 1 (some .long) :: ([.fieldLink RX6 186 "LazyStateModel" "gave" "J"] ++ wsX60)
def wsX6_where : List Cond := .code yX6_where cX6_where 1 (some .int) :: ([.fieldLink RX6 52 "LazyStateModel" "where" "I"] ++ wsX60)
def wsX6_touched : List Cond := .code yX6_touched cX6_touched 3 (some .int) :: ([.fieldLink RX6 152 "LazyStateModel" "touchedMany" "I", .fieldLink RX6 56 "LazyStateModel" "touchedLeaf" "[I", .fieldLink RX6 59 "LazyStateModel" "touchedHow" "[I", .methodLink RX6 77 yX6_in, .static yX6_in, .initialized RX6, .code yX6_in cX6_in 6 (some .boolean)] ++ wsX60)
def wsX6_written : List Cond := .code yX6_written cX6_written 2 (some .int) :: ([.fieldLink RX6 196 "LazyStateModel" "writtenMany" "I", .fieldLink RX6 62 "LazyStateModel" "written" "[I"] ++ wsX60)
def wsX6_loaded : List Cond := .code yX6_loaded cX6_loaded 2 (some .int) :: ([.fieldLink RX6 65 "LazyStateModel" "isLoaded" "[Z", .methodLink RX6 81 yX6_isObject, .instanceMethod yX6_isObject, .selects RX6 yX6_isObject yX6_isObject, .initialized RX6, .code yX6_isObject cX6_isObject 2 (some .boolean), .fieldLink RX6 74 "LazyStateModel" "objects" "I", .methodLink RX6 77 yX6_in, .static yX6_in, .code yX6_in cX6_in 6 (some .boolean)] ++ wsX60)
def wsX6_cached : List Cond := .code yX6_cached cX6_cached 2 (some .int) :: ([.fieldLink RX6 24 "LazyStateModel" "isCached" "[Z", .methodLink RX6 81 yX6_isObject, .instanceMethod yX6_isObject, .selects RX6 yX6_isObject yX6_isObject, .initialized RX6, .code yX6_isObject cX6_isObject 2 (some .boolean), .fieldLink RX6 74 "LazyStateModel" "objects" "I", .methodLink RX6 77 yX6_in, .static yX6_in, .code yX6_in cX6_in 6 (some .boolean)] ++ wsX60)
def wsX6_hint : List Cond := .code yX6_hint cX6_hint 3 (some .int) :: ([.fieldLink RX6 24 "LazyStateModel" "isCached" "[Z", .fieldLink RX6 149 "LazyStateModel" "fetches" "I", .methodLink RX6 81 yX6_isObject, .instanceMethod yX6_isObject, .selects RX6 yX6_isObject yX6_isObject, .initialized RX6, .code yX6_isObject cX6_isObject 2 (some .boolean), .fieldLink RX6 74 "LazyStateModel" "objects" "I", .methodLink RX6 77 yX6_in, .static yX6_in, .code yX6_in cX6_in 6 (some .boolean)] ++ wsX60)
def wsX6_times : List Cond := .code yX6_times cX6_times 3 (some .int) :: ([.constantLong RX6 212 (191), .fieldLink RX6 7 "LazyStateModel" "types" "[I", .fieldLink RX6 28 "LazyStateModel" "times" "[I", .methodLink RX6 77 yX6_in, .static yX6_in, .initialized RX6, .code yX6_in cX6_in 6 (some .boolean), .methodLink RX6 81 yX6_isObject, .instanceMethod yX6_isObject, .selects RX6 yX6_isObject yX6_isObject, .code yX6_isObject cX6_isObject 2 (some .boolean), .fieldLink RX6 74 "LazyStateModel" "objects" "I", .methodLink RX6 85 yX6_fieldsOf, .static yX6_fieldsOf, .code yX6_fieldsOf cX6_fieldsOf 1 (some .int)] ++ wsX60)
def wsX6_all : List Cond := .code yX6_all cX6_all 5 (some .int) :: ([.constantLong RX6 143 (5), .fieldLink RX6 104 "LazyStateModel" "height" "I", .methodLink RX6 81 yX6_isObject, .instanceMethod yX6_isObject, .selects RX6 yX6_isObject yX6_isObject, .initialized RX6, .code yX6_isObject cX6_isObject 2 (some .boolean), .fieldLink RX6 74 "LazyStateModel" "objects" "I", .methodLink RX6 77 yX6_in, .static yX6_in, .code yX6_in cX6_in 6 (some .boolean)] ++ wsX60)
def wsX6_view : List Cond := .code yX6_view cX6_view 7 (some .long) :: ([.fieldLink RX6 214 "LazyStateModel" "status" "I", .fieldLink RX6 7 "LazyStateModel" "types" "[I", .fieldLink RX6 104 "LazyStateModel" "height" "I", .constantLong RX6 217 (-1), .fieldLink RX6 17 "LazyStateModel" "sizes" "[I", .fieldLink RX6 21 "LazyStateModel" "items" "[I", .fieldLink RX6 13 "LazyStateModel" "numbers" "[J", .methodLink RX6 81 yX6_isObject, .instanceMethod yX6_isObject, .selects RX6 yX6_isObject yX6_isObject, .initialized RX6, .code yX6_isObject cX6_isObject 2 (some .boolean), .fieldLink RX6 74 "LazyStateModel" "objects" "I", .methodLink RX6 77 yX6_in, .static yX6_in, .code yX6_in cX6_in 6 (some .boolean), .methodLink RX6 85 yX6_fieldsOf, .static yX6_fieldsOf, .code yX6_fieldsOf cX6_fieldsOf 1 (some .int), .methodLink RX6 89 yX6_sortOf, .static yX6_sortOf, .code yX6_sortOf cX6_sortOf 2 (some .int)] ++ wsX60)
def wsX6_status : List Cond := .code yX6_status cX6_status 1 (some .int) :: ([.fieldLink RX6 214 "LazyStateModel" "status" "I"] ++ wsX60)
def wsX6_told : List Cond := .code yX6_told cX6_told 5 (some .int) :: ([.fieldLink RX6 65 "LazyStateModel" "isLoaded" "[Z", .fieldLink RX6 152 "LazyStateModel" "touchedMany" "I", .fieldLink RX6 59 "LazyStateModel" "touchedHow" "[I", .fieldLink RX6 74 "LazyStateModel" "objects" "I", .fieldLink RX6 104 "LazyStateModel" "height" "I", .fieldLink RX6 149 "LazyStateModel" "fetches" "I", .fieldLink RX6 196 "LazyStateModel" "writtenMany" "I", .fieldLink RX6 199 "LazyStateModel" "acts" "I", .fieldLink RX6 202 "LazyStateModel" "calls" "I"] ++ wsX60)
theorem inJ6 : ∀ w ∈ wsJ60, w ∈ lw_tbl := by decide +kernel
theorem inJ10 : ∀ w ∈ wsJ100, w ∈ lw_tbl := by decide +kernel
theorem inJ7 : ∀ w ∈ wsJ70, w ∈ lw_tbl := by decide +kernel
abbrev vwCl : List vw_C := [(RX0, TX0, 6), (RX1, TX1, 2), (RX2, TX2, 5), (RX3, TX3, 11), (RX4, TX4, 5), (RX5, TX5, 14), (RX6, TX6, 30)]
end
section
theorem dX0_init_0 : decode cX0_init 0 = .ok (.aload_n 0, 1) := by decide +kernel
theorem dX0_init_1 : decode cX0_init 1 = .ok (.invokespecial 1, 3) := by decide +kernel
theorem dX0_init_4 : decode cX0_init 4 = .ok (.aload_n 0, 1) := by decide +kernel
theorem dX0_init_5 : decode cX0_init 5 = .ok (.iload_n 1, 1) := by decide +kernel
theorem dX0_init_6 : decode cX0_init 6 = .ok (.putfield 7, 3) := by decide +kernel
theorem dX0_init_9 : decode cX0_init 9 = .ok (.aload_n 0, 1) := by decide +kernel
theorem dX0_init_10 : decode cX0_init 10 = .ok (.iload_n 2, 1) := by decide +kernel
theorem dX0_init_11 : decode cX0_init 11 = .ok (.putfield 13, 3) := by decide +kernel
theorem dX0_init_14 : decode cX0_init 14 = .ok (.aload_n 0, 1) := by decide +kernel
theorem dX0_init_15 : decode cX0_init 15 = .ok (.lload_n 3, 1) := by decide +kernel
theorem dX0_init_16 : decode cX0_init 16 = .ok (.putfield 16, 3) := by decide +kernel
theorem dX0_init_19 : decode cX0_init 19 = .ok (.aload_n 0, 1) := by decide +kernel
theorem dX0_init_20 : decode cX0_init 20 = .ok (.iload 5, 2) := by decide +kernel
theorem dX0_init_22 : decode cX0_init 22 = .ok (.putfield 20, 3) := by decide +kernel
theorem dX0_init_25 : decode cX0_init 25 = .ok (.aload_n 0, 1) := by decide +kernel
theorem dX0_init_26 : decode cX0_init 26 = .ok (.iload 6, 2) := by decide +kernel
theorem dX0_init_28 : decode cX0_init 28 = .ok (.putfield 23, 3) := by decide +kernel
theorem dX0_init_31 : decode cX0_init 31 = .ok (.aload_n 0, 1) := by decide +kernel
theorem dX0_init_32 : decode cX0_init 32 = .ok (.iload 7, 2) := by decide +kernel
theorem dX0_init_34 : decode cX0_init 34 = .ok (.putfield 26, 3) := by decide +kernel
theorem dX0_init_37 : decode cX0_init 37 = .ok (.return_, 1) := by decide +kernel
set_option maxRecDepth 20000 in
theorem ggX0_isAsTold_X0_fits : GoodIn wsX0_isAsTold wsX0_fits := goodIn_r _ [10, 11, 12, 13, 14, 15, 16, 17, 18] (by decide +kernel) (by decide +kernel)
set_option maxRecDepth 20000 in
theorem gX0_isAsTold_X0_fits : GoodIn wsX0_isAsTold (wsV RX0 29 RX0 yX0_fits wsX0_fits) := goodIn_app (goodIn_of _ (by decide +kernel)) ggX0_isAsTold_X0_fits
theorem dX0_isAsTold_0 : decode cX0_isAsTold 0 = .ok (.aload_n 0, 1) := by decide +kernel
theorem dX0_isAsTold_1 : decode cX0_isAsTold 1 = .ok (.iconst 0, 1) := by decide +kernel
theorem dX0_isAsTold_2 : decode cX0_isAsTold 2 = .ok (.aload_n 0, 1) := by decide +kernel
theorem dX0_isAsTold_3 : decode cX0_isAsTold 3 = .ok (.getfield 13, 3) := by decide +kernel
theorem dX0_isAsTold_6 : decode cX0_isAsTold 6 = .ok (.i2l, 1) := by decide +kernel
theorem dX0_isAsTold_7 : decode cX0_isAsTold 7 = .ok (.invokevirtual 29, 3) := by decide +kernel
theorem dX0_isAsTold_10 : decode cX0_isAsTold 10 = .ok (.ifCond .eq 58, 3) := by decide +kernel
theorem dX0_isAsTold_13 : decode cX0_isAsTold 13 = .ok (.aload_n 0, 1) := by decide +kernel
theorem dX0_isAsTold_14 : decode cX0_isAsTold 14 = .ok (.iconst 1, 1) := by decide +kernel
theorem dX0_isAsTold_15 : decode cX0_isAsTold 15 = .ok (.aload_n 0, 1) := by decide +kernel
theorem dX0_isAsTold_16 : decode cX0_isAsTold 16 = .ok (.getfield 16, 3) := by decide +kernel
theorem dX0_isAsTold_19 : decode cX0_isAsTold 19 = .ok (.invokevirtual 29, 3) := by decide +kernel
theorem dX0_isAsTold_22 : decode cX0_isAsTold 22 = .ok (.ifCond .eq 46, 3) := by decide +kernel
theorem dX0_isAsTold_25 : decode cX0_isAsTold 25 = .ok (.aload_n 0, 1) := by decide +kernel
theorem dX0_isAsTold_26 : decode cX0_isAsTold 26 = .ok (.iconst 2, 1) := by decide +kernel
theorem dX0_isAsTold_27 : decode cX0_isAsTold 27 = .ok (.aload_n 0, 1) := by decide +kernel
theorem dX0_isAsTold_28 : decode cX0_isAsTold 28 = .ok (.getfield 20, 3) := by decide +kernel
theorem dX0_isAsTold_31 : decode cX0_isAsTold 31 = .ok (.i2l, 1) := by decide +kernel
theorem dX0_isAsTold_32 : decode cX0_isAsTold 32 = .ok (.invokevirtual 29, 3) := by decide +kernel
theorem dX0_isAsTold_35 : decode cX0_isAsTold 35 = .ok (.ifCond .eq 33, 3) := by decide +kernel
theorem dX0_isAsTold_38 : decode cX0_isAsTold 38 = .ok (.aload_n 0, 1) := by decide +kernel
theorem dX0_isAsTold_39 : decode cX0_isAsTold 39 = .ok (.iconst 3, 1) := by decide +kernel
theorem dX0_isAsTold_40 : decode cX0_isAsTold 40 = .ok (.aload_n 0, 1) := by decide +kernel
theorem dX0_isAsTold_41 : decode cX0_isAsTold 41 = .ok (.getfield 23, 3) := by decide +kernel
theorem dX0_isAsTold_44 : decode cX0_isAsTold 44 = .ok (.i2l, 1) := by decide +kernel
theorem dX0_isAsTold_45 : decode cX0_isAsTold 45 = .ok (.invokevirtual 29, 3) := by decide +kernel
theorem dX0_isAsTold_48 : decode cX0_isAsTold 48 = .ok (.ifCond .eq 20, 3) := by decide +kernel
theorem dX0_isAsTold_51 : decode cX0_isAsTold 51 = .ok (.aload_n 0, 1) := by decide +kernel
theorem dX0_isAsTold_52 : decode cX0_isAsTold 52 = .ok (.iconst 4, 1) := by decide +kernel
theorem dX0_isAsTold_53 : decode cX0_isAsTold 53 = .ok (.aload_n 0, 1) := by decide +kernel
theorem dX0_isAsTold_54 : decode cX0_isAsTold 54 = .ok (.getfield 26, 3) := by decide +kernel
theorem dX0_isAsTold_57 : decode cX0_isAsTold 57 = .ok (.i2l, 1) := by decide +kernel
theorem dX0_isAsTold_58 : decode cX0_isAsTold 58 = .ok (.invokevirtual 29, 3) := by decide +kernel
theorem dX0_isAsTold_61 : decode cX0_isAsTold 61 = .ok (.ifCond .eq 7, 3) := by decide +kernel
theorem dX0_isAsTold_64 : decode cX0_isAsTold 64 = .ok (.iconst 1, 1) := by decide +kernel
theorem dX0_isAsTold_65 : decode cX0_isAsTold 65 = .ok (.goto 4, 3) := by decide +kernel
theorem dX0_isAsTold_68 : decode cX0_isAsTold 68 = .ok (.iconst 0, 1) := by decide +kernel
theorem dX0_isAsTold_69 : decode cX0_isAsTold 69 = .ok (.ireturn, 1) := by decide +kernel
theorem dX0_fits_0 : decode cX0_fits 0 = .ok (.getstatic 33, 3) := by decide +kernel
theorem dX0_fits_3 : decode cX0_fits 3 = .ok (.aload_n 0, 1) := by decide +kernel
theorem dX0_fits_4 : decode cX0_fits 4 = .ok (.getfield 7, 3) := by decide +kernel
theorem dX0_fits_7 : decode cX0_fits 7 = .ok (.iconst 5, 1) := by decide +kernel
theorem dX0_fits_8 : decode cX0_fits 8 = .ok (.imul, 1) := by decide +kernel
theorem dX0_fits_9 : decode cX0_fits 9 = .ok (.iload_n 1, 1) := by decide +kernel
theorem dX0_fits_10 : decode cX0_fits 10 = .ok (.iadd, 1) := by decide +kernel
theorem dX0_fits_11 : decode cX0_fits 11 = .ok (.iaload, 1) := by decide +kernel
theorem dX0_fits_12 : decode cX0_fits 12 = .ok (.istore 4, 2) := by decide +kernel
theorem dX0_fits_14 : decode cX0_fits 14 = .ok (.iload 4, 2) := by decide +kernel
theorem dX0_fits_16 : decode cX0_fits 16 = .ok (.iconst (-1), 1) := by decide +kernel
theorem dX0_fits_17 : decode cX0_fits 17 = .ok (.if_icmp .eq 17, 3) := by decide +kernel
theorem dX0_fits_20 : decode cX0_fits 20 = .ok (.lload_n 2, 1) := by decide +kernel
theorem dX0_fits_21 : decode cX0_fits 21 = .ok (.lconst 0, 1) := by decide +kernel
theorem dX0_fits_22 : decode cX0_fits 22 = .ok (.lcmp, 1) := by decide +kernel
theorem dX0_fits_23 : decode cX0_fits 23 = .ok (.ifCond .lt 15, 3) := by decide +kernel
theorem dX0_fits_26 : decode cX0_fits 26 = .ok (.lload_n 2, 1) := by decide +kernel
theorem dX0_fits_27 : decode cX0_fits 27 = .ok (.iload 4, 2) := by decide +kernel
theorem dX0_fits_29 : decode cX0_fits 29 = .ok (.i2l, 1) := by decide +kernel
theorem dX0_fits_30 : decode cX0_fits 30 = .ok (.lcmp, 1) := by decide +kernel
theorem dX0_fits_31 : decode cX0_fits 31 = .ok (.ifCond .gt 7, 3) := by decide +kernel
theorem dX0_fits_34 : decode cX0_fits 34 = .ok (.iconst 1, 1) := by decide +kernel
theorem dX0_fits_35 : decode cX0_fits 35 = .ok (.goto 4, 3) := by decide +kernel
theorem dX0_fits_38 : decode cX0_fits 38 = .ok (.iconst 0, 1) := by decide +kernel
theorem dX0_fits_39 : decode cX0_fits 39 = .ok (.ireturn, 1) := by decide +kernel
theorem dX1_init_0 : decode cX1_init 0 = .ok (.aload_n 0, 1) := by decide +kernel
theorem dX1_init_1 : decode cX1_init 1 = .ok (.invokespecial 3, 3) := by decide +kernel
theorem dX1_init_4 : decode cX1_init 4 = .ok (.aload_n 0, 1) := by decide +kernel
theorem dX1_init_5 : decode cX1_init 5 = .ok (.bipush 32, 2) := by decide +kernel
theorem dX1_init_7 : decode cX1_init 7 = .ok (.anewarray 9, 3) := by decide +kernel
theorem dX1_init_10 : decode cX1_init 10 = .ok (.putfield 11, 3) := by decide +kernel
theorem dX1_init_13 : decode cX1_init 13 = .ok (.return_, 1) := by decide +kernel
theorem dX1_append_0 : decode cX1_append 0 = .ok (.aload_n 0, 1) := by decide +kernel
theorem dX1_append_1 : decode cX1_append 1 = .ok (.getfield 17, 3) := by decide +kernel
theorem dX1_append_4 : decode cX1_append 4 = .ok (.bipush 32, 2) := by decide +kernel
theorem dX1_append_6 : decode cX1_append 6 = .ok (.if_icmp .lt 6, 3) := by decide +kernel
theorem dX1_append_9 : decode cX1_append 9 = .ok (.bipush (-2), 2) := by decide +kernel
theorem dX1_append_11 : decode cX1_append 11 = .ok (.ireturn, 1) := by decide +kernel
theorem dX1_append_12 : decode cX1_append 12 = .ok (.aload_n 0, 1) := by decide +kernel
theorem dX1_append_13 : decode cX1_append 13 = .ok (.getfield 11, 3) := by decide +kernel
theorem dX1_append_16 : decode cX1_append 16 = .ok (.aload_n 0, 1) := by decide +kernel
theorem dX1_append_17 : decode cX1_append 17 = .ok (.getfield 17, 3) := by decide +kernel
theorem dX1_append_20 : decode cX1_append 20 = .ok (.aload_n 1, 1) := by decide +kernel
theorem dX1_append_21 : decode cX1_append 21 = .ok (.aastore, 1) := by decide +kernel
theorem dX1_append_22 : decode cX1_append 22 = .ok (.aload_n 0, 1) := by decide +kernel
theorem dX1_append_23 : decode cX1_append 23 = .ok (.dup, 1) := by decide +kernel
theorem dX1_append_24 : decode cX1_append 24 = .ok (.getfield 17, 3) := by decide +kernel
theorem dX1_append_27 : decode cX1_append 27 = .ok (.iconst 1, 1) := by decide +kernel
theorem dX1_append_28 : decode cX1_append 28 = .ok (.iadd, 1) := by decide +kernel
theorem dX1_append_29 : decode cX1_append 29 = .ok (.putfield 17, 3) := by decide +kernel
theorem dX1_append_32 : decode cX1_append 32 = .ok (.aload_n 0, 1) := by decide +kernel
theorem dX1_append_33 : decode cX1_append 33 = .ok (.getfield 17, 3) := by decide +kernel
theorem dX1_append_36 : decode cX1_append 36 = .ok (.iconst 1, 1) := by decide +kernel
theorem dX1_append_37 : decode cX1_append 37 = .ok (.isub, 1) := by decide +kernel
theorem dX1_append_38 : decode cX1_append 38 = .ok (.ireturn, 1) := by decide +kernel
theorem dX1_empty_0 : decode cX1_empty 0 = .ok (.aload_n 0, 1) := by decide +kernel
theorem dX1_empty_1 : decode cX1_empty 1 = .ok (.getfield 17, 3) := by decide +kernel
theorem dX1_empty_4 : decode cX1_empty 4 = .ok (.istore_n 1, 1) := by decide +kernel
theorem dX1_empty_5 : decode cX1_empty 5 = .ok (.aload_n 0, 1) := by decide +kernel
theorem dX1_empty_6 : decode cX1_empty 6 = .ok (.iconst 0, 1) := by decide +kernel
theorem dX1_empty_7 : decode cX1_empty 7 = .ok (.putfield 17, 3) := by decide +kernel
theorem dX1_empty_10 : decode cX1_empty 10 = .ok (.iload_n 1, 1) := by decide +kernel
theorem dX1_empty_11 : decode cX1_empty 11 = .ok (.ireturn, 1) := by decide +kernel
theorem dX1_actAt_0 : decode cX1_actAt 0 = .ok (.iload_n 1, 1) := by decide +kernel
theorem dX1_actAt_1 : decode cX1_actAt 1 = .ok (.ifCond .lt 20, 3) := by decide +kernel
theorem dX1_actAt_4 : decode cX1_actAt 4 = .ok (.iload_n 1, 1) := by decide +kernel
theorem dX1_actAt_5 : decode cX1_actAt 5 = .ok (.aload_n 0, 1) := by decide +kernel
theorem dX1_actAt_6 : decode cX1_actAt 6 = .ok (.getfield 17, 3) := by decide +kernel
theorem dX1_actAt_9 : decode cX1_actAt 9 = .ok (.if_icmp .ge 12, 3) := by decide +kernel
theorem dX1_actAt_12 : decode cX1_actAt 12 = .ok (.aload_n 0, 1) := by decide +kernel
theorem dX1_actAt_13 : decode cX1_actAt 13 = .ok (.getfield 11, 3) := by decide +kernel
theorem dX1_actAt_16 : decode cX1_actAt 16 = .ok (.iload_n 1, 1) := by decide +kernel
theorem dX1_actAt_17 : decode cX1_actAt 17 = .ok (.aaload, 1) := by decide +kernel
theorem dX1_actAt_18 : decode cX1_actAt 18 = .ok (.goto 4, 3) := by decide +kernel
theorem dX1_actAt_21 : decode cX1_actAt 21 = .ok (.aconst_null, 1) := by decide +kernel
theorem dX1_actAt_22 : decode cX1_actAt 22 = .ok (.areturn, 1) := by decide +kernel
theorem dX2_init_0 : decode cX2_init 0 = .ok (.aload_n 0, 1) := by decide +kernel
theorem dX2_init_1 : decode cX2_init 1 = .ok (.invokespecial 3, 3) := by decide +kernel
theorem dX2_init_4 : decode cX2_init 4 = .ok (.aload_n 0, 1) := by decide +kernel
theorem dX2_init_5 : decode cX2_init 5 = .ok (.bipush 8, 2) := by decide +kernel
theorem dX2_init_7 : decode cX2_init 7 = .ok (.newarray .long, 2) := by decide +kernel
theorem dX2_init_9 : decode cX2_init 9 = .ok (.putfield 9, 3) := by decide +kernel
theorem dX2_init_12 : decode cX2_init 12 = .ok (.aload_n 0, 1) := by decide +kernel
theorem dX2_init_13 : decode cX2_init 13 = .ok (.bipush 16, 2) := by decide +kernel
theorem dX2_init_15 : decode cX2_init 15 = .ok (.newarray .int, 2) := by decide +kernel
theorem dX2_init_17 : decode cX2_init 17 = .ok (.putfield 15, 3) := by decide +kernel
theorem dX2_init_20 : decode cX2_init 20 = .ok (.aload_n 0, 1) := by decide +kernel
theorem dX2_init_21 : decode cX2_init 21 = .ok (.iload_n 1, 1) := by decide +kernel
theorem dX2_init_22 : decode cX2_init 22 = .ok (.putfield 19, 3) := by decide +kernel
theorem dX2_init_25 : decode cX2_init 25 = .ok (.iconst 0, 1) := by decide +kernel
theorem dX2_init_26 : decode cX2_init 26 = .ok (.istore_n 2, 1) := by decide +kernel
theorem dX2_init_27 : decode cX2_init 27 = .ok (.iload_n 2, 1) := by decide +kernel
theorem dX2_init_28 : decode cX2_init 28 = .ok (.bipush 8, 2) := by decide +kernel
theorem dX2_init_30 : decode cX2_init 30 = .ok (.if_icmp .ge 43, 3) := by decide +kernel
theorem dX2_init_33 : decode cX2_init 33 = .ok (.getstatic 23, 3) := by decide +kernel
theorem dX2_init_36 : decode cX2_init 36 = .ok (.iload_n 1, 1) := by decide +kernel
theorem dX2_init_37 : decode cX2_init 37 = .ok (.bipush 8, 2) := by decide +kernel
theorem dX2_init_39 : decode cX2_init 39 = .ok (.imul, 1) := by decide +kernel
theorem dX2_init_40 : decode cX2_init 40 = .ok (.iload_n 2, 1) := by decide +kernel
theorem dX2_init_41 : decode cX2_init 41 = .ok (.iadd, 1) := by decide +kernel
theorem dX2_init_42 : decode cX2_init 42 = .ok (.iaload, 1) := by decide +kernel
theorem dX2_init_43 : decode cX2_init 43 = .ok (.istore_n 3, 1) := by decide +kernel
theorem dX2_init_44 : decode cX2_init 44 = .ok (.aload_n 0, 1) := by decide +kernel
theorem dX2_init_45 : decode cX2_init 45 = .ok (.getfield 9, 3) := by decide +kernel
theorem dX2_init_48 : decode cX2_init 48 = .ok (.iload_n 2, 1) := by decide +kernel
theorem dX2_init_49 : decode cX2_init 49 = .ok (.iload_n 3, 1) := by decide +kernel
theorem dX2_init_50 : decode cX2_init 50 = .ok (.iconst 2, 1) := by decide +kernel
theorem dX2_init_51 : decode cX2_init 51 = .ok (.if_icmp .eq 8, 3) := by decide +kernel
theorem dX2_init_54 : decode cX2_init 54 = .ok (.iload_n 3, 1) := by decide +kernel
theorem dX2_init_55 : decode cX2_init 55 = .ok (.iconst 3, 1) := by decide +kernel
theorem dX2_init_56 : decode cX2_init 56 = .ok (.if_icmp .ne 9, 3) := by decide +kernel
theorem dX2_init_59 : decode cX2_init 59 = .ok (.ldc2_w 26, 3) := by decide +kernel
theorem dX2_init_62 : decode cX2_init 62 = .ok (.goto 4, 3) := by decide +kernel
theorem dX2_init_65 : decode cX2_init 65 = .ok (.lconst 0, 1) := by decide +kernel
theorem dX2_init_66 : decode cX2_init 66 = .ok (.lastore, 1) := by decide +kernel
theorem dX2_init_67 : decode cX2_init 67 = .ok (.iinc 2 1, 3) := by decide +kernel
theorem dX2_init_70 : decode cX2_init 70 = .ok (.goto (-43), 3) := by decide +kernel
theorem dX2_init_73 : decode cX2_init 73 = .ok (.return_, 1) := by decide +kernel
theorem dX2_itemPlace_0 : decode cX2_itemPlace 0 = .ok (.iload_n 0, 1) := by decide +kernel
theorem dX2_itemPlace_1 : decode cX2_itemPlace 1 = .ok (.iconst 2, 1) := by decide +kernel
theorem dX2_itemPlace_2 : decode cX2_itemPlace 2 = .ok (.if_icmp .ne 8, 3) := by decide +kernel
theorem dX2_itemPlace_5 : decode cX2_itemPlace 5 = .ok (.bipush 8, 2) := by decide +kernel
theorem dX2_itemPlace_7 : decode cX2_itemPlace 7 = .ok (.goto 4, 3) := by decide +kernel
theorem dX2_itemPlace_10 : decode cX2_itemPlace 10 = .ok (.iconst 0, 1) := by decide +kernel
theorem dX2_itemPlace_11 : decode cX2_itemPlace 11 = .ok (.iload_n 1, 1) := by decide +kernel
theorem dX2_itemPlace_12 : decode cX2_itemPlace 12 = .ok (.iadd, 1) := by decide +kernel
theorem dX2_itemPlace_13 : decode cX2_itemPlace 13 = .ok (.ireturn, 1) := by decide +kernel
theorem dX2_sortOf_0 : decode cX2_sortOf 0 = .ok (.iload_n 1, 1) := by decide +kernel
theorem dX2_sortOf_1 : decode cX2_sortOf 1 = .ok (.ifCond .lt 25, 3) := by decide +kernel
theorem dX2_sortOf_4 : decode cX2_sortOf 4 = .ok (.iload_n 1, 1) := by decide +kernel
theorem dX2_sortOf_5 : decode cX2_sortOf 5 = .ok (.bipush 8, 2) := by decide +kernel
theorem dX2_sortOf_7 : decode cX2_sortOf 7 = .ok (.if_icmp .ge 19, 3) := by decide +kernel
theorem dX2_sortOf_10 : decode cX2_sortOf 10 = .ok (.getstatic 23, 3) := by decide +kernel
theorem dX2_sortOf_13 : decode cX2_sortOf 13 = .ok (.aload_n 0, 1) := by decide +kernel
theorem dX2_sortOf_14 : decode cX2_sortOf 14 = .ok (.getfield 19, 3) := by decide +kernel
theorem dX2_sortOf_17 : decode cX2_sortOf 17 = .ok (.bipush 8, 2) := by decide +kernel
theorem dX2_sortOf_19 : decode cX2_sortOf 19 = .ok (.imul, 1) := by decide +kernel
theorem dX2_sortOf_20 : decode cX2_sortOf 20 = .ok (.iload_n 1, 1) := by decide +kernel
theorem dX2_sortOf_21 : decode cX2_sortOf 21 = .ok (.iadd, 1) := by decide +kernel
theorem dX2_sortOf_22 : decode cX2_sortOf 22 = .ok (.iaload, 1) := by decide +kernel
theorem dX2_sortOf_23 : decode cX2_sortOf 23 = .ok (.goto 4, 3) := by decide +kernel
theorem dX2_sortOf_26 : decode cX2_sortOf 26 = .ok (.iconst 0, 1) := by decide +kernel
theorem dX2_sortOf_27 : decode cX2_sortOf 27 = .ok (.ireturn, 1) := by decide +kernel
theorem dX2_hasItem_0 : decode cX2_hasItem 0 = .ok (.lload_n 2, 1) := by decide +kernel
theorem dX2_hasItem_1 : decode cX2_hasItem 1 = .ok (.lconst 0, 1) := by decide +kernel
theorem dX2_hasItem_2 : decode cX2_hasItem 2 = .ok (.lcmp, 1) := by decide +kernel
theorem dX2_hasItem_3 : decode cX2_hasItem 3 = .ok (.ifCond .lt 18, 3) := by decide +kernel
theorem dX2_hasItem_6 : decode cX2_hasItem 6 = .ok (.lload_n 2, 1) := by decide +kernel
theorem dX2_hasItem_7 : decode cX2_hasItem 7 = .ok (.aload_n 0, 1) := by decide +kernel
theorem dX2_hasItem_8 : decode cX2_hasItem 8 = .ok (.getfield 9, 3) := by decide +kernel
theorem dX2_hasItem_11 : decode cX2_hasItem 11 = .ok (.iload_n 1, 1) := by decide +kernel
theorem dX2_hasItem_12 : decode cX2_hasItem 12 = .ok (.laload, 1) := by decide +kernel
theorem dX2_hasItem_13 : decode cX2_hasItem 13 = .ok (.lcmp, 1) := by decide +kernel
theorem dX2_hasItem_14 : decode cX2_hasItem 14 = .ok (.ifCond .ge 7, 3) := by decide +kernel
theorem dX2_hasItem_17 : decode cX2_hasItem 17 = .ok (.iconst 1, 1) := by decide +kernel
theorem dX2_hasItem_18 : decode cX2_hasItem 18 = .ok (.goto 4, 3) := by decide +kernel
theorem dX2_hasItem_21 : decode cX2_hasItem 21 = .ok (.iconst 0, 1) := by decide +kernel
theorem dX2_hasItem_22 : decode cX2_hasItem 22 = .ok (.ireturn, 1) := by decide +kernel
set_option maxRecDepth 20000 in
theorem ggX2_hasBlankRow_X2_itemPlace : GoodIn wsX2_hasBlankRow wsX2_itemPlace := goodIn_r _ [6] (by decide +kernel) (by decide +kernel)
set_option maxRecDepth 20000 in
theorem gX2_hasBlankRow_X2_itemPlace : GoodIn wsX2_hasBlankRow (va_wsS RX2 28 yX2_itemPlace wsX2_itemPlace) := goodIn_app (goodIn_of _ (by decide +kernel)) ggX2_hasBlankRow_X2_itemPlace
theorem dX2_hasBlankRow_0 : decode cX2_hasBlankRow 0 = .ok (.aload_n 0, 1) := by decide +kernel
theorem dX2_hasBlankRow_1 : decode cX2_hasBlankRow 1 = .ok (.getfield 9, 3) := by decide +kernel
theorem dX2_hasBlankRow_4 : decode cX2_hasBlankRow 4 = .ok (.iload_n 1, 1) := by decide +kernel
theorem dX2_hasBlankRow_5 : decode cX2_hasBlankRow 5 = .ok (.laload, 1) := by decide +kernel
theorem dX2_hasBlankRow_6 : decode cX2_hasBlankRow 6 = .ok (.iload_n 2, 1) := by decide +kernel
theorem dX2_hasBlankRow_7 : decode cX2_hasBlankRow 7 = .ok (.i2l, 1) := by decide +kernel
theorem dX2_hasBlankRow_8 : decode cX2_hasBlankRow 8 = .ok (.lcmp, 1) := by decide +kernel
theorem dX2_hasBlankRow_9 : decode cX2_hasBlankRow 9 = .ok (.ifCond .eq 5, 3) := by decide +kernel
theorem dX2_hasBlankRow_12 : decode cX2_hasBlankRow 12 = .ok (.iconst 0, 1) := by decide +kernel
theorem dX2_hasBlankRow_13 : decode cX2_hasBlankRow 13 = .ok (.ireturn, 1) := by decide +kernel
theorem dX2_hasBlankRow_14 : decode cX2_hasBlankRow 14 = .ok (.iconst 0, 1) := by decide +kernel
theorem dX2_hasBlankRow_15 : decode cX2_hasBlankRow 15 = .ok (.istore_n 3, 1) := by decide +kernel
theorem dX2_hasBlankRow_16 : decode cX2_hasBlankRow 16 = .ok (.iload_n 3, 1) := by decide +kernel
theorem dX2_hasBlankRow_17 : decode cX2_hasBlankRow 17 = .ok (.bipush 8, 2) := by decide +kernel
theorem dX2_hasBlankRow_19 : decode cX2_hasBlankRow 19 = .ok (.if_icmp .ge 24, 3) := by decide +kernel
theorem dX2_hasBlankRow_22 : decode cX2_hasBlankRow 22 = .ok (.aload_n 0, 1) := by decide +kernel
theorem dX2_hasBlankRow_23 : decode cX2_hasBlankRow 23 = .ok (.getfield 15, 3) := by decide +kernel
theorem dX2_hasBlankRow_26 : decode cX2_hasBlankRow 26 = .ok (.iload_n 1, 1) := by decide +kernel
theorem dX2_hasBlankRow_27 : decode cX2_hasBlankRow 27 = .ok (.iload_n 3, 1) := by decide +kernel
theorem dX2_hasBlankRow_28 : decode cX2_hasBlankRow 28 = .ok (.invokestatic 28, 3) := by decide +kernel
theorem dX2_hasBlankRow_31 : decode cX2_hasBlankRow 31 = .ok (.iaload, 1) := by decide +kernel
theorem dX2_hasBlankRow_32 : decode cX2_hasBlankRow 32 = .ok (.ifCond .eq 5, 3) := by decide +kernel
theorem dX2_hasBlankRow_35 : decode cX2_hasBlankRow 35 = .ok (.iconst 0, 1) := by decide +kernel
theorem dX2_hasBlankRow_36 : decode cX2_hasBlankRow 36 = .ok (.ireturn, 1) := by decide +kernel
theorem dX2_hasBlankRow_37 : decode cX2_hasBlankRow 37 = .ok (.iinc 3 1, 3) := by decide +kernel
theorem dX2_hasBlankRow_40 : decode cX2_hasBlankRow 40 = .ok (.goto (-24), 3) := by decide +kernel
theorem dX2_hasBlankRow_43 : decode cX2_hasBlankRow 43 = .ok (.iconst 1, 1) := by decide +kernel
theorem dX2_hasBlankRow_44 : decode cX2_hasBlankRow 44 = .ok (.ireturn, 1) := by decide +kernel
set_option maxRecDepth 20000 in
theorem ggX2_renewRow_X2_itemPlace : GoodIn wsX2_renewRow wsX2_itemPlace := goodIn_r _ [6] (by decide +kernel) (by decide +kernel)
set_option maxRecDepth 20000 in
theorem gX2_renewRow_X2_itemPlace : GoodIn wsX2_renewRow (va_wsS RX2 28 yX2_itemPlace wsX2_itemPlace) := goodIn_app (goodIn_of _ (by decide +kernel)) ggX2_renewRow_X2_itemPlace
theorem dX2_renewRow_0 : decode cX2_renewRow 0 = .ok (.aload_n 0, 1) := by decide +kernel
theorem dX2_renewRow_1 : decode cX2_renewRow 1 = .ok (.getfield 9, 3) := by decide +kernel
theorem dX2_renewRow_4 : decode cX2_renewRow 4 = .ok (.iload_n 1, 1) := by decide +kernel
theorem dX2_renewRow_5 : decode cX2_renewRow 5 = .ok (.iload_n 2, 1) := by decide +kernel
theorem dX2_renewRow_6 : decode cX2_renewRow 6 = .ok (.i2l, 1) := by decide +kernel
theorem dX2_renewRow_7 : decode cX2_renewRow 7 = .ok (.lastore, 1) := by decide +kernel
theorem dX2_renewRow_8 : decode cX2_renewRow 8 = .ok (.iconst 0, 1) := by decide +kernel
theorem dX2_renewRow_9 : decode cX2_renewRow 9 = .ok (.istore_n 3, 1) := by decide +kernel
theorem dX2_renewRow_10 : decode cX2_renewRow 10 = .ok (.iload_n 3, 1) := by decide +kernel
theorem dX2_renewRow_11 : decode cX2_renewRow 11 = .ok (.bipush 8, 2) := by decide +kernel
theorem dX2_renewRow_13 : decode cX2_renewRow 13 = .ok (.if_icmp .ge 20, 3) := by decide +kernel
theorem dX2_renewRow_16 : decode cX2_renewRow 16 = .ok (.aload_n 0, 1) := by decide +kernel
theorem dX2_renewRow_17 : decode cX2_renewRow 17 = .ok (.getfield 15, 3) := by decide +kernel
theorem dX2_renewRow_20 : decode cX2_renewRow 20 = .ok (.iload_n 1, 1) := by decide +kernel
theorem dX2_renewRow_21 : decode cX2_renewRow 21 = .ok (.iload_n 3, 1) := by decide +kernel
theorem dX2_renewRow_22 : decode cX2_renewRow 22 = .ok (.invokestatic 28, 3) := by decide +kernel
theorem dX2_renewRow_25 : decode cX2_renewRow 25 = .ok (.iconst 0, 1) := by decide +kernel
theorem dX2_renewRow_26 : decode cX2_renewRow 26 = .ok (.iastore, 1) := by decide +kernel
theorem dX2_renewRow_27 : decode cX2_renewRow 27 = .ok (.iinc 3 1, 3) := by decide +kernel
theorem dX2_renewRow_30 : decode cX2_renewRow 30 = .ok (.goto (-20), 3) := by decide +kernel
theorem dX2_renewRow_33 : decode cX2_renewRow 33 = .ok (.return_, 1) := by decide +kernel
set_option maxRecDepth 20000 in
theorem ggX2_hasSameField_X2_sortOf : GoodIn wsX2_hasSameField wsX2_sortOf := goodIn_r _ [6, 7, 8, 17, 18, 19, 20, 21] (by decide +kernel) (by decide +kernel)
set_option maxRecDepth 20000 in
theorem gX2_hasSameField_X2_sortOf : GoodIn wsX2_hasSameField (wsV RX2 32 RX2 yX2_sortOf wsX2_sortOf) := goodIn_app (goodIn_of _ (by decide +kernel)) ggX2_hasSameField_X2_sortOf
set_option maxRecDepth 20000 in
theorem ggX2_hasSameField_X2_hasSameItems : GoodIn wsX2_hasSameField wsX2_hasSameItems := goodIn_r _ [12, 13, 14, 15, 5, 16, 17, 18, 19, 20, 21] (by decide +kernel) (by decide +kernel)
set_option maxRecDepth 20000 in
theorem gX2_hasSameField_X2_hasSameItems : GoodIn wsX2_hasSameField (wsV RX2 36 RX2 yX2_hasSameItems wsX2_hasSameItems) := goodIn_app (goodIn_of _ (by decide +kernel)) ggX2_hasSameField_X2_hasSameItems
theorem dX2_hasSameField_0 : decode cX2_hasSameField 0 = .ok (.aload_n 0, 1) := by decide +kernel
theorem dX2_hasSameField_1 : decode cX2_hasSameField 1 = .ok (.getfield 9, 3) := by decide +kernel
theorem dX2_hasSameField_4 : decode cX2_hasSameField 4 = .ok (.iload_n 2, 1) := by decide +kernel
theorem dX2_hasSameField_5 : decode cX2_hasSameField 5 = .ok (.laload, 1) := by decide +kernel
theorem dX2_hasSameField_6 : decode cX2_hasSameField 6 = .ok (.aload_n 1, 1) := by decide +kernel
theorem dX2_hasSameField_7 : decode cX2_hasSameField 7 = .ok (.getfield 9, 3) := by decide +kernel
theorem dX2_hasSameField_10 : decode cX2_hasSameField 10 = .ok (.iload_n 2, 1) := by decide +kernel
theorem dX2_hasSameField_11 : decode cX2_hasSameField 11 = .ok (.laload, 1) := by decide +kernel
theorem dX2_hasSameField_12 : decode cX2_hasSameField 12 = .ok (.lcmp, 1) := by decide +kernel
theorem dX2_hasSameField_13 : decode cX2_hasSameField 13 = .ok (.ifCond .eq 5, 3) := by decide +kernel
theorem dX2_hasSameField_16 : decode cX2_hasSameField 16 = .ok (.iconst 0, 1) := by decide +kernel
theorem dX2_hasSameField_17 : decode cX2_hasSameField 17 = .ok (.ireturn, 1) := by decide +kernel
theorem dX2_hasSameField_18 : decode cX2_hasSameField 18 = .ok (.aload_n 0, 1) := by decide +kernel
theorem dX2_hasSameField_19 : decode cX2_hasSameField 19 = .ok (.iload_n 2, 1) := by decide +kernel
theorem dX2_hasSameField_20 : decode cX2_hasSameField 20 = .ok (.invokevirtual 32, 3) := by decide +kernel
theorem dX2_hasSameField_23 : decode cX2_hasSameField 23 = .ok (.iconst 3, 1) := by decide +kernel
theorem dX2_hasSameField_24 : decode cX2_hasSameField 24 = .ok (.if_icmp .ne 12, 3) := by decide +kernel
theorem dX2_hasSameField_27 : decode cX2_hasSameField 27 = .ok (.aload_n 0, 1) := by decide +kernel
theorem dX2_hasSameField_28 : decode cX2_hasSameField 28 = .ok (.aload_n 1, 1) := by decide +kernel
theorem dX2_hasSameField_29 : decode cX2_hasSameField 29 = .ok (.iload_n 2, 1) := by decide +kernel
theorem dX2_hasSameField_30 : decode cX2_hasSameField 30 = .ok (.invokevirtual 36, 3) := by decide +kernel
theorem dX2_hasSameField_33 : decode cX2_hasSameField 33 = .ok (.ifCond .eq 7, 3) := by decide +kernel
theorem dX2_hasSameField_36 : decode cX2_hasSameField 36 = .ok (.iconst 1, 1) := by decide +kernel
theorem dX2_hasSameField_37 : decode cX2_hasSameField 37 = .ok (.goto 4, 3) := by decide +kernel
theorem dX2_hasSameField_40 : decode cX2_hasSameField 40 = .ok (.iconst 0, 1) := by decide +kernel
theorem dX2_hasSameField_41 : decode cX2_hasSameField 41 = .ok (.ireturn, 1) := by decide +kernel
set_option maxRecDepth 20000 in
theorem ggX2_hasSameItems_X2_itemPlace : GoodIn wsX2_hasSameItems wsX2_itemPlace := goodIn_r _ [5] (by decide +kernel) (by decide +kernel)
set_option maxRecDepth 20000 in
theorem gX2_hasSameItems_X2_itemPlace : GoodIn wsX2_hasSameItems (va_wsS RX2 28 yX2_itemPlace wsX2_itemPlace) := goodIn_app (goodIn_of _ (by decide +kernel)) ggX2_hasSameItems_X2_itemPlace
theorem dX2_hasSameItems_0 : decode cX2_hasSameItems 0 = .ok (.iconst 0, 1) := by decide +kernel
theorem dX2_hasSameItems_1 : decode cX2_hasSameItems 1 = .ok (.istore_n 3, 1) := by decide +kernel
theorem dX2_hasSameItems_2 : decode cX2_hasSameItems 2 = .ok (.iload_n 3, 1) := by decide +kernel
theorem dX2_hasSameItems_3 : decode cX2_hasSameItems 3 = .ok (.bipush 8, 2) := by decide +kernel
theorem dX2_hasSameItems_5 : decode cX2_hasSameItems 5 = .ok (.if_icmp .ge 34, 3) := by decide +kernel
theorem dX2_hasSameItems_8 : decode cX2_hasSameItems 8 = .ok (.aload_n 0, 1) := by decide +kernel
theorem dX2_hasSameItems_9 : decode cX2_hasSameItems 9 = .ok (.getfield 15, 3) := by decide +kernel
theorem dX2_hasSameItems_12 : decode cX2_hasSameItems 12 = .ok (.iload_n 2, 1) := by decide +kernel
theorem dX2_hasSameItems_13 : decode cX2_hasSameItems 13 = .ok (.iload_n 3, 1) := by decide +kernel
theorem dX2_hasSameItems_14 : decode cX2_hasSameItems 14 = .ok (.invokestatic 28, 3) := by decide +kernel
theorem dX2_hasSameItems_17 : decode cX2_hasSameItems 17 = .ok (.iaload, 1) := by decide +kernel
theorem dX2_hasSameItems_18 : decode cX2_hasSameItems 18 = .ok (.aload_n 1, 1) := by decide +kernel
theorem dX2_hasSameItems_19 : decode cX2_hasSameItems 19 = .ok (.getfield 15, 3) := by decide +kernel
theorem dX2_hasSameItems_22 : decode cX2_hasSameItems 22 = .ok (.iload_n 2, 1) := by decide +kernel
theorem dX2_hasSameItems_23 : decode cX2_hasSameItems 23 = .ok (.iload_n 3, 1) := by decide +kernel
theorem dX2_hasSameItems_24 : decode cX2_hasSameItems 24 = .ok (.invokestatic 28, 3) := by decide +kernel
theorem dX2_hasSameItems_27 : decode cX2_hasSameItems 27 = .ok (.iaload, 1) := by decide +kernel
theorem dX2_hasSameItems_28 : decode cX2_hasSameItems 28 = .ok (.if_icmp .eq 5, 3) := by decide +kernel
theorem dX2_hasSameItems_31 : decode cX2_hasSameItems 31 = .ok (.iconst 0, 1) := by decide +kernel
theorem dX2_hasSameItems_32 : decode cX2_hasSameItems 32 = .ok (.ireturn, 1) := by decide +kernel
theorem dX2_hasSameItems_33 : decode cX2_hasSameItems 33 = .ok (.iinc 3 1, 3) := by decide +kernel
theorem dX2_hasSameItems_36 : decode cX2_hasSameItems 36 = .ok (.goto (-34), 3) := by decide +kernel
theorem dX2_hasSameItems_39 : decode cX2_hasSameItems 39 = .ok (.iconst 1, 1) := by decide +kernel
theorem dX2_hasSameItems_40 : decode cX2_hasSameItems 40 = .ok (.ireturn, 1) := by decide +kernel
theorem dX2_copyFrom_0 : decode cX2_copyFrom 0 = .ok (.aload_n 1, 1) := by decide +kernel
theorem dX2_copyFrom_1 : decode cX2_copyFrom 1 = .ok (.getfield 9, 3) := by decide +kernel
theorem dX2_copyFrom_4 : decode cX2_copyFrom 4 = .ok (.iconst 0, 1) := by decide +kernel
theorem dX2_copyFrom_5 : decode cX2_copyFrom 5 = .ok (.aload_n 0, 1) := by decide +kernel
theorem dX2_copyFrom_6 : decode cX2_copyFrom 6 = .ok (.getfield 9, 3) := by decide +kernel
theorem dX2_copyFrom_9 : decode cX2_copyFrom 9 = .ok (.iconst 0, 1) := by decide +kernel
theorem dX2_copyFrom_10 : decode cX2_copyFrom 10 = .ok (.bipush 8, 2) := by decide +kernel
theorem dX2_copyFrom_12 : decode cX2_copyFrom 12 = .ok (.invokestatic 40, 3) := by decide +kernel
theorem dX2_copyFrom_15 : decode cX2_copyFrom 15 = .ok (.aload_n 1, 1) := by decide +kernel
theorem dX2_copyFrom_16 : decode cX2_copyFrom 16 = .ok (.getfield 15, 3) := by decide +kernel
theorem dX2_copyFrom_19 : decode cX2_copyFrom 19 = .ok (.iconst 0, 1) := by decide +kernel
theorem dX2_copyFrom_20 : decode cX2_copyFrom 20 = .ok (.aload_n 0, 1) := by decide +kernel
theorem dX2_copyFrom_21 : decode cX2_copyFrom 21 = .ok (.getfield 15, 3) := by decide +kernel
theorem dX2_copyFrom_24 : decode cX2_copyFrom 24 = .ok (.iconst 0, 1) := by decide +kernel
theorem dX2_copyFrom_25 : decode cX2_copyFrom 25 = .ok (.bipush 16, 2) := by decide +kernel
theorem dX2_copyFrom_27 : decode cX2_copyFrom 27 = .ok (.invokestatic 40, 3) := by decide +kernel
theorem dX2_copyFrom_30 : decode cX2_copyFrom 30 = .ok (.return_, 1) := by decide +kernel
theorem dX2_asOf_0 : decode cX2_asOf 0 = .ok (.aload_n 0, 1) := by decide +kernel
theorem dX2_asOf_1 : decode cX2_asOf 1 = .ok (.astore_n 2, 1) := by decide +kernel
theorem dX2_asOf_2 : decode cX2_asOf 2 = .ok (.aload_n 2, 1) := by decide +kernel
theorem dX2_asOf_3 : decode cX2_asOf 3 = .ok (.getfield 46, 3) := by decide +kernel
theorem dX2_asOf_6 : decode cX2_asOf 6 = .ok (.ifnull 19, 3) := by decide +kernel
theorem dX2_asOf_9 : decode cX2_asOf 9 = .ok (.aload_n 2, 1) := by decide +kernel
theorem dX2_asOf_10 : decode cX2_asOf 10 = .ok (.getfield 50, 3) := by decide +kernel
theorem dX2_asOf_13 : decode cX2_asOf 13 = .ok (.iload_n 1, 1) := by decide +kernel
theorem dX2_asOf_14 : decode cX2_asOf 14 = .ok (.if_icmp .le 11, 3) := by decide +kernel
theorem dX2_asOf_17 : decode cX2_asOf 17 = .ok (.aload_n 2, 1) := by decide +kernel
theorem dX2_asOf_18 : decode cX2_asOf 18 = .ok (.getfield 46, 3) := by decide +kernel
theorem dX2_asOf_21 : decode cX2_asOf 21 = .ok (.astore_n 2, 1) := by decide +kernel
theorem dX2_asOf_22 : decode cX2_asOf 22 = .ok (.goto (-20), 3) := by decide +kernel
theorem dX2_asOf_25 : decode cX2_asOf 25 = .ok (.aload_n 2, 1) := by decide +kernel
theorem dX2_asOf_26 : decode cX2_asOf 26 = .ok (.areturn, 1) := by decide +kernel
set_option maxRecDepth 20000 in
theorem ggX3_init_X4_init : GoodIn wsX3_init wsX4_init := goodIn_r _ [16, 17, 2, 3, 11, 18, 19, 20, 21, 22, 23, 24, 25] (by decide +kernel) (by decide +kernel)
set_option maxRecDepth 20000 in
theorem gX3_init_X4_init_n11 : GoodIn wsX3_init (wsX4_init) := ggX3_init_X4_init
theorem dX3_init_0 : decode cX3_init 0 = .ok (.aload_n 0, 1) := by decide +kernel
theorem dX3_init_1 : decode cX3_init 1 = .ok (.invokespecial 3, 3) := by decide +kernel
theorem dX3_init_4 : decode cX3_init 4 = .ok (.aload_n 0, 1) := by decide +kernel
theorem dX3_init_5 : decode cX3_init 5 = .ok (.new 9, 3) := by decide +kernel
theorem dX3_init_8 : decode cX3_init 8 = .ok (.dup, 1) := by decide +kernel
theorem dX3_init_9 : decode cX3_init 9 = .ok (.invokespecial 11, 3) := by decide +kernel
theorem dX3_init_12 : decode cX3_init 12 = .ok (.putfield 12, 3) := by decide +kernel
theorem dX3_init_15 : decode cX3_init 15 = .ok (.aload_n 0, 1) := by decide +kernel
theorem dX3_init_16 : decode cX3_init 16 = .ok (.bipush (-3), 2) := by decide +kernel
theorem dX3_init_18 : decode cX3_init 18 = .ok (.putfield 18, 3) := by decide +kernel
theorem dX3_init_21 : decode cX3_init 21 = .ok (.aload_n 0, 1) := by decide +kernel
theorem dX3_init_22 : decode cX3_init 22 = .ok (.bipush 24, 2) := by decide +kernel
theorem dX3_init_24 : decode cX3_init 24 = .ok (.anewarray 22, 3) := by decide +kernel
theorem dX3_init_27 : decode cX3_init 27 = .ok (.putfield 24, 3) := by decide +kernel
theorem dX3_init_30 : decode cX3_init 30 = .ok (.aload_n 0, 1) := by decide +kernel
theorem dX3_init_31 : decode cX3_init 31 = .ok (.iconst 4, 1) := by decide +kernel
theorem dX3_init_32 : decode cX3_init 32 = .ok (.newarray .int, 2) := by decide +kernel
theorem dX3_init_34 : decode cX3_init 34 = .ok (.putfield 28, 3) := by decide +kernel
theorem dX3_init_37 : decode cX3_init 37 = .ok (.aload_n 0, 1) := by decide +kernel
theorem dX3_init_38 : decode cX3_init 38 = .ok (.iconst 4, 1) := by decide +kernel
theorem dX3_init_39 : decode cX3_init 39 = .ok (.newarray .long, 2) := by decide +kernel
theorem dX3_init_41 : decode cX3_init 41 = .ok (.putfield 32, 3) := by decide +kernel
theorem dX3_init_44 : decode cX3_init 44 = .ok (.return_, 1) := by decide +kernel
set_option maxRecDepth 20000 in
theorem ggX3_start_X4_restart : GoodIn wsX3_start wsX4_restart := goodIn_r _ [14, 15, 16, 17, 18, 19, 20, 21, 22, 38, 39, 40, 41, 42] (by decide +kernel) (by decide +kernel)
set_option maxRecDepth 20000 in
theorem gX3_start_X4_restart : GoodIn wsX3_start (wsV RX3 39 RX4 yX4_restart wsX4_restart) := goodIn_app (goodIn_of _ (by decide +kernel)) ggX3_start_X4_restart
set_option maxRecDepth 20000 in
theorem ggX3_start_J7_fill_53178 : GoodIn wsX3_start wsJ7_fill_53178 := goodIn_r _ [22] (by decide +kernel) (by decide +kernel)
set_option maxRecDepth 20000 in
theorem gX3_start_J7_fill_53178 : GoodIn wsX3_start (va_wsS RX3 55 yJ7_fill_53178 wsJ7_fill_53178) := goodIn_app (goodIn_of _ (by decide +kernel)) ggX3_start_J7_fill_53178
set_option maxRecDepth 20000 in
theorem ggX3_start_J7_fill_d0a16 : GoodIn wsX3_start wsJ7_fill_d0a16 := goodIn_r _ [26] (by decide +kernel) (by decide +kernel)
set_option maxRecDepth 20000 in
theorem gX3_start_J7_fill_d0a16 : GoodIn wsX3_start (va_wsS RX3 61 yJ7_fill_d0a16 wsJ7_fill_d0a16) := goodIn_app (goodIn_of _ (by decide +kernel)) ggX3_start_J7_fill_d0a16
theorem dX3_start_0 : decode cX3_start 0 = .ok (.aload_n 0, 1) := by decide +kernel
theorem dX3_start_1 : decode cX3_start 1 = .ok (.aload_n 1, 1) := by decide +kernel
theorem dX3_start_2 : decode cX3_start 2 = .ok (.putfield 36, 3) := by decide +kernel
theorem dX3_start_5 : decode cX3_start 5 = .ok (.aload_n 0, 1) := by decide +kernel
theorem dX3_start_6 : decode cX3_start 6 = .ok (.getfield 12, 3) := by decide +kernel
theorem dX3_start_9 : decode cX3_start 9 = .ok (.invokevirtual 39, 3) := by decide +kernel
theorem dX3_start_12 : decode cX3_start 12 = .ok (.aload_n 0, 1) := by decide +kernel
theorem dX3_start_13 : decode cX3_start 13 = .ok (.iconst 0, 1) := by decide +kernel
theorem dX3_start_14 : decode cX3_start 14 = .ok (.putfield 42, 3) := by decide +kernel
theorem dX3_start_17 : decode cX3_start 17 = .ok (.aload_n 0, 1) := by decide +kernel
theorem dX3_start_18 : decode cX3_start 18 = .ok (.iconst 0, 1) := by decide +kernel
theorem dX3_start_19 : decode cX3_start 19 = .ok (.putfield 45, 3) := by decide +kernel
theorem dX3_start_22 : decode cX3_start 22 = .ok (.aload_n 0, 1) := by decide +kernel
theorem dX3_start_23 : decode cX3_start 23 = .ok (.lconst 0, 1) := by decide +kernel
theorem dX3_start_24 : decode cX3_start 24 = .ok (.putfield 48, 3) := by decide +kernel
theorem dX3_start_27 : decode cX3_start 27 = .ok (.aload_n 0, 1) := by decide +kernel
theorem dX3_start_28 : decode cX3_start 28 = .ok (.iconst 0, 1) := by decide +kernel
theorem dX3_start_29 : decode cX3_start 29 = .ok (.putfield 52, 3) := by decide +kernel
theorem dX3_start_32 : decode cX3_start 32 = .ok (.aload_n 0, 1) := by decide +kernel
theorem dX3_start_33 : decode cX3_start 33 = .ok (.bipush (-3), 2) := by decide +kernel
theorem dX3_start_35 : decode cX3_start 35 = .ok (.putfield 18, 3) := by decide +kernel
theorem dX3_start_38 : decode cX3_start 38 = .ok (.aload_n 0, 1) := by decide +kernel
theorem dX3_start_39 : decode cX3_start 39 = .ok (.getfield 28, 3) := by decide +kernel
theorem dX3_start_42 : decode cX3_start 42 = .ok (.bipush (-3), 2) := by decide +kernel
theorem dX3_start_44 : decode cX3_start 44 = .ok (.invokestatic 55, 3) := by decide +kernel
theorem dX3_start_47 : decode cX3_start 47 = .ok (.aload_n 0, 1) := by decide +kernel
theorem dX3_start_48 : decode cX3_start 48 = .ok (.getfield 28, 3) := by decide +kernel
theorem dX3_start_51 : decode cX3_start 51 = .ok (.iconst 0, 1) := by decide +kernel
theorem dX3_start_52 : decode cX3_start 52 = .ok (.iload_n 2, 1) := by decide +kernel
theorem dX3_start_53 : decode cX3_start 53 = .ok (.iastore, 1) := by decide +kernel
theorem dX3_start_54 : decode cX3_start 54 = .ok (.aload_n 0, 1) := by decide +kernel
theorem dX3_start_55 : decode cX3_start 55 = .ok (.getfield 32, 3) := by decide +kernel
theorem dX3_start_58 : decode cX3_start 58 = .ok (.lconst 0, 1) := by decide +kernel
theorem dX3_start_59 : decode cX3_start 59 = .ok (.invokestatic 61, 3) := by decide +kernel
theorem dX3_start_62 : decode cX3_start 62 = .ok (.aload_n 0, 1) := by decide +kernel
theorem dX3_start_63 : decode cX3_start 63 = .ok (.getfield 32, 3) := by decide +kernel
theorem dX3_start_66 : decode cX3_start 66 = .ok (.iconst 0, 1) := by decide +kernel
theorem dX3_start_67 : decode cX3_start 67 = .ok (.lload_n 3, 1) := by decide +kernel
theorem dX3_start_68 : decode cX3_start 68 = .ok (.lastore, 1) := by decide +kernel
theorem dX3_start_69 : decode cX3_start 69 = .ok (.return_, 1) := by decide +kernel
set_option maxRecDepth 20000 in
theorem ggX3_loadAhead_X3_load : GoodIn wsX3_loadAhead wsX3_load := goodIn_r _ [5, 6, 7, 8, 9, 10, 11, 12, 13, 14, 15, 16, 17, 18, 19, 20, 21, 22, 23, 24, 25, 26, 27, 28, 29, 30, 31, 32, 33, 34, 35, 36, 37, 38, 39, 40, 41, 42, 43, 44, 45, 46, 47, 48, 49, 50, 51, 52] (by decide +kernel) (by decide +kernel)
set_option maxRecDepth 20000 in
theorem gX3_loadAhead_X3_load : GoodIn wsX3_loadAhead (wsV RX3 64 RX3 yX3_load wsX3_load) := goodIn_app (goodIn_of _ (by decide +kernel)) ggX3_loadAhead_X3_load
theorem dX3_loadAhead_0 : decode cX3_loadAhead 0 = .ok (.iconst 0, 1) := by decide +kernel
theorem dX3_loadAhead_1 : decode cX3_loadAhead 1 = .ok (.istore_n 2, 1) := by decide +kernel
theorem dX3_loadAhead_2 : decode cX3_loadAhead 2 = .ok (.iload_n 2, 1) := by decide +kernel
theorem dX3_loadAhead_3 : decode cX3_loadAhead 3 = .ok (.iload_n 1, 1) := by decide +kernel
theorem dX3_loadAhead_4 : decode cX3_loadAhead 4 = .ok (.if_icmp .ge 14, 3) := by decide +kernel
theorem dX3_loadAhead_7 : decode cX3_loadAhead 7 = .ok (.aload_n 0, 1) := by decide +kernel
theorem dX3_loadAhead_8 : decode cX3_loadAhead 8 = .ok (.iload_n 2, 1) := by decide +kernel
theorem dX3_loadAhead_9 : decode cX3_loadAhead 9 = .ok (.invokevirtual 64, 3) := by decide +kernel
theorem dX3_loadAhead_12 : decode cX3_loadAhead 12 = .ok (.iinc 2 1, 3) := by decide +kernel
theorem dX3_loadAhead_15 : decode cX3_loadAhead 15 = .ok (.goto (-13), 3) := by decide +kernel
theorem dX3_loadAhead_18 : decode cX3_loadAhead 18 = .ok (.return_, 1) := by decide +kernel
set_option maxRecDepth 20000 in
theorem ggX3_work_X1_actAt : GoodIn wsX3_work wsX1_actAt := goodIn_r _ [7, 8, 9, 180, 181] (by decide +kernel) (by decide +kernel)
set_option maxRecDepth 20000 in
theorem gX3_work_X1_actAt : GoodIn wsX3_work (wsV RX3 68 RX1 yX1_actAt wsX1_actAt) := goodIn_app (goodIn_of _ (by decide +kernel)) ggX3_work_X1_actAt
set_option maxRecDepth 20000 in
theorem ggX3_work_X3_fail : GoodIn wsX3_work wsX3_fail := goodIn_r _ [14, 15, 16, 169, 170, 171, 172, 173, 174, 175, 176, 177, 178, 179] (by decide +kernel) (by decide +kernel)
set_option maxRecDepth 20000 in
theorem gX3_work_X3_fail : GoodIn wsX3_work (wsV RX3 74 RX3 yX3_fail wsX3_fail) := goodIn_app (goodIn_of _ (by decide +kernel)) ggX3_work_X3_fail
set_option maxRecDepth 20000 in
theorem ggX3_work_X3_perform : GoodIn wsX3_work wsX3_perform := goodIn_r _ [20, 21, 22, 23, 24, 25, 26, 27, 28, 29, 30, 13, 31, 32, 33, 34, 35, 36, 37, 38, 39, 40, 41, 42, 43, 44, 45, 46, 47, 48, 49, 50, 51, 52, 53, 54, 55, 56, 57, 58, 59, 60, 61, 62, 63, 64, 65, 66, 67, 68, 69, 70, 71, 72, 73, 74, 75, 76, 77, 78, 79, 80, 81, 82, 83, 84, 85, 86, 87, 88, 89, 90, 91, 92, 93, 94, 95, 96, 97, 98, 99, 100, 101, 102, 103, 104, 105, 106, 107, 108, 109, 110, 111, 112, 113, 114, 115, 116, 117, 118, 119, 120, 121, 122, 123, 124, 125, 126, 127, 128, 129, 130, 131, 132, 133, 134, 135, 136, 137, 138, 139, 140, 141, 142, 143, 144, 145, 146, 147, 148, 149, 150, 151, 152, 153, 154, 155, 156, 157, 158, 159, 160, 161, 162, 163, 2, 164, 165, 166, 167, 168, 182, 183, 184, 185, 186, 187, 169, 170, 171, 172, 173, 174, 175, 176, 177, 178, 179, 188, 189, 190, 191, 192, 193, 194, 195, 196, 197] (by decide +kernel) (by decide +kernel)
set_option maxRecDepth 20000 in
theorem gX3_work_X3_perform : GoodIn wsX3_work (wsV RX3 81 RX3 yX3_perform wsX3_perform) := goodIn_app (goodIn_of _ (by decide +kernel)) ggX3_work_X3_perform
theorem dX3_work_0 : decode cX3_work 0 = .ok (.iconst 0, 1) := by decide +kernel
theorem dX3_work_1 : decode cX3_work 1 = .ok (.istore_n 2, 1) := by decide +kernel
theorem dX3_work_2 : decode cX3_work 2 = .ok (.iconst 0, 1) := by decide +kernel
theorem dX3_work_3 : decode cX3_work 3 = .ok (.istore_n 3, 1) := by decide +kernel
theorem dX3_work_4 : decode cX3_work 4 = .ok (.iload_n 3, 1) := by decide +kernel
theorem dX3_work_5 : decode cX3_work 5 = .ok (.sipush 200, 3) := by decide +kernel
theorem dX3_work_8 : decode cX3_work 8 = .ok (.if_icmp .gt 77, 3) := by decide +kernel
theorem dX3_work_11 : decode cX3_work 11 = .ok (.aload_n 1, 1) := by decide +kernel
theorem dX3_work_12 : decode cX3_work 12 = .ok (.iload_n 2, 1) := by decide +kernel
theorem dX3_work_13 : decode cX3_work 13 = .ok (.invokevirtual 68, 3) := by decide +kernel
theorem dX3_work_16 : decode cX3_work 16 = .ok (.astore 4, 2) := by decide +kernel
theorem dX3_work_18 : decode cX3_work 18 = .ok (.aload 4, 2) := by decide +kernel
theorem dX3_work_20 : decode cX3_work 20 = .ok (.ifnonnull 4, 3) := by decide +kernel
theorem dX3_work_23 : decode cX3_work 23 = .ok (.return_, 1) := by decide +kernel
theorem dX3_work_24 : decode cX3_work 24 = .ok (.iload_n 3, 1) := by decide +kernel
theorem dX3_work_25 : decode cX3_work 25 = .ok (.sipush 200, 3) := by decide +kernel
theorem dX3_work_28 : decode cX3_work 28 = .ok (.if_icmp .ne 11, 3) := by decide +kernel
theorem dX3_work_31 : decode cX3_work 31 = .ok (.aload_n 0, 1) := by decide +kernel
theorem dX3_work_32 : decode cX3_work 32 = .ok (.bipush 7, 2) := by decide +kernel
theorem dX3_work_34 : decode cX3_work 34 = .ok (.iload_n 2, 1) := by decide +kernel
theorem dX3_work_35 : decode cX3_work 35 = .ok (.invokevirtual 74, 3) := by decide +kernel
theorem dX3_work_38 : decode cX3_work 38 = .ok (.return_, 1) := by decide +kernel
theorem dX3_work_39 : decode cX3_work 39 = .ok (.aload_n 0, 1) := by decide +kernel
theorem dX3_work_40 : decode cX3_work 40 = .ok (.iload_n 3, 1) := by decide +kernel
theorem dX3_work_41 : decode cX3_work 41 = .ok (.iconst 1, 1) := by decide +kernel
theorem dX3_work_42 : decode cX3_work 42 = .ok (.iadd, 1) := by decide +kernel
theorem dX3_work_43 : decode cX3_work 43 = .ok (.putfield 45, 3) := by decide +kernel
theorem dX3_work_46 : decode cX3_work 46 = .ok (.aload_n 0, 1) := by decide +kernel
theorem dX3_work_47 : decode cX3_work 47 = .ok (.iload_n 2, 1) := by decide +kernel
theorem dX3_work_48 : decode cX3_work 48 = .ok (.iconst 1, 1) := by decide +kernel
theorem dX3_work_49 : decode cX3_work 49 = .ok (.iadd, 1) := by decide +kernel
theorem dX3_work_50 : decode cX3_work 50 = .ok (.putfield 78, 3) := by decide +kernel
theorem dX3_work_53 : decode cX3_work 53 = .ok (.aload_n 0, 1) := by decide +kernel
theorem dX3_work_54 : decode cX3_work 54 = .ok (.aload 4, 2) := by decide +kernel
theorem dX3_work_56 : decode cX3_work 56 = .ok (.invokevirtual 81, 3) := by decide +kernel
theorem dX3_work_59 : decode cX3_work 59 = .ok (.istore 5, 2) := by decide +kernel
theorem dX3_work_61 : decode cX3_work 61 = .ok (.iload 5, 2) := by decide +kernel
theorem dX3_work_63 : decode cX3_work 63 = .ok (.ifCond .eq 11, 3) := by decide +kernel
theorem dX3_work_66 : decode cX3_work 66 = .ok (.aload_n 0, 1) := by decide +kernel
theorem dX3_work_67 : decode cX3_work 67 = .ok (.iload 5, 2) := by decide +kernel
theorem dX3_work_69 : decode cX3_work 69 = .ok (.iload_n 2, 1) := by decide +kernel
theorem dX3_work_70 : decode cX3_work 70 = .ok (.invokevirtual 74, 3) := by decide +kernel
theorem dX3_work_73 : decode cX3_work 73 = .ok (.return_, 1) := by decide +kernel
theorem dX3_work_74 : decode cX3_work 74 = .ok (.aload_n 0, 1) := by decide +kernel
theorem dX3_work_75 : decode cX3_work 75 = .ok (.getfield 78, 3) := by decide +kernel
theorem dX3_work_78 : decode cX3_work 78 = .ok (.istore_n 2, 1) := by decide +kernel
theorem dX3_work_79 : decode cX3_work 79 = .ok (.iinc 3 1, 3) := by decide +kernel
theorem dX3_work_82 : decode cX3_work 82 = .ok (.goto (-78), 3) := by decide +kernel
theorem dX3_work_85 : decode cX3_work 85 = .ok (.return_, 1) := by decide +kernel
theorem dX3_fail_0 : decode cX3_fail 0 = .ok (.aload_n 0, 1) := by decide +kernel
theorem dX3_fail_1 : decode cX3_fail 1 = .ok (.iload_n 1, 1) := by decide +kernel
theorem dX3_fail_2 : decode cX3_fail 2 = .ok (.putfield 52, 3) := by decide +kernel
theorem dX3_fail_5 : decode cX3_fail 5 = .ok (.aload_n 0, 1) := by decide +kernel
theorem dX3_fail_6 : decode cX3_fail 6 = .ok (.iload_n 2, 1) := by decide +kernel
theorem dX3_fail_7 : decode cX3_fail 7 = .ok (.putfield 18, 3) := by decide +kernel
theorem dX3_fail_10 : decode cX3_fail 10 = .ok (.return_, 1) := by decide +kernel
set_option maxRecDepth 20000 in
theorem ggX3_endsLike_X4_isSameAs : GoodIn wsX3_endsLike wsX4_isSameAs := goodIn_r _ [9, 10, 11, 23, 24, 25, 26, 27] (by decide +kernel) (by decide +kernel)
set_option maxRecDepth 20000 in
theorem gX3_endsLike_X4_isSameAs : GoodIn wsX3_endsLike (wsV RX3 85 RX4 yX4_isSameAs wsX4_isSameAs) := goodIn_app (goodIn_of _ (by decide +kernel)) ggX3_endsLike_X4_isSameAs
theorem dX3_endsLike_0 : decode cX3_endsLike 0 = .ok (.aload_n 0, 1) := by decide +kernel
theorem dX3_endsLike_1 : decode cX3_endsLike 1 = .ok (.getfield 52, 3) := by decide +kernel
theorem dX3_endsLike_4 : decode cX3_endsLike 4 = .ok (.aload_n 1, 1) := by decide +kernel
theorem dX3_endsLike_5 : decode cX3_endsLike 5 = .ok (.getfield 52, 3) := by decide +kernel
theorem dX3_endsLike_8 : decode cX3_endsLike 8 = .ok (.if_icmp .ne 44, 3) := by decide +kernel
theorem dX3_endsLike_11 : decode cX3_endsLike 11 = .ok (.aload_n 0, 1) := by decide +kernel
theorem dX3_endsLike_12 : decode cX3_endsLike 12 = .ok (.getfield 18, 3) := by decide +kernel
theorem dX3_endsLike_15 : decode cX3_endsLike 15 = .ok (.aload_n 1, 1) := by decide +kernel
theorem dX3_endsLike_16 : decode cX3_endsLike 16 = .ok (.getfield 18, 3) := by decide +kernel
theorem dX3_endsLike_19 : decode cX3_endsLike 19 = .ok (.if_icmp .ne 33, 3) := by decide +kernel
theorem dX3_endsLike_22 : decode cX3_endsLike 22 = .ok (.aload_n 0, 1) := by decide +kernel
theorem dX3_endsLike_23 : decode cX3_endsLike 23 = .ok (.getfield 48, 3) := by decide +kernel
theorem dX3_endsLike_26 : decode cX3_endsLike 26 = .ok (.aload_n 1, 1) := by decide +kernel
theorem dX3_endsLike_27 : decode cX3_endsLike 27 = .ok (.getfield 48, 3) := by decide +kernel
theorem dX3_endsLike_30 : decode cX3_endsLike 30 = .ok (.lcmp, 1) := by decide +kernel
theorem dX3_endsLike_31 : decode cX3_endsLike 31 = .ok (.ifCond .ne 21, 3) := by decide +kernel
theorem dX3_endsLike_34 : decode cX3_endsLike 34 = .ok (.aload_n 0, 1) := by decide +kernel
theorem dX3_endsLike_35 : decode cX3_endsLike 35 = .ok (.getfield 12, 3) := by decide +kernel
theorem dX3_endsLike_38 : decode cX3_endsLike 38 = .ok (.aload_n 1, 1) := by decide +kernel
theorem dX3_endsLike_39 : decode cX3_endsLike 39 = .ok (.getfield 12, 3) := by decide +kernel
theorem dX3_endsLike_42 : decode cX3_endsLike 42 = .ok (.invokevirtual 85, 3) := by decide +kernel
theorem dX3_endsLike_45 : decode cX3_endsLike 45 = .ok (.ifCond .eq 7, 3) := by decide +kernel
theorem dX3_endsLike_48 : decode cX3_endsLike 48 = .ok (.iconst 1, 1) := by decide +kernel
theorem dX3_endsLike_49 : decode cX3_endsLike 49 = .ok (.goto 4, 3) := by decide +kernel
theorem dX3_endsLike_52 : decode cX3_endsLike 52 = .ok (.iconst 0, 1) := by decide +kernel
theorem dX3_endsLike_53 : decode cX3_endsLike 53 = .ok (.ireturn, 1) := by decide +kernel
set_option maxRecDepth 20000 in
theorem ggX3_changesLike_X3_bodyOf : GoodIn wsX3_changesLike wsX3_bodyOf := goodIn_r _ [6, 7, 8, 9, 10, 11, 12, 33, 34, 35, 36, 37, 38, 39, 40, 41, 42, 43] (by decide +kernel) (by decide +kernel)
set_option maxRecDepth 20000 in
theorem gX3_changesLike_X3_bodyOf : GoodIn wsX3_changesLike (wsV RX3 89 RX3 yX3_bodyOf wsX3_bodyOf) := goodIn_app (goodIn_of _ (by decide +kernel)) ggX3_changesLike_X3_bodyOf
set_option maxRecDepth 20000 in
theorem ggX3_changesLike_X2_hasSameField : GoodIn wsX3_changesLike wsX2_hasSameField := goodIn_r _ [17, 18, 19, 20, 21, 16, 22, 23, 24, 25, 26, 27, 28, 29, 30, 31, 32, 44, 45, 46, 47, 48] (by decide +kernel) (by decide +kernel)
set_option maxRecDepth 20000 in
theorem gX3_changesLike_X2_hasSameField : GoodIn wsX3_changesLike (wsV RX3 93 RX2 yX2_hasSameField wsX2_hasSameField) := goodIn_app (goodIn_of _ (by decide +kernel)) ggX3_changesLike_X2_hasSameField
theorem dX3_changesLike_0 : decode cX3_changesLike 0 = .ok (.aload_n 0, 1) := by decide +kernel
theorem dX3_changesLike_1 : decode cX3_changesLike 1 = .ok (.getfield 52, 3) := by decide +kernel
theorem dX3_changesLike_4 : decode cX3_changesLike 4 = .ok (.ifCond .eq 5, 3) := by decide +kernel
theorem dX3_changesLike_7 : decode cX3_changesLike 7 = .ok (.iconst 1, 1) := by decide +kernel
theorem dX3_changesLike_8 : decode cX3_changesLike 8 = .ok (.ireturn, 1) := by decide +kernel
theorem dX3_changesLike_9 : decode cX3_changesLike 9 = .ok (.iconst 0, 1) := by decide +kernel
theorem dX3_changesLike_10 : decode cX3_changesLike 10 = .ok (.istore_n 3, 1) := by decide +kernel
theorem dX3_changesLike_11 : decode cX3_changesLike 11 = .ok (.iload_n 3, 1) := by decide +kernel
theorem dX3_changesLike_12 : decode cX3_changesLike 12 = .ok (.iload_n 2, 1) := by decide +kernel
theorem dX3_changesLike_13 : decode cX3_changesLike 13 = .ok (.if_icmp .ge 45, 3) := by decide +kernel
theorem dX3_changesLike_16 : decode cX3_changesLike 16 = .ok (.iconst 0, 1) := by decide +kernel
theorem dX3_changesLike_17 : decode cX3_changesLike 17 = .ok (.istore 4, 2) := by decide +kernel
theorem dX3_changesLike_19 : decode cX3_changesLike 19 = .ok (.iload 4, 2) := by decide +kernel
theorem dX3_changesLike_21 : decode cX3_changesLike 21 = .ok (.bipush 8, 2) := by decide +kernel
theorem dX3_changesLike_23 : decode cX3_changesLike 23 = .ok (.if_icmp .ge 29, 3) := by decide +kernel
theorem dX3_changesLike_26 : decode cX3_changesLike 26 = .ok (.aload_n 0, 1) := by decide +kernel
theorem dX3_changesLike_27 : decode cX3_changesLike 27 = .ok (.iload_n 3, 1) := by decide +kernel
theorem dX3_changesLike_28 : decode cX3_changesLike 28 = .ok (.invokevirtual 89, 3) := by decide +kernel
theorem dX3_changesLike_31 : decode cX3_changesLike 31 = .ok (.aload_n 1, 1) := by decide +kernel
theorem dX3_changesLike_32 : decode cX3_changesLike 32 = .ok (.iload_n 3, 1) := by decide +kernel
theorem dX3_changesLike_33 : decode cX3_changesLike 33 = .ok (.invokevirtual 89, 3) := by decide +kernel
theorem dX3_changesLike_36 : decode cX3_changesLike 36 = .ok (.iload 4, 2) := by decide +kernel
theorem dX3_changesLike_38 : decode cX3_changesLike 38 = .ok (.invokevirtual 93, 3) := by decide +kernel
theorem dX3_changesLike_41 : decode cX3_changesLike 41 = .ok (.ifCond .ne 5, 3) := by decide +kernel
theorem dX3_changesLike_44 : decode cX3_changesLike 44 = .ok (.iconst 0, 1) := by decide +kernel
theorem dX3_changesLike_45 : decode cX3_changesLike 45 = .ok (.ireturn, 1) := by decide +kernel
theorem dX3_changesLike_46 : decode cX3_changesLike 46 = .ok (.iinc 4 1, 3) := by decide +kernel
theorem dX3_changesLike_49 : decode cX3_changesLike 49 = .ok (.goto (-30), 3) := by decide +kernel
theorem dX3_changesLike_52 : decode cX3_changesLike 52 = .ok (.iinc 3 1, 3) := by decide +kernel
theorem dX3_changesLike_55 : decode cX3_changesLike 55 = .ok (.goto (-44), 3) := by decide +kernel
theorem dX3_changesLike_58 : decode cX3_changesLike 58 = .ok (.iconst 1, 1) := by decide +kernel
theorem dX3_changesLike_59 : decode cX3_changesLike 59 = .ok (.ireturn, 1) := by decide +kernel
set_option maxRecDepth 20000 in
theorem ggX3_bodyOf_X5_bitOf : GoodIn wsX3_bodyOf wsX5_bitOf := goodIn_r _ [6] (by decide +kernel) (by decide +kernel)
set_option maxRecDepth 20000 in
theorem gX3_bodyOf_X5_bitOf_n97 : GoodIn wsX3_bodyOf (wsX5_bitOf) := ggX3_bodyOf_X5_bitOf
theorem dX3_bodyOf_0 : decode cX3_bodyOf 0 = .ok (.aload_n 0, 1) := by decide +kernel
theorem dX3_bodyOf_1 : decode cX3_bodyOf 1 = .ok (.getfield 42, 3) := by decide +kernel
theorem dX3_bodyOf_4 : decode cX3_bodyOf 4 = .ok (.iload_n 1, 1) := by decide +kernel
theorem dX3_bodyOf_5 : decode cX3_bodyOf 5 = .ok (.invokestatic 97, 3) := by decide +kernel
theorem dX3_bodyOf_8 : decode cX3_bodyOf 8 = .ok (.iconst 1, 1) := by decide +kernel
theorem dX3_bodyOf_9 : decode cX3_bodyOf 9 = .ok (.if_icmp .ne 12, 3) := by decide +kernel
theorem dX3_bodyOf_12 : decode cX3_bodyOf 12 = .ok (.aload_n 0, 1) := by decide +kernel
theorem dX3_bodyOf_13 : decode cX3_bodyOf 13 = .ok (.getfield 24, 3) := by decide +kernel
theorem dX3_bodyOf_16 : decode cX3_bodyOf 16 = .ok (.iload_n 1, 1) := by decide +kernel
theorem dX3_bodyOf_17 : decode cX3_bodyOf 17 = .ok (.aaload, 1) := by decide +kernel
theorem dX3_bodyOf_18 : decode cX3_bodyOf 18 = .ok (.goto 9, 3) := by decide +kernel
theorem dX3_bodyOf_21 : decode cX3_bodyOf 21 = .ok (.aload_n 0, 1) := by decide +kernel
theorem dX3_bodyOf_22 : decode cX3_bodyOf 22 = .ok (.getfield 36, 3) := by decide +kernel
theorem dX3_bodyOf_25 : decode cX3_bodyOf 25 = .ok (.iload_n 1, 1) := by decide +kernel
theorem dX3_bodyOf_26 : decode cX3_bodyOf 26 = .ok (.aaload, 1) := by decide +kernel
theorem dX3_bodyOf_27 : decode cX3_bodyOf 27 = .ok (.areturn, 1) := by decide +kernel
set_option maxRecDepth 20000 in
theorem ggX3_load_X5_bitOf : GoodIn wsX3_load wsX5_bitOf := goodIn_r _ [10] (by decide +kernel) (by decide +kernel)
set_option maxRecDepth 20000 in
theorem gX3_load_X5_bitOf_n97 : GoodIn wsX3_load (wsX5_bitOf) := ggX3_load_X5_bitOf
set_option maxRecDepth 20000 in
theorem ggX3_load_X2_init : GoodIn wsX3_load wsX2_init := goodIn_r _ [13, 14, 15, 16, 17, 18, 19, 20, 21, 22, 23, 43, 44, 45, 46, 47] (by decide +kernel) (by decide +kernel)
set_option maxRecDepth 20000 in
theorem gX3_load_X2_init : GoodIn wsX3_load (wsX2_init) := ggX3_load_X2_init
set_option maxRecDepth 20000 in
theorem ggX3_load_X2_copyFrom : GoodIn wsX3_load wsX2_copyFrom := goodIn_r _ [27, 18, 28, 29, 30, 31, 20, 43, 44, 45, 46, 47] (by decide +kernel) (by decide +kernel)
set_option maxRecDepth 20000 in
theorem gX3_load_X2_copyFrom : GoodIn wsX3_load (wsV RX3 106 RX2 yX2_copyFrom wsX2_copyFrom) := goodIn_app (goodIn_of _ (by decide +kernel)) ggX3_load_X2_copyFrom
theorem dX3_load_0 : decode cX3_load 0 = .ok (.aload_n 0, 1) := by decide +kernel
theorem dX3_load_1 : decode cX3_load 1 = .ok (.getfield 42, 3) := by decide +kernel
theorem dX3_load_4 : decode cX3_load 4 = .ok (.iload_n 1, 1) := by decide +kernel
theorem dX3_load_5 : decode cX3_load 5 = .ok (.invokestatic 97, 3) := by decide +kernel
theorem dX3_load_8 : decode cX3_load 8 = .ok (.iconst 1, 1) := by decide +kernel
theorem dX3_load_9 : decode cX3_load 9 = .ok (.if_icmp .ne 4, 3) := by decide +kernel
theorem dX3_load_12 : decode cX3_load 12 = .ok (.return_, 1) := by decide +kernel
theorem dX3_load_13 : decode cX3_load 13 = .ok (.aload_n 0, 1) := by decide +kernel
theorem dX3_load_14 : decode cX3_load 14 = .ok (.getfield 24, 3) := by decide +kernel
theorem dX3_load_17 : decode cX3_load 17 = .ok (.iload_n 1, 1) := by decide +kernel
theorem dX3_load_18 : decode cX3_load 18 = .ok (.aaload, 1) := by decide +kernel
theorem dX3_load_19 : decode cX3_load 19 = .ok (.ifnonnull 25, 3) := by decide +kernel
theorem dX3_load_22 : decode cX3_load 22 = .ok (.aload_n 0, 1) := by decide +kernel
theorem dX3_load_23 : decode cX3_load 23 = .ok (.getfield 24, 3) := by decide +kernel
theorem dX3_load_26 : decode cX3_load 26 = .ok (.iload_n 1, 1) := by decide +kernel
theorem dX3_load_27 : decode cX3_load 27 = .ok (.new 22, 3) := by decide +kernel
theorem dX3_load_30 : decode cX3_load 30 = .ok (.dup, 1) := by decide +kernel
theorem dX3_load_31 : decode cX3_load 31 = .ok (.aload_n 0, 1) := by decide +kernel
theorem dX3_load_32 : decode cX3_load 32 = .ok (.getfield 36, 3) := by decide +kernel
theorem dX3_load_35 : decode cX3_load 35 = .ok (.iload_n 1, 1) := by decide +kernel
theorem dX3_load_36 : decode cX3_load 36 = .ok (.aaload, 1) := by decide +kernel
theorem dX3_load_37 : decode cX3_load 37 = .ok (.getfield 101, 3) := by decide +kernel
theorem dX3_load_40 : decode cX3_load 40 = .ok (.invokespecial 104, 3) := by decide +kernel
theorem dX3_load_43 : decode cX3_load 43 = .ok (.aastore, 1) := by decide +kernel
theorem dX3_load_44 : decode cX3_load 44 = .ok (.aload_n 0, 1) := by decide +kernel
theorem dX3_load_45 : decode cX3_load 45 = .ok (.getfield 24, 3) := by decide +kernel
theorem dX3_load_48 : decode cX3_load 48 = .ok (.iload_n 1, 1) := by decide +kernel
theorem dX3_load_49 : decode cX3_load 49 = .ok (.aaload, 1) := by decide +kernel
theorem dX3_load_50 : decode cX3_load 50 = .ok (.aload_n 0, 1) := by decide +kernel
theorem dX3_load_51 : decode cX3_load 51 = .ok (.getfield 36, 3) := by decide +kernel
theorem dX3_load_54 : decode cX3_load 54 = .ok (.iload_n 1, 1) := by decide +kernel
theorem dX3_load_55 : decode cX3_load 55 = .ok (.aaload, 1) := by decide +kernel
theorem dX3_load_56 : decode cX3_load 56 = .ok (.invokevirtual 106, 3) := by decide +kernel
theorem dX3_load_59 : decode cX3_load 59 = .ok (.aload_n 0, 1) := by decide +kernel
theorem dX3_load_60 : decode cX3_load 60 = .ok (.dup, 1) := by decide +kernel
theorem dX3_load_61 : decode cX3_load 61 = .ok (.getfield 42, 3) := by decide +kernel
theorem dX3_load_64 : decode cX3_load 64 = .ok (.iconst 1, 1) := by decide +kernel
theorem dX3_load_65 : decode cX3_load 65 = .ok (.iload_n 1, 1) := by decide +kernel
theorem dX3_load_66 : decode cX3_load 66 = .ok (.ishl, 1) := by decide +kernel
theorem dX3_load_67 : decode cX3_load 67 = .ok (.ior, 1) := by decide +kernel
theorem dX3_load_68 : decode cX3_load 68 = .ok (.putfield 42, 3) := by decide +kernel
theorem dX3_load_71 : decode cX3_load 71 = .ok (.return_, 1) := by decide +kernel
set_option maxRecDepth 20000 in
theorem ggX3_perform_X3_setValue : GoodIn wsX3_perform wsX3_setValue := goodIn_r _ [12, 5, 157, 158, 159, 160, 161, 162, 163, 164, 165, 166, 167] (by decide +kernel) (by decide +kernel)
set_option maxRecDepth 20000 in
theorem gX3_perform_X3_setValue : GoodIn wsX3_perform (wsV RX3 124 RX3 yX3_setValue wsX3_setValue) := goodIn_app (goodIn_of _ (by decide +kernel)) ggX3_perform_X3_setValue
set_option maxRecDepth 20000 in
theorem ggX3_perform_X3_get : GoodIn wsX3_perform wsX3_get := goodIn_r _ [16, 17, 18, 19, 20, 11, 21, 6, 22, 23, 24, 25, 26, 27, 28, 29, 30, 31, 32, 33, 34, 35, 36, 37, 38, 39, 40, 41, 42, 43, 44, 45, 46, 47, 48, 49, 50, 51, 52, 53, 54, 55, 56, 57, 58, 59, 60, 61, 62, 63, 64, 65, 66, 67, 68, 69, 70, 71, 72, 73, 8, 9, 10, 12, 5, 168, 169, 170, 171, 172, 157, 158, 159, 160, 161, 162, 163, 164, 165, 166, 167, 173, 174, 175, 176, 177] (by decide +kernel) (by decide +kernel)
set_option maxRecDepth 20000 in
theorem gX3_perform_X3_get : GoodIn wsX3_perform (wsV RX3 128 RX3 yX3_get wsX3_get) := goodIn_app (goodIn_of _ (by decide +kernel)) ggX3_perform_X3_get
set_option maxRecDepth 20000 in
theorem ggX3_perform_X3_put : GoodIn wsX3_perform wsX3_put := goodIn_r _ [77, 17, 18, 19, 20, 11, 21, 6, 22, 23, 24, 25, 26, 27, 28, 29, 30, 31, 32, 33, 34, 35, 36, 37, 38, 39, 40, 41, 42, 43, 44, 45, 46, 47, 48, 49, 50, 51, 52, 53, 54, 55, 56, 57, 58, 59, 60, 78, 79, 80, 81, 65, 82, 83, 84, 69, 85, 86, 72, 73, 87, 168, 169, 170, 171, 172, 157, 158, 159, 160, 161, 162, 163, 164, 165, 166, 167, 173, 174, 175, 176, 177] (by decide +kernel) (by decide +kernel)
set_option maxRecDepth 20000 in
theorem gX3_perform_X3_put : GoodIn wsX3_perform (wsV RX3 132 RX3 yX3_put wsX3_put) := goodIn_app (goodIn_of _ (by decide +kernel)) ggX3_perform_X3_put
set_option maxRecDepth 20000 in
theorem ggX3_perform_X3_follow : GoodIn wsX3_perform wsX3_follow := goodIn_r _ [91, 6, 17, 18, 19, 20, 11, 21, 22, 23, 24, 25, 26, 27, 28, 29, 30, 31, 32, 33, 34, 35, 36, 37, 38, 39, 40, 41, 42, 43, 44, 45, 46, 47, 48, 49, 50, 51, 52, 53, 54, 55, 56, 57, 58, 59, 60, 61, 62, 63, 64, 65, 66, 67, 68, 69, 70, 71, 72, 73, 157, 158, 159, 160, 161, 162, 163, 164, 165, 166, 167, 168, 169, 170, 171, 172, 173, 174, 175, 176, 177] (by decide +kernel) (by decide +kernel)
set_option maxRecDepth 20000 in
theorem gX3_perform_X3_follow : GoodIn wsX3_perform (wsV RX3 136 RX3 yX3_follow wsX3_follow) := goodIn_app (goodIn_of _ (by decide +kernel)) ggX3_perform_X3_follow
set_option maxRecDepth 20000 in
theorem ggX3_perform_X3_getItem : GoodIn wsX3_perform wsX3_getItem := goodIn_r _ [95, 5, 96, 18, 19, 20, 11, 21, 6, 22, 23, 24, 25, 26, 27, 28, 29, 30, 31, 32, 33, 34, 35, 36, 37, 38, 39, 40, 41, 42, 43, 44, 45, 46, 47, 48, 49, 50, 51, 52, 53, 54, 55, 56, 57, 58, 59, 60, 61, 62, 63, 64, 65, 66, 67, 68, 69, 70, 71, 72, 73, 97, 98, 99, 17, 100, 101, 102, 103, 104, 105, 106, 107, 8, 9, 10, 12, 157, 158, 159, 160, 161, 162, 163, 164, 165, 166, 167, 168, 169, 170, 171, 172, 173, 174, 175, 176, 177] (by decide +kernel) (by decide +kernel)
set_option maxRecDepth 20000 in
theorem gX3_perform_X3_getItem : GoodIn wsX3_perform (wsV RX3 142 RX3 yX3_getItem wsX3_getItem) := goodIn_app (goodIn_of _ (by decide +kernel)) ggX3_perform_X3_getItem
set_option maxRecDepth 20000 in
theorem ggX3_perform_X3_lay : GoodIn wsX3_perform wsX3_lay := goodIn_r _ [111, 5, 96, 18, 19, 20, 11, 21, 6, 22, 23, 24, 25, 26, 27, 28, 29, 30, 31, 32, 33, 34, 35, 36, 37, 38, 39, 40, 41, 42, 43, 44, 45, 46, 47, 48, 49, 50, 51, 52, 53, 54, 55, 56, 57, 58, 59, 60, 61, 62, 63, 64, 65, 66, 67, 68, 69, 70, 71, 72, 73, 97, 98, 99, 17, 100, 101, 102, 103, 104, 78, 79, 80, 81, 82, 83, 84, 85, 86, 87, 105, 106, 107, 157, 158, 159, 160, 161, 162, 163, 164, 165, 166, 167, 168, 169, 170, 171, 172, 173, 174, 175, 176, 177] (by decide +kernel) (by decide +kernel)
set_option maxRecDepth 20000 in
theorem gX3_perform_X3_lay : GoodIn wsX3_perform (wsV RX3 146 RX3 yX3_lay wsX3_lay) := goodIn_app (goodIn_of _ (by decide +kernel)) ggX3_perform_X3_lay
set_option maxRecDepth 20000 in
theorem ggX3_perform_X3_renew : GoodIn wsX3_perform wsX3_renew := goodIn_r _ [115, 116, 18, 19, 20, 11, 21, 6, 22, 23, 24, 25, 26, 27, 28, 29, 30, 31, 32, 33, 34, 35, 36, 37, 38, 39, 40, 41, 42, 43, 44, 45, 46, 47, 48, 49, 50, 51, 52, 53, 54, 55, 56, 57, 58, 59, 60, 78, 79, 80, 81, 65, 82, 83, 84, 69, 85, 86, 72, 73, 87, 117, 118, 119, 120, 121, 106, 107, 157, 158, 159, 160, 161, 162, 163, 164, 165, 166, 167, 168, 169, 170, 171, 172, 173, 174, 175, 176, 177] (by decide +kernel) (by decide +kernel)
set_option maxRecDepth 20000 in
theorem gX3_perform_X3_renew : GoodIn wsX3_perform (wsV RX3 149 RX3 yX3_renew wsX3_renew) := goodIn_app (goodIn_of _ (by decide +kernel)) ggX3_perform_X3_renew
set_option maxRecDepth 20000 in
theorem ggX3_perform_X3_shift : GoodIn wsX3_perform wsX3_shift := goodIn_r _ [125, 2, 1, 7, 3, 17, 100, 5, 126, 96, 127, 54, 55, 56, 18, 19, 20, 11, 21, 6, 22, 23, 24, 25, 26, 27, 28, 29, 30, 31, 32, 33, 34, 35, 36, 37, 38, 39, 40, 41, 42, 43, 44, 45, 46, 47, 48, 49, 50, 51, 52, 53, 57, 58, 59, 60, 61, 62, 63, 64, 65, 66, 67, 68, 69, 70, 71, 72, 73, 78, 79, 80, 81, 82, 83, 84, 85, 86, 87, 105, 106, 107, 151, 152, 153, 154, 155, 156, 168, 169, 170, 171, 172, 157, 158, 159, 160, 161, 162, 163, 164, 165, 166, 167, 173, 174, 175, 176, 177] (by decide +kernel) (by decide +kernel)
set_option maxRecDepth 20000 in
theorem gX3_perform_X3_shift : GoodIn wsX3_perform (wsV RX3 153 RX3 yX3_shift wsX3_shift) := goodIn_app (goodIn_of _ (by decide +kernel)) ggX3_perform_X3_shift
set_option maxRecDepth 20000 in
theorem ggX3_perform_X3_areAlike : GoodIn wsX3_perform wsX3_areAlike := goodIn_r _ [131, 31, 32, 22, 65, 23, 24, 25, 11, 26, 27, 28, 29, 30, 33, 34, 35, 36, 37, 38, 39, 40, 41, 42, 43, 44, 45, 46, 47, 48, 49, 50, 51, 52, 53, 54, 55, 56, 57, 58, 59, 60, 66, 67, 68, 69, 70, 71, 72, 73, 132, 133, 134, 135, 136, 137, 138, 139, 140, 121, 106, 107, 157, 158, 159, 160, 161, 162, 163, 164, 165, 166, 167, 168, 169, 170, 171, 172, 173, 174, 175, 176, 177] (by decide +kernel) (by decide +kernel)
set_option maxRecDepth 20000 in
theorem gX3_perform_X3_areAlike : GoodIn wsX3_perform (wsV RX3 156 RX3 yX3_areAlike wsX3_areAlike) := goodIn_app (goodIn_of _ (by decide +kernel)) ggX3_perform_X3_areAlike
set_option maxRecDepth 20000 in
theorem ggX3_perform_X3_goOnAt : GoodIn wsX3_perform wsX3_goOnAt := goodIn_r _ [144, 145, 157, 158, 159, 160, 161, 162, 163, 164, 165, 166, 167] (by decide +kernel) (by decide +kernel)
set_option maxRecDepth 20000 in
theorem gX3_perform_X3_goOnAt : GoodIn wsX3_perform (wsV RX3 160 RX3 yX3_goOnAt wsX3_goOnAt) := goodIn_app (goodIn_of _ (by decide +kernel)) ggX3_perform_X3_goOnAt
set_option maxRecDepth 20000 in
theorem ggX3_perform_X3_end : GoodIn wsX3_perform wsX3_end := goodIn_r _ [149, 150, 141, 142, 143, 11, 144, 145, 157, 158, 159, 160, 161, 162, 163, 164, 165, 166, 167] (by decide +kernel) (by decide +kernel)
set_option maxRecDepth 20000 in
theorem gX3_perform_X3_end : GoodIn wsX3_perform (wsV RX3 164 RX3 yX3_end wsX3_end) := goodIn_app (goodIn_of _ (by decide +kernel)) ggX3_perform_X3_end
theorem dX3_perform_0 : decode cX3_perform 0 = .ok (.aload_n 1, 1) := by decide +kernel
theorem dX3_perform_1 : decode cX3_perform 1 = .ok (.getfield 110, 3) := by decide +kernel
theorem dX3_perform_4 : decode cX3_perform 4 = .ok (.istore_n 2, 1) := by decide +kernel
theorem dX3_perform_5 : decode cX3_perform 5 = .ok (.aload_n 1, 1) := by decide +kernel
theorem dX3_perform_6 : decode cX3_perform 6 = .ok (.getfield 115, 3) := by decide +kernel
theorem dX3_perform_9 : decode cX3_perform 9 = .ok (.l2i, 1) := by decide +kernel
theorem dX3_perform_10 : decode cX3_perform 10 = .ok (.istore_n 3, 1) := by decide +kernel
theorem dX3_perform_11 : decode cX3_perform 11 = .ok (.aload_n 1, 1) := by decide +kernel
theorem dX3_perform_12 : decode cX3_perform 12 = .ok (.getfield 118, 3) := by decide +kernel
theorem dX3_perform_15 : decode cX3_perform 15 = .ok (.istore 4, 2) := by decide +kernel
theorem dX3_perform_17 : decode cX3_perform 17 = .ok (.aload_n 1, 1) := by decide +kernel
theorem dX3_perform_18 : decode cX3_perform 18 = .ok (.getfield 121, 3) := by decide +kernel
theorem dX3_perform_21 : decode cX3_perform 21 = .ok (.tableswitch 364 0 17 #[87, 97, 117, 137, 173, 182, 197, 206, 222, 235, 248, 262, 268, 295, 326, 332, 353, 364], 87) := by decide +kernel
theorem dX3_perform_108 : decode cX3_perform 108 = .ok (.aload_n 0, 1) := by decide +kernel
theorem dX3_perform_109 : decode cX3_perform 109 = .ok (.iload_n 2, 1) := by decide +kernel
theorem dX3_perform_110 : decode cX3_perform 110 = .ok (.aload_n 1, 1) := by decide +kernel
theorem dX3_perform_111 : decode cX3_perform 111 = .ok (.getfield 115, 3) := by decide +kernel
theorem dX3_perform_114 : decode cX3_perform 114 = .ok (.invokevirtual 124, 3) := by decide +kernel
theorem dX3_perform_117 : decode cX3_perform 117 = .ok (.ireturn, 1) := by decide +kernel
theorem dX3_perform_118 : decode cX3_perform 118 = .ok (.aload_n 0, 1) := by decide +kernel
theorem dX3_perform_119 : decode cX3_perform 119 = .ok (.iload_n 2, 1) := by decide +kernel
theorem dX3_perform_120 : decode cX3_perform 120 = .ok (.aload_n 0, 1) := by decide +kernel
theorem dX3_perform_121 : decode cX3_perform 121 = .ok (.getfield 32, 3) := by decide +kernel
theorem dX3_perform_124 : decode cX3_perform 124 = .ok (.iload_n 3, 1) := by decide +kernel
theorem dX3_perform_125 : decode cX3_perform 125 = .ok (.laload, 1) := by decide +kernel
theorem dX3_perform_126 : decode cX3_perform 126 = .ok (.aload_n 0, 1) := by decide +kernel
theorem dX3_perform_127 : decode cX3_perform 127 = .ok (.getfield 32, 3) := by decide +kernel
theorem dX3_perform_130 : decode cX3_perform 130 = .ok (.iload 4, 2) := by decide +kernel
theorem dX3_perform_132 : decode cX3_perform 132 = .ok (.laload, 1) := by decide +kernel
theorem dX3_perform_133 : decode cX3_perform 133 = .ok (.ladd, 1) := by decide +kernel
theorem dX3_perform_134 : decode cX3_perform 134 = .ok (.invokevirtual 124, 3) := by decide +kernel
theorem dX3_perform_137 : decode cX3_perform 137 = .ok (.ireturn, 1) := by decide +kernel
theorem dX3_perform_138 : decode cX3_perform 138 = .ok (.aload_n 0, 1) := by decide +kernel
theorem dX3_perform_139 : decode cX3_perform 139 = .ok (.iload_n 2, 1) := by decide +kernel
theorem dX3_perform_140 : decode cX3_perform 140 = .ok (.aload_n 0, 1) := by decide +kernel
theorem dX3_perform_141 : decode cX3_perform 141 = .ok (.getfield 32, 3) := by decide +kernel
theorem dX3_perform_144 : decode cX3_perform 144 = .ok (.iload_n 3, 1) := by decide +kernel
theorem dX3_perform_145 : decode cX3_perform 145 = .ok (.laload, 1) := by decide +kernel
theorem dX3_perform_146 : decode cX3_perform 146 = .ok (.aload_n 0, 1) := by decide +kernel
theorem dX3_perform_147 : decode cX3_perform 147 = .ok (.getfield 32, 3) := by decide +kernel
theorem dX3_perform_150 : decode cX3_perform 150 = .ok (.iload 4, 2) := by decide +kernel
theorem dX3_perform_152 : decode cX3_perform 152 = .ok (.laload, 1) := by decide +kernel
theorem dX3_perform_153 : decode cX3_perform 153 = .ok (.lsub, 1) := by decide +kernel
theorem dX3_perform_154 : decode cX3_perform 154 = .ok (.invokevirtual 124, 3) := by decide +kernel
theorem dX3_perform_157 : decode cX3_perform 157 = .ok (.ireturn, 1) := by decide +kernel
theorem dX3_perform_158 : decode cX3_perform 158 = .ok (.aload_n 0, 1) := by decide +kernel
theorem dX3_perform_159 : decode cX3_perform 159 = .ok (.getfield 32, 3) := by decide +kernel
theorem dX3_perform_162 : decode cX3_perform 162 = .ok (.iload 4, 2) := by decide +kernel
theorem dX3_perform_164 : decode cX3_perform 164 = .ok (.laload, 1) := by decide +kernel
theorem dX3_perform_165 : decode cX3_perform 165 = .ok (.lconst 0, 1) := by decide +kernel
theorem dX3_perform_166 : decode cX3_perform 166 = .ok (.lcmp, 1) := by decide +kernel
theorem dX3_perform_167 : decode cX3_perform 167 = .ok (.ifCond .ne 7, 3) := by decide +kernel
theorem dX3_perform_170 : decode cX3_perform 170 = .ok (.iconst 5, 1) := by decide +kernel
theorem dX3_perform_171 : decode cX3_perform 171 = .ok (.goto 22, 3) := by decide +kernel
theorem dX3_perform_174 : decode cX3_perform 174 = .ok (.aload_n 0, 1) := by decide +kernel
theorem dX3_perform_175 : decode cX3_perform 175 = .ok (.iload_n 2, 1) := by decide +kernel
theorem dX3_perform_176 : decode cX3_perform 176 = .ok (.aload_n 0, 1) := by decide +kernel
theorem dX3_perform_177 : decode cX3_perform 177 = .ok (.getfield 32, 3) := by decide +kernel
theorem dX3_perform_180 : decode cX3_perform 180 = .ok (.iload_n 3, 1) := by decide +kernel
theorem dX3_perform_181 : decode cX3_perform 181 = .ok (.laload, 1) := by decide +kernel
theorem dX3_perform_182 : decode cX3_perform 182 = .ok (.aload_n 0, 1) := by decide +kernel
theorem dX3_perform_183 : decode cX3_perform 183 = .ok (.getfield 32, 3) := by decide +kernel
theorem dX3_perform_186 : decode cX3_perform 186 = .ok (.iload 4, 2) := by decide +kernel
theorem dX3_perform_188 : decode cX3_perform 188 = .ok (.laload, 1) := by decide +kernel
theorem dX3_perform_189 : decode cX3_perform 189 = .ok (.ldiv, 1) := by decide +kernel
theorem dX3_perform_190 : decode cX3_perform 190 = .ok (.invokevirtual 124, 3) := by decide +kernel
theorem dX3_perform_193 : decode cX3_perform 193 = .ok (.ireturn, 1) := by decide +kernel
theorem dX3_perform_194 : decode cX3_perform 194 = .ok (.aload_n 0, 1) := by decide +kernel
theorem dX3_perform_195 : decode cX3_perform 195 = .ok (.iload_n 2, 1) := by decide +kernel
theorem dX3_perform_196 : decode cX3_perform 196 = .ok (.iload_n 3, 1) := by decide +kernel
theorem dX3_perform_197 : decode cX3_perform 197 = .ok (.iload 4, 2) := by decide +kernel
theorem dX3_perform_199 : decode cX3_perform 199 = .ok (.invokevirtual 128, 3) := by decide +kernel
theorem dX3_perform_202 : decode cX3_perform 202 = .ok (.ireturn, 1) := by decide +kernel
theorem dX3_perform_203 : decode cX3_perform 203 = .ok (.aload_n 0, 1) := by decide +kernel
theorem dX3_perform_204 : decode cX3_perform 204 = .ok (.iload_n 2, 1) := by decide +kernel
theorem dX3_perform_205 : decode cX3_perform 205 = .ok (.iload_n 3, 1) := by decide +kernel
theorem dX3_perform_206 : decode cX3_perform 206 = .ok (.iconst 1, 1) := by decide +kernel
theorem dX3_perform_207 : decode cX3_perform 207 = .ok (.aload_n 0, 1) := by decide +kernel
theorem dX3_perform_208 : decode cX3_perform 208 = .ok (.getfield 32, 3) := by decide +kernel
theorem dX3_perform_211 : decode cX3_perform 211 = .ok (.iload 4, 2) := by decide +kernel
theorem dX3_perform_213 : decode cX3_perform 213 = .ok (.laload, 1) := by decide +kernel
theorem dX3_perform_214 : decode cX3_perform 214 = .ok (.invokevirtual 132, 3) := by decide +kernel
theorem dX3_perform_217 : decode cX3_perform 217 = .ok (.ireturn, 1) := by decide +kernel
theorem dX3_perform_218 : decode cX3_perform 218 = .ok (.aload_n 0, 1) := by decide +kernel
theorem dX3_perform_219 : decode cX3_perform 219 = .ok (.iload_n 2, 1) := by decide +kernel
theorem dX3_perform_220 : decode cX3_perform 220 = .ok (.iload_n 3, 1) := by decide +kernel
theorem dX3_perform_221 : decode cX3_perform 221 = .ok (.iload 4, 2) := by decide +kernel
theorem dX3_perform_223 : decode cX3_perform 223 = .ok (.invokevirtual 136, 3) := by decide +kernel
theorem dX3_perform_226 : decode cX3_perform 226 = .ok (.ireturn, 1) := by decide +kernel
theorem dX3_perform_227 : decode cX3_perform 227 = .ok (.aload_n 0, 1) := by decide +kernel
theorem dX3_perform_228 : decode cX3_perform 228 = .ok (.iload_n 2, 1) := by decide +kernel
theorem dX3_perform_229 : decode cX3_perform 229 = .ok (.iload_n 3, 1) := by decide +kernel
theorem dX3_perform_230 : decode cX3_perform 230 = .ok (.iconst 2, 1) := by decide +kernel
theorem dX3_perform_231 : decode cX3_perform 231 = .ok (.aload_n 0, 1) := by decide +kernel
theorem dX3_perform_232 : decode cX3_perform 232 = .ok (.getfield 28, 3) := by decide +kernel
theorem dX3_perform_235 : decode cX3_perform 235 = .ok (.iload 4, 2) := by decide +kernel
theorem dX3_perform_237 : decode cX3_perform 237 = .ok (.iaload, 1) := by decide +kernel
theorem dX3_perform_238 : decode cX3_perform 238 = .ok (.i2l, 1) := by decide +kernel
theorem dX3_perform_239 : decode cX3_perform 239 = .ok (.invokevirtual 132, 3) := by decide +kernel
theorem dX3_perform_242 : decode cX3_perform 242 = .ok (.ireturn, 1) := by decide +kernel
theorem dX3_perform_243 : decode cX3_perform 243 = .ok (.aload_n 0, 1) := by decide +kernel
theorem dX3_perform_244 : decode cX3_perform 244 = .ok (.iload_n 2, 1) := by decide +kernel
theorem dX3_perform_245 : decode cX3_perform 245 = .ok (.iload_n 3, 1) := by decide +kernel
theorem dX3_perform_246 : decode cX3_perform 246 = .ok (.iload 4, 2) := by decide +kernel
theorem dX3_perform_248 : decode cX3_perform 248 = .ok (.aload_n 1, 1) := by decide +kernel
theorem dX3_perform_249 : decode cX3_perform 249 = .ok (.getfield 139, 3) := by decide +kernel
theorem dX3_perform_252 : decode cX3_perform 252 = .ok (.invokevirtual 142, 3) := by decide +kernel
theorem dX3_perform_255 : decode cX3_perform 255 = .ok (.ireturn, 1) := by decide +kernel
theorem dX3_perform_256 : decode cX3_perform 256 = .ok (.aload_n 0, 1) := by decide +kernel
theorem dX3_perform_257 : decode cX3_perform 257 = .ok (.iload_n 2, 1) := by decide +kernel
theorem dX3_perform_258 : decode cX3_perform 258 = .ok (.iload_n 3, 1) := by decide +kernel
theorem dX3_perform_259 : decode cX3_perform 259 = .ok (.iload 4, 2) := by decide +kernel
theorem dX3_perform_261 : decode cX3_perform 261 = .ok (.aload_n 1, 1) := by decide +kernel
theorem dX3_perform_262 : decode cX3_perform 262 = .ok (.getfield 139, 3) := by decide +kernel
theorem dX3_perform_265 : decode cX3_perform 265 = .ok (.invokevirtual 146, 3) := by decide +kernel
theorem dX3_perform_268 : decode cX3_perform 268 = .ok (.ireturn, 1) := by decide +kernel
theorem dX3_perform_269 : decode cX3_perform 269 = .ok (.aload_n 0, 1) := by decide +kernel
theorem dX3_perform_270 : decode cX3_perform 270 = .ok (.iload_n 2, 1) := by decide +kernel
theorem dX3_perform_271 : decode cX3_perform 271 = .ok (.iload_n 3, 1) := by decide +kernel
theorem dX3_perform_272 : decode cX3_perform 272 = .ok (.aload_n 0, 1) := by decide +kernel
theorem dX3_perform_273 : decode cX3_perform 273 = .ok (.getfield 32, 3) := by decide +kernel
theorem dX3_perform_276 : decode cX3_perform 276 = .ok (.iload 4, 2) := by decide +kernel
theorem dX3_perform_278 : decode cX3_perform 278 = .ok (.laload, 1) := by decide +kernel
theorem dX3_perform_279 : decode cX3_perform 279 = .ok (.invokevirtual 149, 3) := by decide +kernel
theorem dX3_perform_282 : decode cX3_perform 282 = .ok (.ireturn, 1) := by decide +kernel
theorem dX3_perform_283 : decode cX3_perform 283 = .ok (.aload_n 0, 1) := by decide +kernel
theorem dX3_perform_284 : decode cX3_perform 284 = .ok (.aload_n 1, 1) := by decide +kernel
theorem dX3_perform_285 : decode cX3_perform 285 = .ok (.invokevirtual 153, 3) := by decide +kernel
theorem dX3_perform_288 : decode cX3_perform 288 = .ok (.ireturn, 1) := by decide +kernel
theorem dX3_perform_289 : decode cX3_perform 289 = .ok (.aload_n 0, 1) := by decide +kernel
theorem dX3_perform_290 : decode cX3_perform 290 = .ok (.iload_n 2, 1) := by decide +kernel
theorem dX3_perform_291 : decode cX3_perform 291 = .ok (.aload_n 0, 1) := by decide +kernel
theorem dX3_perform_292 : decode cX3_perform 292 = .ok (.getfield 28, 3) := by decide +kernel
theorem dX3_perform_295 : decode cX3_perform 295 = .ok (.iload_n 3, 1) := by decide +kernel
theorem dX3_perform_296 : decode cX3_perform 296 = .ok (.iaload, 1) := by decide +kernel
theorem dX3_perform_297 : decode cX3_perform 297 = .ok (.aload_n 0, 1) := by decide +kernel
theorem dX3_perform_298 : decode cX3_perform 298 = .ok (.getfield 28, 3) := by decide +kernel
theorem dX3_perform_301 : decode cX3_perform 301 = .ok (.iload 4, 2) := by decide +kernel
theorem dX3_perform_303 : decode cX3_perform 303 = .ok (.iaload, 1) := by decide +kernel
theorem dX3_perform_304 : decode cX3_perform 304 = .ok (.if_icmp .ne 7, 3) := by decide +kernel
theorem dX3_perform_307 : decode cX3_perform 307 = .ok (.lconst 1, 1) := by decide +kernel
theorem dX3_perform_308 : decode cX3_perform 308 = .ok (.goto 4, 3) := by decide +kernel
end
section
theorem dX3_perform_311 : decode cX3_perform 311 = .ok (.lconst 0, 1) := by decide +kernel
theorem dX3_perform_312 : decode cX3_perform 312 = .ok (.invokevirtual 124, 3) := by decide +kernel
theorem dX3_perform_315 : decode cX3_perform 315 = .ok (.ireturn, 1) := by decide +kernel
theorem dX3_perform_316 : decode cX3_perform 316 = .ok (.aload_n 0, 1) := by decide +kernel
theorem dX3_perform_317 : decode cX3_perform 317 = .ok (.iload_n 2, 1) := by decide +kernel
theorem dX3_perform_318 : decode cX3_perform 318 = .ok (.aload_n 0, 1) := by decide +kernel
theorem dX3_perform_319 : decode cX3_perform 319 = .ok (.aload_n 0, 1) := by decide +kernel
theorem dX3_perform_320 : decode cX3_perform 320 = .ok (.getfield 28, 3) := by decide +kernel
theorem dX3_perform_323 : decode cX3_perform 323 = .ok (.iload_n 3, 1) := by decide +kernel
theorem dX3_perform_324 : decode cX3_perform 324 = .ok (.iaload, 1) := by decide +kernel
theorem dX3_perform_325 : decode cX3_perform 325 = .ok (.aload_n 0, 1) := by decide +kernel
theorem dX3_perform_326 : decode cX3_perform 326 = .ok (.getfield 28, 3) := by decide +kernel
theorem dX3_perform_329 : decode cX3_perform 329 = .ok (.iload 4, 2) := by decide +kernel
theorem dX3_perform_331 : decode cX3_perform 331 = .ok (.iaload, 1) := by decide +kernel
theorem dX3_perform_332 : decode cX3_perform 332 = .ok (.invokevirtual 156, 3) := by decide +kernel
theorem dX3_perform_335 : decode cX3_perform 335 = .ok (.ifCond .eq 7, 3) := by decide +kernel
theorem dX3_perform_338 : decode cX3_perform 338 = .ok (.lconst 1, 1) := by decide +kernel
theorem dX3_perform_339 : decode cX3_perform 339 = .ok (.goto 4, 3) := by decide +kernel
theorem dX3_perform_342 : decode cX3_perform 342 = .ok (.lconst 0, 1) := by decide +kernel
theorem dX3_perform_343 : decode cX3_perform 343 = .ok (.invokevirtual 124, 3) := by decide +kernel
theorem dX3_perform_346 : decode cX3_perform 346 = .ok (.ireturn, 1) := by decide +kernel
theorem dX3_perform_347 : decode cX3_perform 347 = .ok (.aload_n 0, 1) := by decide +kernel
theorem dX3_perform_348 : decode cX3_perform 348 = .ok (.iload_n 3, 1) := by decide +kernel
theorem dX3_perform_349 : decode cX3_perform 349 = .ok (.invokevirtual 160, 3) := by decide +kernel
theorem dX3_perform_352 : decode cX3_perform 352 = .ok (.ireturn, 1) := by decide +kernel
theorem dX3_perform_353 : decode cX3_perform 353 = .ok (.aload_n 0, 1) := by decide +kernel
theorem dX3_perform_354 : decode cX3_perform 354 = .ok (.getfield 32, 3) := by decide +kernel
theorem dX3_perform_357 : decode cX3_perform 357 = .ok (.iload_n 2, 1) := by decide +kernel
theorem dX3_perform_358 : decode cX3_perform 358 = .ok (.laload, 1) := by decide +kernel
theorem dX3_perform_359 : decode cX3_perform 359 = .ok (.lconst 0, 1) := by decide +kernel
theorem dX3_perform_360 : decode cX3_perform 360 = .ok (.lcmp, 1) := by decide +kernel
theorem dX3_perform_361 : decode cX3_perform 361 = .ok (.ifCond .le 11, 3) := by decide +kernel
theorem dX3_perform_364 : decode cX3_perform 364 = .ok (.aload_n 0, 1) := by decide +kernel
theorem dX3_perform_365 : decode cX3_perform 365 = .ok (.iload_n 3, 1) := by decide +kernel
theorem dX3_perform_366 : decode cX3_perform 366 = .ok (.invokevirtual 160, 3) := by decide +kernel
theorem dX3_perform_369 : decode cX3_perform 369 = .ok (.goto 4, 3) := by decide +kernel
theorem dX3_perform_372 : decode cX3_perform 372 = .ok (.iconst 0, 1) := by decide +kernel
theorem dX3_perform_373 : decode cX3_perform 373 = .ok (.ireturn, 1) := by decide +kernel
theorem dX3_perform_374 : decode cX3_perform 374 = .ok (.aload_n 0, 1) := by decide +kernel
theorem dX3_perform_375 : decode cX3_perform 375 = .ok (.aload_n 0, 1) := by decide +kernel
theorem dX3_perform_376 : decode cX3_perform 376 = .ok (.getfield 32, 3) := by decide +kernel
theorem dX3_perform_379 : decode cX3_perform 379 = .ok (.iload_n 2, 1) := by decide +kernel
theorem dX3_perform_380 : decode cX3_perform 380 = .ok (.laload, 1) := by decide +kernel
theorem dX3_perform_381 : decode cX3_perform 381 = .ok (.invokevirtual 164, 3) := by decide +kernel
theorem dX3_perform_384 : decode cX3_perform 384 = .ok (.ireturn, 1) := by decide +kernel
theorem dX3_perform_385 : decode cX3_perform 385 = .ok (.bipush 6, 2) := by decide +kernel
theorem dX3_perform_387 : decode cX3_perform 387 = .ok (.ireturn, 1) := by decide +kernel
theorem dX3_setValue_0 : decode cX3_setValue 0 = .ok (.aload_n 0, 1) := by decide +kernel
theorem dX3_setValue_1 : decode cX3_setValue 1 = .ok (.getfield 32, 3) := by decide +kernel
theorem dX3_setValue_4 : decode cX3_setValue 4 = .ok (.iload_n 1, 1) := by decide +kernel
theorem dX3_setValue_5 : decode cX3_setValue 5 = .ok (.lload_n 2, 1) := by decide +kernel
theorem dX3_setValue_6 : decode cX3_setValue 6 = .ok (.lastore, 1) := by decide +kernel
theorem dX3_setValue_7 : decode cX3_setValue 7 = .ok (.iconst 0, 1) := by decide +kernel
theorem dX3_setValue_8 : decode cX3_setValue 8 = .ok (.ireturn, 1) := by decide +kernel
theorem dX3_goOnAt_0 : decode cX3_goOnAt 0 = .ok (.aload_n 0, 1) := by decide +kernel
theorem dX3_goOnAt_1 : decode cX3_goOnAt 1 = .ok (.iload_n 1, 1) := by decide +kernel
theorem dX3_goOnAt_2 : decode cX3_goOnAt 2 = .ok (.putfield 78, 3) := by decide +kernel
theorem dX3_goOnAt_5 : decode cX3_goOnAt 5 = .ok (.iconst 0, 1) := by decide +kernel
theorem dX3_goOnAt_6 : decode cX3_goOnAt 6 = .ok (.ireturn, 1) := by decide +kernel
set_option maxRecDepth 20000 in
theorem ggX3_end_X3_goOnAt : GoodIn wsX3_end wsX3_goOnAt := goodIn_r _ [6, 7, 8, 9, 10, 11, 12, 13, 14, 15, 16, 17, 18] (by decide +kernel) (by decide +kernel)
set_option maxRecDepth 20000 in
theorem gX3_end_X3_goOnAt : GoodIn wsX3_end (wsV RX3 160 RX3 yX3_goOnAt wsX3_goOnAt) := goodIn_app (goodIn_of _ (by decide +kernel)) ggX3_end_X3_goOnAt
theorem dX3_end_0 : decode cX3_end 0 = .ok (.aload_n 0, 1) := by decide +kernel
theorem dX3_end_1 : decode cX3_end 1 = .ok (.lload_n 1, 1) := by decide +kernel
theorem dX3_end_2 : decode cX3_end 2 = .ok (.putfield 48, 3) := by decide +kernel
theorem dX3_end_5 : decode cX3_end 5 = .ok (.aload_n 0, 1) := by decide +kernel
theorem dX3_end_6 : decode cX3_end 6 = .ok (.bipush 32, 2) := by decide +kernel
theorem dX3_end_8 : decode cX3_end 8 = .ok (.invokevirtual 160, 3) := by decide +kernel
theorem dX3_end_11 : decode cX3_end 11 = .ok (.ireturn, 1) := by decide +kernel
set_option maxRecDepth 20000 in
theorem ggX3_ask_X3_load : GoodIn wsX3_ask wsX3_load := goodIn_r _ [7, 8, 2, 9, 10, 11, 12, 13, 14, 15, 16, 17, 18, 19, 20, 21, 22, 23, 24, 25, 26, 27, 28, 29, 30, 31, 32, 33, 34, 35, 36, 37, 42, 43, 44, 45, 46, 47, 48, 49, 50, 51, 52, 53, 54, 55, 56, 57] (by decide +kernel) (by decide +kernel)
set_option maxRecDepth 20000 in
theorem gX3_ask_X3_load : GoodIn wsX3_ask (wsV RX3 64 RX3 yX3_load wsX3_load) := goodIn_app (goodIn_of _ (by decide +kernel)) ggX3_ask_X3_load
set_option maxRecDepth 20000 in
theorem ggX3_ask_X2_sortOf : GoodIn wsX3_ask wsX2_sortOf := goodIn_r _ [41, 28, 27, 53, 54, 55, 56, 57] (by decide +kernel) (by decide +kernel)
set_option maxRecDepth 20000 in
theorem gX3_ask_X2_sortOf : GoodIn wsX3_ask (wsV RX3 168 RX2 yX2_sortOf wsX2_sortOf) := goodIn_app (goodIn_of _ (by decide +kernel)) ggX3_ask_X2_sortOf
theorem dX3_ask_0 : decode cX3_ask 0 = .ok (.aload_n 0, 1) := by decide +kernel
theorem dX3_ask_1 : decode cX3_ask 1 = .ok (.getfield 28, 3) := by decide +kernel
theorem dX3_ask_4 : decode cX3_ask 4 = .ok (.iload_n 1, 1) := by decide +kernel
theorem dX3_ask_5 : decode cX3_ask 5 = .ok (.iaload, 1) := by decide +kernel
theorem dX3_ask_6 : decode cX3_ask 6 = .ok (.istore 4, 2) := by decide +kernel
theorem dX3_ask_8 : decode cX3_ask 8 = .ok (.iload 4, 2) := by decide +kernel
theorem dX3_ask_10 : decode cX3_ask 10 = .ok (.bipush (-3), 2) := by decide +kernel
theorem dX3_ask_12 : decode cX3_ask 12 = .ok (.if_icmp .ne 5, 3) := by decide +kernel
theorem dX3_ask_15 : decode cX3_ask 15 = .ok (.iconst 1, 1) := by decide +kernel
theorem dX3_ask_16 : decode cX3_ask 16 = .ok (.ireturn, 1) := by decide +kernel
theorem dX3_ask_17 : decode cX3_ask 17 = .ok (.aload_n 0, 1) := by decide +kernel
theorem dX3_ask_18 : decode cX3_ask 18 = .ok (.iload 4, 2) := by decide +kernel
theorem dX3_ask_20 : decode cX3_ask 20 = .ok (.invokevirtual 64, 3) := by decide +kernel
theorem dX3_ask_23 : decode cX3_ask 23 = .ok (.aload_n 0, 1) := by decide +kernel
theorem dX3_ask_24 : decode cX3_ask 24 = .ok (.getfield 24, 3) := by decide +kernel
theorem dX3_ask_27 : decode cX3_ask 27 = .ok (.iload 4, 2) := by decide +kernel
theorem dX3_ask_29 : decode cX3_ask 29 = .ok (.aaload, 1) := by decide +kernel
theorem dX3_ask_30 : decode cX3_ask 30 = .ok (.iload_n 2, 1) := by decide +kernel
theorem dX3_ask_31 : decode cX3_ask 31 = .ok (.invokevirtual 168, 3) := by decide +kernel
theorem dX3_ask_34 : decode cX3_ask 34 = .ok (.istore 5, 2) := by decide +kernel
theorem dX3_ask_36 : decode cX3_ask 36 = .ok (.iload 5, 2) := by decide +kernel
theorem dX3_ask_38 : decode cX3_ask 38 = .ok (.ifCond .ne 5, 3) := by decide +kernel
theorem dX3_ask_41 : decode cX3_ask 41 = .ok (.iconst 3, 1) := by decide +kernel
theorem dX3_ask_42 : decode cX3_ask 42 = .ok (.ireturn, 1) := by decide +kernel
theorem dX3_ask_43 : decode cX3_ask 43 = .ok (.iload 5, 2) := by decide +kernel
theorem dX3_ask_45 : decode cX3_ask 45 = .ok (.iload_n 3, 1) := by decide +kernel
theorem dX3_ask_46 : decode cX3_ask 46 = .ok (.if_icmp .ne 7, 3) := by decide +kernel
theorem dX3_ask_49 : decode cX3_ask 49 = .ok (.iconst 0, 1) := by decide +kernel
theorem dX3_ask_50 : decode cX3_ask 50 = .ok (.goto 4, 3) := by decide +kernel
theorem dX3_ask_53 : decode cX3_ask 53 = .ok (.iconst 2, 1) := by decide +kernel
theorem dX3_ask_54 : decode cX3_ask 54 = .ok (.ireturn, 1) := by decide +kernel
set_option maxRecDepth 20000 in
theorem ggX3_read_X4_noteRead : GoodIn wsX3_read wsX4_noteRead := goodIn_r _ [8, 9, 10, 11, 23, 24, 25, 26, 27] (by decide +kernel) (by decide +kernel)
set_option maxRecDepth 20000 in
theorem gX3_read_X4_noteRead : GoodIn wsX3_read (wsV RX3 171 RX4 yX4_noteRead wsX4_noteRead) := goodIn_app (goodIn_of _ (by decide +kernel)) ggX3_read_X4_noteRead
theorem dX3_read_0 : decode cX3_read 0 = .ok (.aload_n 0, 1) := by decide +kernel
theorem dX3_read_1 : decode cX3_read 1 = .ok (.getfield 12, 3) := by decide +kernel
theorem dX3_read_4 : decode cX3_read 4 = .ok (.aload_n 0, 1) := by decide +kernel
theorem dX3_read_5 : decode cX3_read 5 = .ok (.getfield 28, 3) := by decide +kernel
theorem dX3_read_8 : decode cX3_read 8 = .ok (.iload_n 1, 1) := by decide +kernel
theorem dX3_read_9 : decode cX3_read 9 = .ok (.iaload, 1) := by decide +kernel
theorem dX3_read_10 : decode cX3_read 10 = .ok (.iload_n 2, 1) := by decide +kernel
theorem dX3_read_11 : decode cX3_read 11 = .ok (.invokevirtual 171, 3) := by decide +kernel
theorem dX3_read_14 : decode cX3_read 14 = .ok (.aload_n 0, 1) := by decide +kernel
theorem dX3_read_15 : decode cX3_read 15 = .ok (.getfield 24, 3) := by decide +kernel
theorem dX3_read_18 : decode cX3_read 18 = .ok (.aload_n 0, 1) := by decide +kernel
theorem dX3_read_19 : decode cX3_read 19 = .ok (.getfield 28, 3) := by decide +kernel
theorem dX3_read_22 : decode cX3_read 22 = .ok (.iload_n 1, 1) := by decide +kernel
theorem dX3_read_23 : decode cX3_read 23 = .ok (.iaload, 1) := by decide +kernel
theorem dX3_read_24 : decode cX3_read 24 = .ok (.aaload, 1) := by decide +kernel
theorem dX3_read_25 : decode cX3_read 25 = .ok (.areturn, 1) := by decide +kernel
set_option maxRecDepth 20000 in
theorem ggX3_change_X4_noteChanged : GoodIn wsX3_change wsX4_noteChanged := goodIn_r _ [8, 9, 10, 11, 12, 24, 25, 26, 27, 28] (by decide +kernel) (by decide +kernel)
set_option maxRecDepth 20000 in
theorem gX3_change_X4_noteChanged : GoodIn wsX3_change (wsV RX3 174 RX4 yX4_noteChanged wsX4_noteChanged) := goodIn_app (goodIn_of _ (by decide +kernel)) ggX3_change_X4_noteChanged
theorem dX3_change_0 : decode cX3_change 0 = .ok (.aload_n 0, 1) := by decide +kernel
theorem dX3_change_1 : decode cX3_change 1 = .ok (.getfield 12, 3) := by decide +kernel
theorem dX3_change_4 : decode cX3_change 4 = .ok (.aload_n 0, 1) := by decide +kernel
theorem dX3_change_5 : decode cX3_change 5 = .ok (.getfield 28, 3) := by decide +kernel
theorem dX3_change_8 : decode cX3_change 8 = .ok (.iload_n 1, 1) := by decide +kernel
theorem dX3_change_9 : decode cX3_change 9 = .ok (.iaload, 1) := by decide +kernel
theorem dX3_change_10 : decode cX3_change 10 = .ok (.iload_n 2, 1) := by decide +kernel
theorem dX3_change_11 : decode cX3_change 11 = .ok (.invokevirtual 174, 3) := by decide +kernel
theorem dX3_change_14 : decode cX3_change 14 = .ok (.aload_n 0, 1) := by decide +kernel
theorem dX3_change_15 : decode cX3_change 15 = .ok (.getfield 24, 3) := by decide +kernel
theorem dX3_change_18 : decode cX3_change 18 = .ok (.aload_n 0, 1) := by decide +kernel
theorem dX3_change_19 : decode cX3_change 19 = .ok (.getfield 28, 3) := by decide +kernel
theorem dX3_change_22 : decode cX3_change 22 = .ok (.iload_n 1, 1) := by decide +kernel
theorem dX3_change_23 : decode cX3_change 23 = .ok (.iaload, 1) := by decide +kernel
theorem dX3_change_24 : decode cX3_change 24 = .ok (.aaload, 1) := by decide +kernel
theorem dX3_change_25 : decode cX3_change 25 = .ok (.areturn, 1) := by decide +kernel
set_option maxRecDepth 20000 in
theorem ggX3_get_X3_ask : GoodIn wsX3_get wsX3_ask := goodIn_r _ [6, 7, 8, 9, 10, 11, 5, 12, 13, 14, 15, 16, 17, 18, 19, 20, 21, 22, 23, 24, 25, 26, 27, 28, 29, 30, 31, 32, 33, 34, 35, 36, 37, 38, 39, 40, 41, 42, 43, 44, 45, 46, 70, 71, 72, 73, 74, 75, 76, 77, 78, 79, 80, 65, 66, 67, 68, 69] (by decide +kernel) (by decide +kernel)
set_option maxRecDepth 20000 in
theorem gX3_get_X3_ask : GoodIn wsX3_get (wsV RX3 177 RX3 yX3_ask wsX3_ask) := goodIn_app (goodIn_of _ (by decide +kernel)) ggX3_get_X3_ask
set_option maxRecDepth 20000 in
theorem ggX3_get_X3_read : GoodIn wsX3_get wsX3_read := goodIn_r _ [50, 51, 7, 8, 52, 53, 54, 55, 56, 57, 58, 59, 70, 71, 72, 73, 74, 75, 76, 77, 78, 79, 80, 81, 82, 83, 84, 85] (by decide +kernel) (by decide +kernel)
set_option maxRecDepth 20000 in
theorem gX3_get_X3_read : GoodIn wsX3_get (wsV RX3 180 RX3 yX3_read wsX3_read) := goodIn_app (goodIn_of _ (by decide +kernel)) ggX3_get_X3_read
set_option maxRecDepth 20000 in
theorem ggX3_get_X3_setValue : GoodIn wsX3_get wsX3_setValue := goodIn_r _ [63, 64, 70, 71, 72, 73, 74, 75, 76, 77, 78, 79, 80] (by decide +kernel) (by decide +kernel)
set_option maxRecDepth 20000 in
theorem gX3_get_X3_setValue : GoodIn wsX3_get (wsV RX3 124 RX3 yX3_setValue wsX3_setValue) := goodIn_app (goodIn_of _ (by decide +kernel)) ggX3_get_X3_setValue
theorem dX3_get_0 : decode cX3_get 0 = .ok (.aload_n 0, 1) := by decide +kernel
theorem dX3_get_1 : decode cX3_get 1 = .ok (.iload_n 2, 1) := by decide +kernel
theorem dX3_get_2 : decode cX3_get 2 = .ok (.iload_n 3, 1) := by decide +kernel
theorem dX3_get_3 : decode cX3_get 3 = .ok (.iconst 1, 1) := by decide +kernel
theorem dX3_get_4 : decode cX3_get 4 = .ok (.invokevirtual 177, 3) := by decide +kernel
theorem dX3_get_7 : decode cX3_get 7 = .ok (.istore 4, 2) := by decide +kernel
theorem dX3_get_9 : decode cX3_get 9 = .ok (.iload 4, 2) := by decide +kernel
theorem dX3_get_11 : decode cX3_get 11 = .ok (.ifCond .eq 8, 3) := by decide +kernel
theorem dX3_get_14 : decode cX3_get 14 = .ok (.iload 4, 2) := by decide +kernel
theorem dX3_get_16 : decode cX3_get 16 = .ok (.goto 19, 3) := by decide +kernel
theorem dX3_get_19 : decode cX3_get 19 = .ok (.aload_n 0, 1) := by decide +kernel
theorem dX3_get_20 : decode cX3_get 20 = .ok (.iload_n 1, 1) := by decide +kernel
theorem dX3_get_21 : decode cX3_get 21 = .ok (.aload_n 0, 1) := by decide +kernel
theorem dX3_get_22 : decode cX3_get 22 = .ok (.iload_n 2, 1) := by decide +kernel
theorem dX3_get_23 : decode cX3_get 23 = .ok (.iload_n 3, 1) := by decide +kernel
theorem dX3_get_24 : decode cX3_get 24 = .ok (.invokevirtual 180, 3) := by decide +kernel
theorem dX3_get_27 : decode cX3_get 27 = .ok (.getfield 184, 3) := by decide +kernel
theorem dX3_get_30 : decode cX3_get 30 = .ok (.iload_n 3, 1) := by decide +kernel
theorem dX3_get_31 : decode cX3_get 31 = .ok (.laload, 1) := by decide +kernel
theorem dX3_get_32 : decode cX3_get 32 = .ok (.invokevirtual 124, 3) := by decide +kernel
theorem dX3_get_35 : decode cX3_get 35 = .ok (.ireturn, 1) := by decide +kernel
set_option maxRecDepth 20000 in
theorem ggX3_follow_X3_ask : GoodIn wsX3_follow wsX3_ask := goodIn_r _ [7, 1, 8, 9, 10, 11, 6, 12, 13, 14, 15, 16, 17, 18, 19, 20, 21, 22, 23, 24, 25, 26, 27, 28, 29, 30, 31, 32, 33, 34, 35, 36, 37, 38, 39, 40, 41, 42, 43, 44, 45, 46, 60, 61, 62, 63, 64, 65, 66, 67, 68, 69, 70, 71, 72, 73, 74, 75] (by decide +kernel) (by decide +kernel)
set_option maxRecDepth 20000 in
theorem gX3_follow_X3_ask : GoodIn wsX3_follow (wsV RX3 177 RX3 yX3_ask wsX3_ask) := goodIn_app (goodIn_of _ (by decide +kernel)) ggX3_follow_X3_ask
set_option maxRecDepth 20000 in
theorem ggX3_follow_X3_read : GoodIn wsX3_follow wsX3_read := goodIn_r _ [50, 51, 1, 8, 52, 53, 54, 55, 56, 57, 58, 59, 60, 61, 62, 63, 64, 65, 66, 67, 68, 69, 70, 76, 77, 78, 79, 80] (by decide +kernel) (by decide +kernel)
set_option maxRecDepth 20000 in
theorem gX3_follow_X3_read : GoodIn wsX3_follow (wsV RX3 180 RX3 yX3_read wsX3_read) := goodIn_app (goodIn_of _ (by decide +kernel)) ggX3_follow_X3_read
theorem dX3_follow_0 : decode cX3_follow 0 = .ok (.aload_n 0, 1) := by decide +kernel
theorem dX3_follow_1 : decode cX3_follow 1 = .ok (.iload_n 2, 1) := by decide +kernel
theorem dX3_follow_2 : decode cX3_follow 2 = .ok (.iload_n 3, 1) := by decide +kernel
theorem dX3_follow_3 : decode cX3_follow 3 = .ok (.iconst 2, 1) := by decide +kernel
theorem dX3_follow_4 : decode cX3_follow 4 = .ok (.invokevirtual 177, 3) := by decide +kernel
theorem dX3_follow_7 : decode cX3_follow 7 = .ok (.istore 4, 2) := by decide +kernel
theorem dX3_follow_9 : decode cX3_follow 9 = .ok (.iload 4, 2) := by decide +kernel
theorem dX3_follow_11 : decode cX3_follow 11 = .ok (.ifCond .ne 21, 3) := by decide +kernel
theorem dX3_follow_14 : decode cX3_follow 14 = .ok (.aload_n 0, 1) := by decide +kernel
theorem dX3_follow_15 : decode cX3_follow 15 = .ok (.getfield 28, 3) := by decide +kernel
theorem dX3_follow_18 : decode cX3_follow 18 = .ok (.iload_n 1, 1) := by decide +kernel
theorem dX3_follow_19 : decode cX3_follow 19 = .ok (.aload_n 0, 1) := by decide +kernel
theorem dX3_follow_20 : decode cX3_follow 20 = .ok (.iload_n 2, 1) := by decide +kernel
theorem dX3_follow_21 : decode cX3_follow 21 = .ok (.iload_n 3, 1) := by decide +kernel
theorem dX3_follow_22 : decode cX3_follow 22 = .ok (.invokevirtual 180, 3) := by decide +kernel
theorem dX3_follow_25 : decode cX3_follow 25 = .ok (.getfield 184, 3) := by decide +kernel
theorem dX3_follow_28 : decode cX3_follow 28 = .ok (.iload_n 3, 1) := by decide +kernel
theorem dX3_follow_29 : decode cX3_follow 29 = .ok (.laload, 1) := by decide +kernel
theorem dX3_follow_30 : decode cX3_follow 30 = .ok (.l2i, 1) := by decide +kernel
theorem dX3_follow_31 : decode cX3_follow 31 = .ok (.iastore, 1) := by decide +kernel
theorem dX3_follow_32 : decode cX3_follow 32 = .ok (.iload 4, 2) := by decide +kernel
theorem dX3_follow_34 : decode cX3_follow 34 = .ok (.ireturn, 1) := by decide +kernel
set_option maxRecDepth 20000 in
theorem ggX3_put_X3_ask : GoodIn wsX3_put wsX3_ask := goodIn_r _ [6, 7, 8, 9, 10, 11, 5, 12, 13, 14, 15, 16, 17, 18, 19, 20, 21, 22, 23, 24, 25, 26, 27, 28, 29, 30, 31, 32, 33, 34, 35, 36, 37, 38, 39, 40, 41, 42, 43, 44, 45, 46, 66, 67, 68, 69, 70, 71, 72, 73, 74, 75, 76, 61, 62, 63, 64, 65] (by decide +kernel) (by decide +kernel)
set_option maxRecDepth 20000 in
theorem gX3_put_X3_ask : GoodIn wsX3_put (wsV RX3 177 RX3 yX3_ask wsX3_ask) := goodIn_app (goodIn_of _ (by decide +kernel)) ggX3_put_X3_ask
set_option maxRecDepth 20000 in
theorem ggX3_put_X3_change : GoodIn wsX3_put wsX3_change := goodIn_r _ [50, 51, 7, 8, 52, 53, 54, 55, 56, 57, 58, 59, 60, 66, 67, 68, 69, 70, 71, 72, 73, 74, 75, 76, 77, 78, 79, 80, 81] (by decide +kernel) (by decide +kernel)
set_option maxRecDepth 20000 in
theorem gX3_put_X3_change : GoodIn wsX3_put (wsV RX3 187 RX3 yX3_change wsX3_change) := goodIn_app (goodIn_of _ (by decide +kernel)) ggX3_put_X3_change
theorem dX3_put_0 : decode cX3_put 0 = .ok (.aload_n 0, 1) := by decide +kernel
theorem dX3_put_1 : decode cX3_put 1 = .ok (.iload_n 1, 1) := by decide +kernel
theorem dX3_put_2 : decode cX3_put 2 = .ok (.iload_n 2, 1) := by decide +kernel
theorem dX3_put_3 : decode cX3_put 3 = .ok (.iload_n 3, 1) := by decide +kernel
theorem dX3_put_4 : decode cX3_put 4 = .ok (.invokevirtual 177, 3) := by decide +kernel
theorem dX3_put_7 : decode cX3_put 7 = .ok (.istore 6, 2) := by decide +kernel
theorem dX3_put_9 : decode cX3_put 9 = .ok (.iload 6, 2) := by decide +kernel
theorem dX3_put_11 : decode cX3_put 11 = .ok (.ifCond .ne 16, 3) := by decide +kernel
theorem dX3_put_14 : decode cX3_put 14 = .ok (.aload_n 0, 1) := by decide +kernel
theorem dX3_put_15 : decode cX3_put 15 = .ok (.iload_n 1, 1) := by decide +kernel
theorem dX3_put_16 : decode cX3_put 16 = .ok (.iload_n 2, 1) := by decide +kernel
theorem dX3_put_17 : decode cX3_put 17 = .ok (.invokevirtual 187, 3) := by decide +kernel
theorem dX3_put_20 : decode cX3_put 20 = .ok (.getfield 184, 3) := by decide +kernel
theorem dX3_put_23 : decode cX3_put 23 = .ok (.iload_n 2, 1) := by decide +kernel
theorem dX3_put_24 : decode cX3_put 24 = .ok (.lload 4, 2) := by decide +kernel
theorem dX3_put_26 : decode cX3_put 26 = .ok (.lastore, 1) := by decide +kernel
theorem dX3_put_27 : decode cX3_put 27 = .ok (.iload 6, 2) := by decide +kernel
theorem dX3_put_29 : decode cX3_put 29 = .ok (.ireturn, 1) := by decide +kernel
set_option maxRecDepth 20000 in
theorem ggX3_getItem_X3_ask : GoodIn wsX3_getItem wsX3_ask := goodIn_r _ [7, 8, 9, 10, 11, 12, 6, 13, 14, 15, 16, 17, 18, 19, 20, 21, 22, 23, 24, 25, 26, 27, 28, 29, 30, 31, 32, 33, 34, 35, 36, 37, 38, 39, 40, 41, 42, 43, 44, 45, 46, 47, 77, 78, 79, 80, 81, 82, 83, 84, 85, 86, 87, 88, 89, 90, 91, 92] (by decide +kernel) (by decide +kernel)
set_option maxRecDepth 20000 in
theorem gX3_getItem_X3_ask : GoodIn wsX3_getItem (wsV RX3 177 RX3 yX3_ask wsX3_ask) := goodIn_app (goodIn_of _ (by decide +kernel)) ggX3_getItem_X3_ask
set_option maxRecDepth 20000 in
theorem ggX3_getItem_X3_read : GoodIn wsX3_getItem wsX3_read := goodIn_r _ [51, 52, 8, 9, 53, 54, 55, 56, 57, 58, 59, 60, 77, 78, 79, 80, 81, 82, 83, 84, 85, 86, 87, 93, 94, 95, 96, 97] (by decide +kernel) (by decide +kernel)
set_option maxRecDepth 20000 in
theorem gX3_getItem_X3_read : GoodIn wsX3_getItem (wsV RX3 180 RX3 yX3_read wsX3_read) := goodIn_app (goodIn_of _ (by decide +kernel)) ggX3_getItem_X3_read
set_option maxRecDepth 20000 in
theorem ggX3_getItem_X3_itemRefusal : GoodIn wsX3_getItem wsX3_itemRefusal := goodIn_r _ [63, 64, 65, 66, 67, 68, 17, 69, 30, 88, 89, 90, 91, 92] (by decide +kernel) (by decide +kernel)
set_option maxRecDepth 20000 in
theorem gX3_getItem_X3_itemRefusal : GoodIn wsX3_getItem (va_wsS RX3 190 yX3_itemRefusal wsX3_itemRefusal) := goodIn_app (goodIn_of _ (by decide +kernel)) ggX3_getItem_X3_itemRefusal
set_option maxRecDepth 20000 in
theorem ggX3_getItem_X2_itemPlace : GoodIn wsX3_getItem wsX2_itemPlace := goodIn_r _ [72] (by decide +kernel) (by decide +kernel)
set_option maxRecDepth 20000 in
theorem gX3_getItem_X2_itemPlace : GoodIn wsX3_getItem (va_wsS RX3 197 yX2_itemPlace wsX2_itemPlace) := goodIn_app (goodIn_of _ (by decide +kernel)) ggX3_getItem_X2_itemPlace
set_option maxRecDepth 20000 in
theorem ggX3_getItem_X3_setValue : GoodIn wsX3_getItem wsX3_setValue := goodIn_r _ [76, 1, 77, 78, 79, 80, 81, 82, 83, 84, 85, 86, 87] (by decide +kernel) (by decide +kernel)
set_option maxRecDepth 20000 in
theorem gX3_getItem_X3_setValue : GoodIn wsX3_getItem (wsV RX3 124 RX3 yX3_setValue wsX3_setValue) := goodIn_app (goodIn_of _ (by decide +kernel)) ggX3_getItem_X3_setValue
theorem dX3_getItem_0 : decode cX3_getItem 0 = .ok (.aload_n 0, 1) := by decide +kernel
theorem dX3_getItem_1 : decode cX3_getItem 1 = .ok (.iload_n 2, 1) := by decide +kernel
theorem dX3_getItem_2 : decode cX3_getItem 2 = .ok (.iload_n 3, 1) := by decide +kernel
theorem dX3_getItem_3 : decode cX3_getItem 3 = .ok (.iconst 3, 1) := by decide +kernel
theorem dX3_getItem_4 : decode cX3_getItem 4 = .ok (.invokevirtual 177, 3) := by decide +kernel
theorem dX3_getItem_7 : decode cX3_getItem 7 = .ok (.istore 5, 2) := by decide +kernel
theorem dX3_getItem_9 : decode cX3_getItem 9 = .ok (.iload 5, 2) := by decide +kernel
theorem dX3_getItem_11 : decode cX3_getItem 11 = .ok (.ifCond .eq 6, 3) := by decide +kernel
theorem dX3_getItem_14 : decode cX3_getItem 14 = .ok (.iload 5, 2) := by decide +kernel
theorem dX3_getItem_16 : decode cX3_getItem 16 = .ok (.ireturn, 1) := by decide +kernel
theorem dX3_getItem_17 : decode cX3_getItem 17 = .ok (.aload_n 0, 1) := by decide +kernel
theorem dX3_getItem_18 : decode cX3_getItem 18 = .ok (.iload_n 2, 1) := by decide +kernel
theorem dX3_getItem_19 : decode cX3_getItem 19 = .ok (.iload_n 3, 1) := by decide +kernel
theorem dX3_getItem_20 : decode cX3_getItem 20 = .ok (.invokevirtual 180, 3) := by decide +kernel
theorem dX3_getItem_23 : decode cX3_getItem 23 = .ok (.astore 6, 2) := by decide +kernel
theorem dX3_getItem_25 : decode cX3_getItem 25 = .ok (.aload 6, 2) := by decide +kernel
theorem dX3_getItem_27 : decode cX3_getItem 27 = .ok (.iload_n 3, 1) := by decide +kernel
theorem dX3_getItem_28 : decode cX3_getItem 28 = .ok (.aload_n 0, 1) := by decide +kernel
theorem dX3_getItem_29 : decode cX3_getItem 29 = .ok (.getfield 32, 3) := by decide +kernel
theorem dX3_getItem_32 : decode cX3_getItem 32 = .ok (.iload 4, 2) := by decide +kernel
theorem dX3_getItem_34 : decode cX3_getItem 34 = .ok (.laload, 1) := by decide +kernel
theorem dX3_getItem_35 : decode cX3_getItem 35 = .ok (.invokestatic 190, 3) := by decide +kernel
theorem dX3_getItem_38 : decode cX3_getItem 38 = .ok (.istore 5, 2) := by decide +kernel
theorem dX3_getItem_40 : decode cX3_getItem 40 = .ok (.iload 5, 2) := by decide +kernel
theorem dX3_getItem_42 : decode cX3_getItem 42 = .ok (.ifCond .eq 8, 3) := by decide +kernel
theorem dX3_getItem_45 : decode cX3_getItem 45 = .ok (.iload 5, 2) := by decide +kernel
theorem dX3_getItem_47 : decode cX3_getItem 47 = .ok (.goto 27, 3) := by decide +kernel
theorem dX3_getItem_50 : decode cX3_getItem 50 = .ok (.aload_n 0, 1) := by decide +kernel
theorem dX3_getItem_51 : decode cX3_getItem 51 = .ok (.iload_n 1, 1) := by decide +kernel
theorem dX3_getItem_52 : decode cX3_getItem 52 = .ok (.aload 6, 2) := by decide +kernel
theorem dX3_getItem_54 : decode cX3_getItem 54 = .ok (.getfield 194, 3) := by decide +kernel
theorem dX3_getItem_57 : decode cX3_getItem 57 = .ok (.iload_n 3, 1) := by decide +kernel
theorem dX3_getItem_58 : decode cX3_getItem 58 = .ok (.aload_n 0, 1) := by decide +kernel
theorem dX3_getItem_59 : decode cX3_getItem 59 = .ok (.getfield 32, 3) := by decide +kernel
theorem dX3_getItem_62 : decode cX3_getItem 62 = .ok (.iload 4, 2) := by decide +kernel
theorem dX3_getItem_64 : decode cX3_getItem 64 = .ok (.laload, 1) := by decide +kernel
theorem dX3_getItem_65 : decode cX3_getItem 65 = .ok (.l2i, 1) := by decide +kernel
theorem dX3_getItem_66 : decode cX3_getItem 66 = .ok (.invokestatic 197, 3) := by decide +kernel
theorem dX3_getItem_69 : decode cX3_getItem 69 = .ok (.iaload, 1) := by decide +kernel
theorem dX3_getItem_70 : decode cX3_getItem 70 = .ok (.i2l, 1) := by decide +kernel
theorem dX3_getItem_71 : decode cX3_getItem 71 = .ok (.invokevirtual 124, 3) := by decide +kernel
theorem dX3_getItem_74 : decode cX3_getItem 74 = .ok (.ireturn, 1) := by decide +kernel
set_option maxRecDepth 20000 in
theorem ggX3_lay_X3_ask : GoodIn wsX3_lay wsX3_ask := goodIn_r _ [7, 8, 9, 10, 11, 12, 6, 13, 14, 15, 16, 17, 18, 19, 20, 21, 22, 23, 24, 25, 26, 27, 28, 29, 30, 31, 32, 33, 34, 35, 36, 37, 38, 39, 40, 41, 42, 43, 44, 45, 46, 47, 83, 84, 85, 86, 87, 88, 89, 90, 91, 92, 93, 94, 95, 96, 97, 98] (by decide +kernel) (by decide +kernel)
set_option maxRecDepth 20000 in
theorem gX3_lay_X3_ask : GoodIn wsX3_lay (wsV RX3 177 RX3 yX3_ask wsX3_ask) := goodIn_app (goodIn_of _ (by decide +kernel)) ggX3_lay_X3_ask
set_option maxRecDepth 20000 in
theorem ggX3_lay_X3_read : GoodIn wsX3_lay wsX3_read := goodIn_r _ [51, 52, 8, 9, 53, 54, 55, 56, 57, 58, 59, 60, 83, 84, 85, 86, 87, 88, 89, 90, 91, 92, 93, 99, 100, 101, 102, 103] (by decide +kernel) (by decide +kernel)
set_option maxRecDepth 20000 in
theorem gX3_lay_X3_read : GoodIn wsX3_lay (wsV RX3 180 RX3 yX3_read wsX3_read) := goodIn_app (goodIn_of _ (by decide +kernel)) ggX3_lay_X3_read
set_option maxRecDepth 20000 in
theorem ggX3_lay_X3_itemRefusal : GoodIn wsX3_lay wsX3_itemRefusal := goodIn_r _ [63, 64, 65, 66, 67, 68, 17, 69, 30, 94, 95, 96, 97, 98] (by decide +kernel) (by decide +kernel)
set_option maxRecDepth 20000 in
theorem gX3_lay_X3_itemRefusal : GoodIn wsX3_lay (va_wsS RX3 190 yX3_itemRefusal wsX3_itemRefusal) := goodIn_app (goodIn_of _ (by decide +kernel)) ggX3_lay_X3_itemRefusal
set_option maxRecDepth 20000 in
theorem ggX3_lay_X3_change : GoodIn wsX3_lay wsX3_change := goodIn_r _ [73, 52, 8, 9, 74, 75, 76, 56, 77, 78, 59, 60, 79, 83, 84, 85, 86, 87, 88, 89, 90, 91, 92, 93, 99, 100, 101, 102, 103] (by decide +kernel) (by decide +kernel)
set_option maxRecDepth 20000 in
theorem gX3_lay_X3_change : GoodIn wsX3_lay (wsV RX3 187 RX3 yX3_change wsX3_change) := goodIn_app (goodIn_of _ (by decide +kernel)) ggX3_lay_X3_change
set_option maxRecDepth 20000 in
theorem ggX3_lay_X2_itemPlace : GoodIn wsX3_lay wsX2_itemPlace := goodIn_r _ [82] (by decide +kernel) (by decide +kernel)
set_option maxRecDepth 20000 in
theorem gX3_lay_X2_itemPlace : GoodIn wsX3_lay (va_wsS RX3 197 yX2_itemPlace wsX2_itemPlace) := goodIn_app (goodIn_of _ (by decide +kernel)) ggX3_lay_X2_itemPlace
theorem dX3_lay_0 : decode cX3_lay 0 = .ok (.aload_n 0, 1) := by decide +kernel
theorem dX3_lay_1 : decode cX3_lay 1 = .ok (.iload_n 1, 1) := by decide +kernel
theorem dX3_lay_2 : decode cX3_lay 2 = .ok (.iload_n 2, 1) := by decide +kernel
theorem dX3_lay_3 : decode cX3_lay 3 = .ok (.iconst 3, 1) := by decide +kernel
theorem dX3_lay_4 : decode cX3_lay 4 = .ok (.invokevirtual 177, 3) := by decide +kernel
theorem dX3_lay_7 : decode cX3_lay 7 = .ok (.istore 5, 2) := by decide +kernel
theorem dX3_lay_9 : decode cX3_lay 9 = .ok (.iload 5, 2) := by decide +kernel
theorem dX3_lay_11 : decode cX3_lay 11 = .ok (.ifCond .eq 6, 3) := by decide +kernel
theorem dX3_lay_14 : decode cX3_lay 14 = .ok (.iload 5, 2) := by decide +kernel
theorem dX3_lay_16 : decode cX3_lay 16 = .ok (.ireturn, 1) := by decide +kernel
theorem dX3_lay_17 : decode cX3_lay 17 = .ok (.aload_n 0, 1) := by decide +kernel
theorem dX3_lay_18 : decode cX3_lay 18 = .ok (.iload_n 1, 1) := by decide +kernel
theorem dX3_lay_19 : decode cX3_lay 19 = .ok (.iload_n 2, 1) := by decide +kernel
theorem dX3_lay_20 : decode cX3_lay 20 = .ok (.invokevirtual 180, 3) := by decide +kernel
theorem dX3_lay_23 : decode cX3_lay 23 = .ok (.iload_n 2, 1) := by decide +kernel
theorem dX3_lay_24 : decode cX3_lay 24 = .ok (.aload_n 0, 1) := by decide +kernel
theorem dX3_lay_25 : decode cX3_lay 25 = .ok (.getfield 32, 3) := by decide +kernel
theorem dX3_lay_28 : decode cX3_lay 28 = .ok (.iload_n 3, 1) := by decide +kernel
theorem dX3_lay_29 : decode cX3_lay 29 = .ok (.laload, 1) := by decide +kernel
theorem dX3_lay_30 : decode cX3_lay 30 = .ok (.invokestatic 190, 3) := by decide +kernel
theorem dX3_lay_33 : decode cX3_lay 33 = .ok (.istore 5, 2) := by decide +kernel
theorem dX3_lay_35 : decode cX3_lay 35 = .ok (.iload 5, 2) := by decide +kernel
theorem dX3_lay_37 : decode cX3_lay 37 = .ok (.ifCond .ne 32, 3) := by decide +kernel
theorem dX3_lay_40 : decode cX3_lay 40 = .ok (.aload_n 0, 1) := by decide +kernel
theorem dX3_lay_41 : decode cX3_lay 41 = .ok (.iload_n 1, 1) := by decide +kernel
theorem dX3_lay_42 : decode cX3_lay 42 = .ok (.iload_n 2, 1) := by decide +kernel
theorem dX3_lay_43 : decode cX3_lay 43 = .ok (.invokevirtual 187, 3) := by decide +kernel
theorem dX3_lay_46 : decode cX3_lay 46 = .ok (.getfield 194, 3) := by decide +kernel
theorem dX3_lay_49 : decode cX3_lay 49 = .ok (.iload_n 2, 1) := by decide +kernel
theorem dX3_lay_50 : decode cX3_lay 50 = .ok (.aload_n 0, 1) := by decide +kernel
theorem dX3_lay_51 : decode cX3_lay 51 = .ok (.getfield 32, 3) := by decide +kernel
theorem dX3_lay_54 : decode cX3_lay 54 = .ok (.iload_n 3, 1) := by decide +kernel
theorem dX3_lay_55 : decode cX3_lay 55 = .ok (.laload, 1) := by decide +kernel
theorem dX3_lay_56 : decode cX3_lay 56 = .ok (.l2i, 1) := by decide +kernel
theorem dX3_lay_57 : decode cX3_lay 57 = .ok (.invokestatic 197, 3) := by decide +kernel
theorem dX3_lay_60 : decode cX3_lay 60 = .ok (.aload_n 0, 1) := by decide +kernel
theorem dX3_lay_61 : decode cX3_lay 61 = .ok (.getfield 32, 3) := by decide +kernel
theorem dX3_lay_64 : decode cX3_lay 64 = .ok (.iload 4, 2) := by decide +kernel
theorem dX3_lay_66 : decode cX3_lay 66 = .ok (.laload, 1) := by decide +kernel
theorem dX3_lay_67 : decode cX3_lay 67 = .ok (.l2i, 1) := by decide +kernel
theorem dX3_lay_68 : decode cX3_lay 68 = .ok (.iastore, 1) := by decide +kernel
theorem dX3_lay_69 : decode cX3_lay 69 = .ok (.iload 5, 2) := by decide +kernel
theorem dX3_lay_71 : decode cX3_lay 71 = .ok (.ireturn, 1) := by decide +kernel
set_option maxRecDepth 20000 in
theorem ggX3_itemRefusal_X2_hasItem : GoodIn wsX3_itemRefusal wsX2_hasItem := goodIn_r _ [7, 8, 9, 10, 11, 12, 13] (by decide +kernel) (by decide +kernel)
set_option maxRecDepth 20000 in
theorem gX3_itemRefusal_X2_hasItem : GoodIn wsX3_itemRefusal (wsV RX3 202 RX2 yX2_hasItem wsX2_hasItem) := goodIn_app (goodIn_of _ (by decide +kernel)) ggX3_itemRefusal_X2_hasItem
theorem dX3_itemRefusal_0 : decode cX3_itemRefusal 0 = .ok (.aload_n 0, 1) := by decide +kernel
theorem dX3_itemRefusal_1 : decode cX3_itemRefusal 1 = .ok (.getfield 184, 3) := by decide +kernel
theorem dX3_itemRefusal_4 : decode cX3_itemRefusal 4 = .ok (.iload_n 1, 1) := by decide +kernel
theorem dX3_itemRefusal_5 : decode cX3_itemRefusal 5 = .ok (.laload, 1) := by decide +kernel
theorem dX3_itemRefusal_6 : decode cX3_itemRefusal 6 = .ok (.ldc2_w 200, 3) := by decide +kernel
theorem dX3_itemRefusal_9 : decode cX3_itemRefusal 9 = .ok (.lcmp, 1) := by decide +kernel
theorem dX3_itemRefusal_10 : decode cX3_itemRefusal 10 = .ok (.ifCond .ne 5, 3) := by decide +kernel
theorem dX3_itemRefusal_13 : decode cX3_itemRefusal 13 = .ok (.iconst 1, 1) := by decide +kernel
theorem dX3_itemRefusal_14 : decode cX3_itemRefusal 14 = .ok (.ireturn, 1) := by decide +kernel
theorem dX3_itemRefusal_15 : decode cX3_itemRefusal 15 = .ok (.aload_n 0, 1) := by decide +kernel
theorem dX3_itemRefusal_16 : decode cX3_itemRefusal 16 = .ok (.iload_n 1, 1) := by decide +kernel
theorem dX3_itemRefusal_17 : decode cX3_itemRefusal 17 = .ok (.lload_n 2, 1) := by decide +kernel
theorem dX3_itemRefusal_18 : decode cX3_itemRefusal 18 = .ok (.invokevirtual 202, 3) := by decide +kernel
theorem dX3_itemRefusal_21 : decode cX3_itemRefusal 21 = .ok (.ifCond .eq 7, 3) := by decide +kernel
theorem dX3_itemRefusal_24 : decode cX3_itemRefusal 24 = .ok (.iconst 0, 1) := by decide +kernel
theorem dX3_itemRefusal_25 : decode cX3_itemRefusal 25 = .ok (.goto 4, 3) := by decide +kernel
theorem dX3_itemRefusal_28 : decode cX3_itemRefusal 28 = .ok (.iconst 3, 1) := by decide +kernel
theorem dX3_itemRefusal_29 : decode cX3_itemRefusal 29 = .ok (.ireturn, 1) := by decide +kernel
set_option maxRecDepth 20000 in
theorem ggX3_renew_X3_ask : GoodIn wsX3_renew wsX3_ask := goodIn_r _ [6, 7, 8, 9, 10, 11, 5, 12, 13, 14, 15, 16, 17, 18, 19, 20, 21, 22, 23, 24, 25, 26, 27, 28, 29, 30, 31, 32, 33, 34, 35, 36, 37, 38, 39, 40, 41, 42, 43, 44, 45, 46, 68, 69, 70, 71, 72, 73, 74, 75, 76, 77, 78, 79, 80, 81, 82, 83] (by decide +kernel) (by decide +kernel)
set_option maxRecDepth 20000 in
theorem gX3_renew_X3_ask : GoodIn wsX3_renew (wsV RX3 177 RX3 yX3_ask wsX3_ask) := goodIn_app (goodIn_of _ (by decide +kernel)) ggX3_renew_X3_ask
set_option maxRecDepth 20000 in
theorem ggX3_renew_X3_change : GoodIn wsX3_renew wsX3_change := goodIn_r _ [50, 51, 7, 8, 52, 53, 54, 55, 56, 57, 58, 59, 60, 68, 69, 70, 71, 72, 73, 74, 75, 76, 77, 78, 84, 85, 86, 87, 88] (by decide +kernel) (by decide +kernel)
set_option maxRecDepth 20000 in
theorem gX3_renew_X3_change : GoodIn wsX3_renew (wsV RX3 187 RX3 yX3_change wsX3_change) := goodIn_app (goodIn_of _ (by decide +kernel)) ggX3_renew_X3_change
set_option maxRecDepth 20000 in
theorem ggX3_renew_X2_renewRow : GoodIn wsX3_renew wsX2_renewRow := goodIn_r _ [64, 29, 31, 65, 66, 16, 67, 79, 80, 81, 82, 83] (by decide +kernel) (by decide +kernel)
set_option maxRecDepth 20000 in
theorem gX3_renew_X2_renewRow : GoodIn wsX3_renew (wsV RX3 208 RX2 yX2_renewRow wsX2_renewRow) := goodIn_app (goodIn_of _ (by decide +kernel)) ggX3_renew_X2_renewRow
theorem dX3_renew_0 : decode cX3_renew 0 = .ok (.aload_n 0, 1) := by decide +kernel
theorem dX3_renew_1 : decode cX3_renew 1 = .ok (.iload_n 1, 1) := by decide +kernel
theorem dX3_renew_2 : decode cX3_renew 2 = .ok (.iload_n 2, 1) := by decide +kernel
theorem dX3_renew_3 : decode cX3_renew 3 = .ok (.iconst 3, 1) := by decide +kernel
theorem dX3_renew_4 : decode cX3_renew 4 = .ok (.invokevirtual 177, 3) := by decide +kernel
theorem dX3_renew_7 : decode cX3_renew 7 = .ok (.istore 5, 2) := by decide +kernel
theorem dX3_renew_9 : decode cX3_renew 9 = .ok (.iload 5, 2) := by decide +kernel
theorem dX3_renew_11 : decode cX3_renew 11 = .ok (.ifCond .eq 6, 3) := by decide +kernel
theorem dX3_renew_14 : decode cX3_renew 14 = .ok (.iload 5, 2) := by decide +kernel
theorem dX3_renew_16 : decode cX3_renew 16 = .ok (.ireturn, 1) := by decide +kernel
theorem dX3_renew_17 : decode cX3_renew 17 = .ok (.lload_n 3, 1) := by decide +kernel
theorem dX3_renew_18 : decode cX3_renew 18 = .ok (.lconst 0, 1) := by decide +kernel
theorem dX3_renew_19 : decode cX3_renew 19 = .ok (.lcmp, 1) := by decide +kernel
theorem dX3_renew_20 : decode cX3_renew 20 = .ok (.ifCond .ge 5, 3) := by decide +kernel
theorem dX3_renew_23 : decode cX3_renew 23 = .ok (.iconst 4, 1) := by decide +kernel
theorem dX3_renew_24 : decode cX3_renew 24 = .ok (.ireturn, 1) := by decide +kernel
theorem dX3_renew_25 : decode cX3_renew 25 = .ok (.lload_n 3, 1) := by decide +kernel
theorem dX3_renew_26 : decode cX3_renew 26 = .ok (.ldc2_w 206, 3) := by decide +kernel
theorem dX3_renew_29 : decode cX3_renew 29 = .ok (.lcmp, 1) := by decide +kernel
theorem dX3_renew_30 : decode cX3_renew 30 = .ok (.ifCond .le 6, 3) := by decide +kernel
theorem dX3_renew_33 : decode cX3_renew 33 = .ok (.bipush 8, 2) := by decide +kernel
theorem dX3_renew_35 : decode cX3_renew 35 = .ok (.ireturn, 1) := by decide +kernel
theorem dX3_renew_36 : decode cX3_renew 36 = .ok (.aload_n 0, 1) := by decide +kernel
theorem dX3_renew_37 : decode cX3_renew 37 = .ok (.iload_n 1, 1) := by decide +kernel
theorem dX3_renew_38 : decode cX3_renew 38 = .ok (.iload_n 2, 1) := by decide +kernel
theorem dX3_renew_39 : decode cX3_renew 39 = .ok (.invokevirtual 187, 3) := by decide +kernel
theorem dX3_renew_42 : decode cX3_renew 42 = .ok (.iload_n 2, 1) := by decide +kernel
theorem dX3_renew_43 : decode cX3_renew 43 = .ok (.lload_n 3, 1) := by decide +kernel
theorem dX3_renew_44 : decode cX3_renew 44 = .ok (.l2i, 1) := by decide +kernel
theorem dX3_renew_45 : decode cX3_renew 45 = .ok (.invokevirtual 208, 3) := by decide +kernel
theorem dX3_renew_48 : decode cX3_renew 48 = .ok (.iconst 0, 1) := by decide +kernel
theorem dX3_renew_49 : decode cX3_renew 49 = .ok (.ireturn, 1) := by decide +kernel
set_option maxRecDepth 20000 in
theorem ggX3_shift_X3_ask : GoodIn wsX3_shift wsX3_ask := goodIn_r _ [18, 19, 20, 21, 22, 23, 17, 24, 25, 26, 27, 28, 29, 30, 31, 32, 33, 34, 35, 36, 37, 38, 39, 40, 41, 42, 43, 44, 45, 46, 47, 48, 49, 50, 51, 11, 12, 13, 52, 53, 54, 55, 93, 94, 95, 96, 97, 98, 99, 100, 101, 102, 103, 88, 89, 90, 91, 92] (by decide +kernel) (by decide +kernel)
set_option maxRecDepth 20000 in
theorem gX3_shift_X3_ask : GoodIn wsX3_shift (wsV RX3 177 RX3 yX3_ask wsX3_ask) := goodIn_app (goodIn_of _ (by decide +kernel)) ggX3_shift_X3_ask
set_option maxRecDepth 20000 in
theorem ggX3_shift_X3_read : GoodIn wsX3_shift wsX3_read := goodIn_r _ [59, 60, 19, 20, 61, 62, 63, 64, 65, 66, 67, 68, 93, 94, 95, 96, 97, 98, 99, 100, 101, 102, 103, 104, 105, 106, 107, 108] (by decide +kernel) (by decide +kernel)
set_option maxRecDepth 20000 in
theorem gX3_shift_X3_read : GoodIn wsX3_shift (wsV RX3 180 RX3 yX3_read wsX3_read) := goodIn_app (goodIn_of _ (by decide +kernel)) ggX3_shift_X3_read
set_option maxRecDepth 20000 in
theorem ggX3_shift_X3_change : GoodIn wsX3_shift wsX3_change := goodIn_r _ [72, 60, 19, 20, 73, 74, 75, 64, 76, 77, 67, 68, 78, 93, 94, 95, 96, 97, 98, 99, 100, 101, 102, 103, 104, 105, 106, 107, 108] (by decide +kernel) (by decide +kernel)
set_option maxRecDepth 20000 in
theorem gX3_shift_X3_change : GoodIn wsX3_shift (wsV RX3 187 RX3 yX3_change wsX3_change) := goodIn_app (goodIn_of _ (by decide +kernel)) ggX3_shift_X3_change
set_option maxRecDepth 20000 in
theorem ggX3_shift_X2_itemPlace : GoodIn wsX3_shift wsX2_itemPlace := goodIn_r _ [81] (by decide +kernel) (by decide +kernel)
set_option maxRecDepth 20000 in
theorem gX3_shift_X2_itemPlace : GoodIn wsX3_shift (va_wsS RX3 197 yX2_itemPlace wsX2_itemPlace) := goodIn_app (goodIn_of _ (by decide +kernel)) ggX3_shift_X2_itemPlace
theorem dX3_shift_0 : decode cX3_shift 0 = .ok (.aload_n 1, 1) := by decide +kernel
theorem dX3_shift_1 : decode cX3_shift 1 = .ok (.getfield 115, 3) := by decide +kernel
theorem dX3_shift_4 : decode cX3_shift 4 = .ok (.l2i, 1) := by decide +kernel
theorem dX3_shift_5 : decode cX3_shift 5 = .ok (.istore_n 2, 1) := by decide +kernel
theorem dX3_shift_6 : decode cX3_shift 6 = .ok (.aload_n 0, 1) := by decide +kernel
theorem dX3_shift_7 : decode cX3_shift 7 = .ok (.aload_n 1, 1) := by decide +kernel
theorem dX3_shift_8 : decode cX3_shift 8 = .ok (.getfield 110, 3) := by decide +kernel
theorem dX3_shift_11 : decode cX3_shift 11 = .ok (.iload_n 2, 1) := by decide +kernel
theorem dX3_shift_12 : decode cX3_shift 12 = .ok (.iconst 3, 1) := by decide +kernel
theorem dX3_shift_13 : decode cX3_shift 13 = .ok (.invokevirtual 177, 3) := by decide +kernel
theorem dX3_shift_16 : decode cX3_shift 16 = .ok (.istore_n 3, 1) := by decide +kernel
theorem dX3_shift_17 : decode cX3_shift 17 = .ok (.iload_n 3, 1) := by decide +kernel
theorem dX3_shift_18 : decode cX3_shift 18 = .ok (.ifCond .eq 5, 3) := by decide +kernel
theorem dX3_shift_21 : decode cX3_shift 21 = .ok (.iload_n 3, 1) := by decide +kernel
theorem dX3_shift_22 : decode cX3_shift 22 = .ok (.ireturn, 1) := by decide +kernel
theorem dX3_shift_23 : decode cX3_shift 23 = .ok (.aload_n 0, 1) := by decide +kernel
theorem dX3_shift_24 : decode cX3_shift 24 = .ok (.aload_n 1, 1) := by decide +kernel
theorem dX3_shift_25 : decode cX3_shift 25 = .ok (.getfield 110, 3) := by decide +kernel
theorem dX3_shift_28 : decode cX3_shift 28 = .ok (.iload_n 2, 1) := by decide +kernel
theorem dX3_shift_29 : decode cX3_shift 29 = .ok (.invokevirtual 180, 3) := by decide +kernel
theorem dX3_shift_32 : decode cX3_shift 32 = .ok (.astore 4, 2) := by decide +kernel
theorem dX3_shift_34 : decode cX3_shift 34 = .ok (.aload_n 1, 1) := by decide +kernel
theorem dX3_shift_35 : decode cX3_shift 35 = .ok (.getfield 139, 3) := by decide +kernel
theorem dX3_shift_38 : decode cX3_shift 38 = .ok (.istore 5, 2) := by decide +kernel
theorem dX3_shift_40 : decode cX3_shift 40 = .ok (.aload_n 0, 1) := by decide +kernel
theorem dX3_shift_41 : decode cX3_shift 41 = .ok (.aload_n 1, 1) := by decide +kernel
theorem dX3_shift_42 : decode cX3_shift 42 = .ok (.getfield 118, 3) := by decide +kernel
theorem dX3_shift_45 : decode cX3_shift 45 = .ok (.iload 5, 2) := by decide +kernel
theorem dX3_shift_47 : decode cX3_shift 47 = .ok (.iconst 3, 1) := by decide +kernel
theorem dX3_shift_48 : decode cX3_shift 48 = .ok (.invokevirtual 177, 3) := by decide +kernel
theorem dX3_shift_51 : decode cX3_shift 51 = .ok (.istore_n 3, 1) := by decide +kernel
theorem dX3_shift_52 : decode cX3_shift 52 = .ok (.iload_n 3, 1) := by decide +kernel
theorem dX3_shift_53 : decode cX3_shift 53 = .ok (.ifCond .eq 5, 3) := by decide +kernel
theorem dX3_shift_56 : decode cX3_shift 56 = .ok (.iload_n 3, 1) := by decide +kernel
theorem dX3_shift_57 : decode cX3_shift 57 = .ok (.ireturn, 1) := by decide +kernel
theorem dX3_shift_58 : decode cX3_shift 58 = .ok (.aload_n 0, 1) := by decide +kernel
theorem dX3_shift_59 : decode cX3_shift 59 = .ok (.aload_n 1, 1) := by decide +kernel
theorem dX3_shift_60 : decode cX3_shift 60 = .ok (.getfield 118, 3) := by decide +kernel
theorem dX3_shift_63 : decode cX3_shift 63 = .ok (.iload 5, 2) := by decide +kernel
theorem dX3_shift_65 : decode cX3_shift 65 = .ok (.invokevirtual 180, 3) := by decide +kernel
theorem dX3_shift_68 : decode cX3_shift 68 = .ok (.astore 6, 2) := by decide +kernel
theorem dX3_shift_70 : decode cX3_shift 70 = .ok (.aload 4, 2) := by decide +kernel
theorem dX3_shift_72 : decode cX3_shift 72 = .ok (.getfield 184, 3) := by decide +kernel
theorem dX3_shift_75 : decode cX3_shift 75 = .ok (.iload_n 2, 1) := by decide +kernel
theorem dX3_shift_76 : decode cX3_shift 76 = .ok (.laload, 1) := by decide +kernel
theorem dX3_shift_77 : decode cX3_shift 77 = .ok (.ldc2_w 200, 3) := by decide +kernel
theorem dX3_shift_80 : decode cX3_shift 80 = .ok (.lcmp, 1) := by decide +kernel
theorem dX3_shift_81 : decode cX3_shift 81 = .ok (.ifCond .eq 18, 3) := by decide +kernel
theorem dX3_shift_84 : decode cX3_shift 84 = .ok (.aload 6, 2) := by decide +kernel
theorem dX3_shift_86 : decode cX3_shift 86 = .ok (.getfield 184, 3) := by decide +kernel
theorem dX3_shift_89 : decode cX3_shift 89 = .ok (.iload 5, 2) := by decide +kernel
theorem dX3_shift_91 : decode cX3_shift 91 = .ok (.laload, 1) := by decide +kernel
theorem dX3_shift_92 : decode cX3_shift 92 = .ok (.ldc2_w 200, 3) := by decide +kernel
theorem dX3_shift_95 : decode cX3_shift 95 = .ok (.lcmp, 1) := by decide +kernel
theorem dX3_shift_96 : decode cX3_shift 96 = .ok (.ifCond .ne 5, 3) := by decide +kernel
theorem dX3_shift_99 : decode cX3_shift 99 = .ok (.iconst 1, 1) := by decide +kernel
theorem dX3_shift_100 : decode cX3_shift 100 = .ok (.ireturn, 1) := by decide +kernel
theorem dX3_shift_101 : decode cX3_shift 101 = .ok (.aload_n 0, 1) := by decide +kernel
theorem dX3_shift_102 : decode cX3_shift 102 = .ok (.getfield 32, 3) := by decide +kernel
theorem dX3_shift_105 : decode cX3_shift 105 = .ok (.aload_n 1, 1) := by decide +kernel
theorem dX3_shift_106 : decode cX3_shift 106 = .ok (.getfield 211, 3) := by decide +kernel
theorem dX3_shift_109 : decode cX3_shift 109 = .ok (.laload, 1) := by decide +kernel
theorem dX3_shift_110 : decode cX3_shift 110 = .ok (.lstore 7, 2) := by decide +kernel
theorem dX3_shift_112 : decode cX3_shift 112 = .ok (.lload 7, 2) := by decide +kernel
theorem dX3_shift_114 : decode cX3_shift 114 = .ok (.lconst 0, 1) := by decide +kernel
theorem dX3_shift_115 : decode cX3_shift 115 = .ok (.lcmp, 1) := by decide +kernel
theorem dX3_shift_116 : decode cX3_shift 116 = .ok (.ifCond .lt 30, 3) := by decide +kernel
theorem dX3_shift_119 : decode cX3_shift 119 = .ok (.lload 7, 2) := by decide +kernel
theorem dX3_shift_121 : decode cX3_shift 121 = .ok (.aload 4, 2) := by decide +kernel
theorem dX3_shift_123 : decode cX3_shift 123 = .ok (.getfield 184, 3) := by decide +kernel
theorem dX3_shift_126 : decode cX3_shift 126 = .ok (.iload_n 2, 1) := by decide +kernel
theorem dX3_shift_127 : decode cX3_shift 127 = .ok (.laload, 1) := by decide +kernel
theorem dX3_shift_128 : decode cX3_shift 128 = .ok (.lcmp, 1) := by decide +kernel
theorem dX3_shift_129 : decode cX3_shift 129 = .ok (.ifCond .gt 17, 3) := by decide +kernel
theorem dX3_shift_132 : decode cX3_shift 132 = .ok (.lload 7, 2) := by decide +kernel
theorem dX3_shift_134 : decode cX3_shift 134 = .ok (.aload 6, 2) := by decide +kernel
theorem dX3_shift_136 : decode cX3_shift 136 = .ok (.getfield 184, 3) := by decide +kernel
theorem dX3_shift_139 : decode cX3_shift 139 = .ok (.iload 5, 2) := by decide +kernel
theorem dX3_shift_141 : decode cX3_shift 141 = .ok (.laload, 1) := by decide +kernel
theorem dX3_shift_142 : decode cX3_shift 142 = .ok (.lcmp, 1) := by decide +kernel
theorem dX3_shift_143 : decode cX3_shift 143 = .ok (.ifCond .le 5, 3) := by decide +kernel
theorem dX3_shift_146 : decode cX3_shift 146 = .ok (.iconst 3, 1) := by decide +kernel
theorem dX3_shift_147 : decode cX3_shift 147 = .ok (.ireturn, 1) := by decide +kernel
theorem dX3_shift_148 : decode cX3_shift 148 = .ok (.aload_n 0, 1) := by decide +kernel
theorem dX3_shift_149 : decode cX3_shift 149 = .ok (.aload_n 1, 1) := by decide +kernel
theorem dX3_shift_150 : decode cX3_shift 150 = .ok (.getfield 118, 3) := by decide +kernel
theorem dX3_shift_153 : decode cX3_shift 153 = .ok (.iload 5, 2) := by decide +kernel
theorem dX3_shift_155 : decode cX3_shift 155 = .ok (.invokevirtual 187, 3) := by decide +kernel
theorem dX3_shift_158 : decode cX3_shift 158 = .ok (.pop, 1) := by decide +kernel
theorem dX3_shift_159 : decode cX3_shift 159 = .ok (.aload 4, 2) := by decide +kernel
theorem dX3_shift_161 : decode cX3_shift 161 = .ok (.getfield 194, 3) := by decide +kernel
theorem dX3_shift_164 : decode cX3_shift 164 = .ok (.iload_n 2, 1) := by decide +kernel
theorem dX3_shift_165 : decode cX3_shift 165 = .ok (.iconst 0, 1) := by decide +kernel
theorem dX3_shift_166 : decode cX3_shift 166 = .ok (.invokestatic 197, 3) := by decide +kernel
theorem dX3_shift_169 : decode cX3_shift 169 = .ok (.aload 6, 2) := by decide +kernel
theorem dX3_shift_171 : decode cX3_shift 171 = .ok (.getfield 194, 3) := by decide +kernel
theorem dX3_shift_174 : decode cX3_shift 174 = .ok (.iload 5, 2) := by decide +kernel
theorem dX3_shift_176 : decode cX3_shift 176 = .ok (.iconst 0, 1) := by decide +kernel
theorem dX3_shift_177 : decode cX3_shift 177 = .ok (.invokestatic 197, 3) := by decide +kernel
theorem dX3_shift_180 : decode cX3_shift 180 = .ok (.lload 7, 2) := by decide +kernel
theorem dX3_shift_182 : decode cX3_shift 182 = .ok (.l2i, 1) := by decide +kernel
theorem dX3_shift_183 : decode cX3_shift 183 = .ok (.invokestatic 214, 3) := by decide +kernel
theorem dX3_shift_186 : decode cX3_shift 186 = .ok (.iconst 0, 1) := by decide +kernel
theorem dX3_shift_187 : decode cX3_shift 187 = .ok (.ireturn, 1) := by decide +kernel
set_option maxRecDepth 20000 in
theorem ggX3_areAlike_X3_load : GoodIn wsX3_areAlike wsX3_load := goodIn_r _ [9, 10, 3, 11, 12, 13, 1, 2, 14, 15, 16, 17, 18, 19, 20, 21, 22, 23, 24, 25, 26, 27, 28, 29, 30, 31, 32, 33, 34, 35, 36, 37, 62, 63, 64, 65, 66, 67, 68, 69, 70, 71, 72, 73, 74, 75, 76, 77] (by decide +kernel) (by decide +kernel)
set_option maxRecDepth 20000 in
theorem gX3_areAlike_X3_load : GoodIn wsX3_areAlike (wsV RX3 64 RX3 yX3_load wsX3_load) := goodIn_app (goodIn_of _ (by decide +kernel)) ggX3_areAlike_X3_load
set_option maxRecDepth 20000 in
theorem ggX3_areAlike_X2_sortOf : GoodIn wsX3_areAlike wsX2_sortOf := goodIn_r _ [41, 28, 27, 73, 74, 75, 76, 77] (by decide +kernel) (by decide +kernel)
set_option maxRecDepth 20000 in
theorem gX3_areAlike_X2_sortOf : GoodIn wsX3_areAlike (wsV RX3 168 RX2 yX2_sortOf wsX2_sortOf) := goodIn_app (goodIn_of _ (by decide +kernel)) ggX3_areAlike_X2_sortOf
set_option maxRecDepth 20000 in
theorem ggX3_areAlike_X4_noteRead : GoodIn wsX3_areAlike wsX4_noteRead := goodIn_r _ [46, 47, 48, 49, 78, 79, 80, 81, 82] (by decide +kernel) (by decide +kernel)
set_option maxRecDepth 20000 in
theorem gX3_areAlike_X4_noteRead : GoodIn wsX3_areAlike (wsV RX3 171 RX4 yX4_noteRead wsX4_noteRead) := goodIn_app (goodIn_of _ (by decide +kernel)) ggX3_areAlike_X4_noteRead
set_option maxRecDepth 20000 in
theorem ggX3_areAlike_X2_hasSameField : GoodIn wsX3_areAlike wsX2_hasSameField := goodIn_r _ [53, 24, 54, 39, 40, 13, 41, 28, 27, 55, 56, 57, 58, 26, 59, 60, 61, 73, 74, 75, 76, 77] (by decide +kernel) (by decide +kernel)
set_option maxRecDepth 20000 in
theorem gX3_areAlike_X2_hasSameField : GoodIn wsX3_areAlike (wsV RX3 93 RX2 yX2_hasSameField wsX2_hasSameField) := goodIn_app (goodIn_of _ (by decide +kernel)) ggX3_areAlike_X2_hasSameField
theorem dX3_areAlike_0 : decode cX3_areAlike 0 = .ok (.iload_n 1, 1) := by decide +kernel
theorem dX3_areAlike_1 : decode cX3_areAlike 1 = .ok (.iload_n 2, 1) := by decide +kernel
theorem dX3_areAlike_2 : decode cX3_areAlike 2 = .ok (.if_icmp .ne 5, 3) := by decide +kernel
theorem dX3_areAlike_5 : decode cX3_areAlike 5 = .ok (.iconst 1, 1) := by decide +kernel
theorem dX3_areAlike_6 : decode cX3_areAlike 6 = .ok (.ireturn, 1) := by decide +kernel
theorem dX3_areAlike_7 : decode cX3_areAlike 7 = .ok (.iload_n 1, 1) := by decide +kernel
theorem dX3_areAlike_8 : decode cX3_areAlike 8 = .ok (.bipush (-3), 2) := by decide +kernel
theorem dX3_areAlike_10 : decode cX3_areAlike 10 = .ok (.if_icmp .eq 30, 3) := by decide +kernel
theorem dX3_areAlike_13 : decode cX3_areAlike 13 = .ok (.iload_n 2, 1) := by decide +kernel
theorem dX3_areAlike_14 : decode cX3_areAlike 14 = .ok (.bipush (-3), 2) := by decide +kernel
theorem dX3_areAlike_16 : decode cX3_areAlike 16 = .ok (.if_icmp .eq 24, 3) := by decide +kernel
theorem dX3_areAlike_19 : decode cX3_areAlike 19 = .ok (.aload_n 0, 1) := by decide +kernel
theorem dX3_areAlike_20 : decode cX3_areAlike 20 = .ok (.getfield 36, 3) := by decide +kernel
theorem dX3_areAlike_23 : decode cX3_areAlike 23 = .ok (.iload_n 1, 1) := by decide +kernel
theorem dX3_areAlike_24 : decode cX3_areAlike 24 = .ok (.aaload, 1) := by decide +kernel
theorem dX3_areAlike_25 : decode cX3_areAlike 25 = .ok (.getfield 101, 3) := by decide +kernel
theorem dX3_areAlike_28 : decode cX3_areAlike 28 = .ok (.aload_n 0, 1) := by decide +kernel
theorem dX3_areAlike_29 : decode cX3_areAlike 29 = .ok (.getfield 36, 3) := by decide +kernel
theorem dX3_areAlike_32 : decode cX3_areAlike 32 = .ok (.iload_n 2, 1) := by decide +kernel
theorem dX3_areAlike_33 : decode cX3_areAlike 33 = .ok (.aaload, 1) := by decide +kernel
theorem dX3_areAlike_34 : decode cX3_areAlike 34 = .ok (.getfield 101, 3) := by decide +kernel
theorem dX3_areAlike_37 : decode cX3_areAlike 37 = .ok (.if_icmp .eq 5, 3) := by decide +kernel
theorem dX3_areAlike_40 : decode cX3_areAlike 40 = .ok (.iconst 0, 1) := by decide +kernel
theorem dX3_areAlike_41 : decode cX3_areAlike 41 = .ok (.ireturn, 1) := by decide +kernel
theorem dX3_areAlike_42 : decode cX3_areAlike 42 = .ok (.aload_n 0, 1) := by decide +kernel
theorem dX3_areAlike_43 : decode cX3_areAlike 43 = .ok (.iload_n 1, 1) := by decide +kernel
theorem dX3_areAlike_44 : decode cX3_areAlike 44 = .ok (.invokevirtual 64, 3) := by decide +kernel
theorem dX3_areAlike_47 : decode cX3_areAlike 47 = .ok (.aload_n 0, 1) := by decide +kernel
theorem dX3_areAlike_48 : decode cX3_areAlike 48 = .ok (.iload_n 2, 1) := by decide +kernel
theorem dX3_areAlike_49 : decode cX3_areAlike 49 = .ok (.invokevirtual 64, 3) := by decide +kernel
theorem dX3_areAlike_52 : decode cX3_areAlike 52 = .ok (.iconst 0, 1) := by decide +kernel
theorem dX3_areAlike_53 : decode cX3_areAlike 53 = .ok (.istore_n 3, 1) := by decide +kernel
theorem dX3_areAlike_54 : decode cX3_areAlike 54 = .ok (.iload_n 3, 1) := by decide +kernel
theorem dX3_areAlike_55 : decode cX3_areAlike 55 = .ok (.bipush 8, 2) := by decide +kernel
theorem dX3_areAlike_57 : decode cX3_areAlike 57 = .ok (.if_icmp .ge 61, 3) := by decide +kernel
theorem dX3_areAlike_60 : decode cX3_areAlike 60 = .ok (.aload_n 0, 1) := by decide +kernel
theorem dX3_areAlike_61 : decode cX3_areAlike 61 = .ok (.getfield 24, 3) := by decide +kernel
theorem dX3_areAlike_64 : decode cX3_areAlike 64 = .ok (.iload_n 1, 1) := by decide +kernel
theorem dX3_areAlike_65 : decode cX3_areAlike 65 = .ok (.aaload, 1) := by decide +kernel
theorem dX3_areAlike_66 : decode cX3_areAlike 66 = .ok (.iload_n 3, 1) := by decide +kernel
theorem dX3_areAlike_67 : decode cX3_areAlike 67 = .ok (.invokevirtual 168, 3) := by decide +kernel
theorem dX3_areAlike_70 : decode cX3_areAlike 70 = .ok (.ifCond .eq 48, 3) := by decide +kernel
theorem dX3_areAlike_73 : decode cX3_areAlike 73 = .ok (.aload_n 0, 1) := by decide +kernel
theorem dX3_areAlike_74 : decode cX3_areAlike 74 = .ok (.getfield 12, 3) := by decide +kernel
theorem dX3_areAlike_77 : decode cX3_areAlike 77 = .ok (.iload_n 1, 1) := by decide +kernel
theorem dX3_areAlike_78 : decode cX3_areAlike 78 = .ok (.iload_n 3, 1) := by decide +kernel
theorem dX3_areAlike_79 : decode cX3_areAlike 79 = .ok (.invokevirtual 171, 3) := by decide +kernel
theorem dX3_areAlike_82 : decode cX3_areAlike 82 = .ok (.aload_n 0, 1) := by decide +kernel
theorem dX3_areAlike_83 : decode cX3_areAlike 83 = .ok (.getfield 12, 3) := by decide +kernel
theorem dX3_areAlike_86 : decode cX3_areAlike 86 = .ok (.iload_n 2, 1) := by decide +kernel
theorem dX3_areAlike_87 : decode cX3_areAlike 87 = .ok (.iload_n 3, 1) := by decide +kernel
theorem dX3_areAlike_88 : decode cX3_areAlike 88 = .ok (.invokevirtual 171, 3) := by decide +kernel
theorem dX3_areAlike_91 : decode cX3_areAlike 91 = .ok (.aload_n 0, 1) := by decide +kernel
theorem dX3_areAlike_92 : decode cX3_areAlike 92 = .ok (.getfield 24, 3) := by decide +kernel
theorem dX3_areAlike_95 : decode cX3_areAlike 95 = .ok (.iload_n 1, 1) := by decide +kernel
theorem dX3_areAlike_96 : decode cX3_areAlike 96 = .ok (.aaload, 1) := by decide +kernel
theorem dX3_areAlike_97 : decode cX3_areAlike 97 = .ok (.aload_n 0, 1) := by decide +kernel
theorem dX3_areAlike_98 : decode cX3_areAlike 98 = .ok (.getfield 24, 3) := by decide +kernel
theorem dX3_areAlike_101 : decode cX3_areAlike 101 = .ok (.iload_n 2, 1) := by decide +kernel
theorem dX3_areAlike_102 : decode cX3_areAlike 102 = .ok (.aaload, 1) := by decide +kernel
theorem dX3_areAlike_103 : decode cX3_areAlike 103 = .ok (.iload_n 3, 1) := by decide +kernel
theorem dX3_areAlike_104 : decode cX3_areAlike 104 = .ok (.invokevirtual 93, 3) := by decide +kernel
theorem dX3_areAlike_107 : decode cX3_areAlike 107 = .ok (.ifCond .ne 5, 3) := by decide +kernel
theorem dX3_areAlike_110 : decode cX3_areAlike 110 = .ok (.iconst 0, 1) := by decide +kernel
theorem dX3_areAlike_111 : decode cX3_areAlike 111 = .ok (.ireturn, 1) := by decide +kernel
theorem dX3_areAlike_112 : decode cX3_areAlike 112 = .ok (.iinc 3 1, 3) := by decide +kernel
theorem dX3_areAlike_115 : decode cX3_areAlike 115 = .ok (.goto (-61), 3) := by decide +kernel
theorem dX3_areAlike_118 : decode cX3_areAlike 118 = .ok (.iconst 1, 1) := by decide +kernel
theorem dX3_areAlike_119 : decode cX3_areAlike 119 = .ok (.ireturn, 1) := by decide +kernel
theorem dX4_init_0 : decode cX4_init 0 = .ok (.aload_n 0, 1) := by decide +kernel
theorem dX4_init_1 : decode cX4_init 1 = .ok (.invokespecial 3, 3) := by decide +kernel
theorem dX4_init_4 : decode cX4_init 4 = .ok (.aload_n 0, 1) := by decide +kernel
theorem dX4_init_5 : decode cX4_init 5 = .ok (.sipush 384, 3) := by decide +kernel
theorem dX4_init_8 : decode cX4_init 8 = .ok (.newarray .int, 2) := by decide +kernel
theorem dX4_init_10 : decode cX4_init 10 = .ok (.putfield 9, 3) := by decide +kernel
theorem dX4_init_13 : decode cX4_init 13 = .ok (.aload_n 0, 1) := by decide +kernel
theorem dX4_init_14 : decode cX4_init 14 = .ok (.bipush 24, 2) := by decide +kernel
theorem dX4_init_16 : decode cX4_init 16 = .ok (.newarray .int, 2) := by decide +kernel
theorem dX4_init_18 : decode cX4_init 18 = .ok (.putfield 15, 3) := by decide +kernel
theorem dX4_init_21 : decode cX4_init 21 = .ok (.aload_n 0, 1) := by decide +kernel
theorem dX4_init_22 : decode cX4_init 22 = .ok (.bipush 24, 2) := by decide +kernel
theorem dX4_init_24 : decode cX4_init 24 = .ok (.newarray .int, 2) := by decide +kernel
theorem dX4_init_26 : decode cX4_init 26 = .ok (.putfield 18, 3) := by decide +kernel
theorem dX4_init_29 : decode cX4_init 29 = .ok (.return_, 1) := by decide +kernel
set_option maxRecDepth 20000 in
theorem ggX4_restart_J7_fill_53178 : GoodIn wsX4_restart wsJ7_fill_53178 := goodIn_r _ [8] (by decide +kernel) (by decide +kernel)
set_option maxRecDepth 20000 in
theorem gX4_restart_J7_fill_53178 : GoodIn wsX4_restart (va_wsS RX4 28 yJ7_fill_53178 wsJ7_fill_53178) := goodIn_app (goodIn_of _ (by decide +kernel)) ggX4_restart_J7_fill_53178
theorem dX4_restart_0 : decode cX4_restart 0 = .ok (.aload_n 0, 1) := by decide +kernel
theorem dX4_restart_1 : decode cX4_restart 1 = .ok (.iconst 0, 1) := by decide +kernel
theorem dX4_restart_2 : decode cX4_restart 2 = .ok (.putfield 21, 3) := by decide +kernel
theorem dX4_restart_5 : decode cX4_restart 5 = .ok (.aload_n 0, 1) := by decide +kernel
theorem dX4_restart_6 : decode cX4_restart 6 = .ok (.iconst 0, 1) := by decide +kernel
theorem dX4_restart_7 : decode cX4_restart 7 = .ok (.putfield 25, 3) := by decide +kernel
theorem dX4_restart_10 : decode cX4_restart 10 = .ok (.aload_n 0, 1) := by decide +kernel
theorem dX4_restart_11 : decode cX4_restart 11 = .ok (.getfield 15, 3) := by decide +kernel
theorem dX4_restart_14 : decode cX4_restart 14 = .ok (.iconst 0, 1) := by decide +kernel
theorem dX4_restart_15 : decode cX4_restart 15 = .ok (.invokestatic 28, 3) := by decide +kernel
theorem dX4_restart_18 : decode cX4_restart 18 = .ok (.aload_n 0, 1) := by decide +kernel
theorem dX4_restart_19 : decode cX4_restart 19 = .ok (.getfield 18, 3) := by decide +kernel
theorem dX4_restart_22 : decode cX4_restart 22 = .ok (.iconst 0, 1) := by decide +kernel
theorem dX4_restart_23 : decode cX4_restart 23 = .ok (.invokestatic 28, 3) := by decide +kernel
theorem dX4_restart_26 : decode cX4_restart 26 = .ok (.return_, 1) := by decide +kernel
theorem dX4_noteRead_0 : decode cX4_noteRead 0 = .ok (.aload_n 0, 1) := by decide +kernel
theorem dX4_noteRead_1 : decode cX4_noteRead 1 = .ok (.getfield 15, 3) := by decide +kernel
theorem dX4_noteRead_4 : decode cX4_noteRead 4 = .ok (.iload_n 1, 1) := by decide +kernel
theorem dX4_noteRead_5 : decode cX4_noteRead 5 = .ok (.iaload, 1) := by decide +kernel
theorem dX4_noteRead_6 : decode cX4_noteRead 6 = .ok (.iconst 1, 1) := by decide +kernel
theorem dX4_noteRead_7 : decode cX4_noteRead 7 = .ok (.iload_n 2, 1) := by decide +kernel
theorem dX4_noteRead_8 : decode cX4_noteRead 8 = .ok (.ishl, 1) := by decide +kernel
theorem dX4_noteRead_9 : decode cX4_noteRead 9 = .ok (.iand, 1) := by decide +kernel
theorem dX4_noteRead_10 : decode cX4_noteRead 10 = .ok (.ifCond .ne 42, 3) := by decide +kernel
theorem dX4_noteRead_13 : decode cX4_noteRead 13 = .ok (.aload_n 0, 1) := by decide +kernel
theorem dX4_noteRead_14 : decode cX4_noteRead 14 = .ok (.getfield 15, 3) := by decide +kernel
theorem dX4_noteRead_17 : decode cX4_noteRead 17 = .ok (.iload_n 1, 1) := by decide +kernel
theorem dX4_noteRead_18 : decode cX4_noteRead 18 = .ok (.dup2, 1) := by decide +kernel
theorem dX4_noteRead_19 : decode cX4_noteRead 19 = .ok (.iaload, 1) := by decide +kernel
theorem dX4_noteRead_20 : decode cX4_noteRead 20 = .ok (.iconst 1, 1) := by decide +kernel
theorem dX4_noteRead_21 : decode cX4_noteRead 21 = .ok (.iload_n 2, 1) := by decide +kernel
theorem dX4_noteRead_22 : decode cX4_noteRead 22 = .ok (.ishl, 1) := by decide +kernel
theorem dX4_noteRead_23 : decode cX4_noteRead 23 = .ok (.ior, 1) := by decide +kernel
theorem dX4_noteRead_24 : decode cX4_noteRead 24 = .ok (.iastore, 1) := by decide +kernel
theorem dX4_noteRead_25 : decode cX4_noteRead 25 = .ok (.aload_n 0, 1) := by decide +kernel
theorem dX4_noteRead_26 : decode cX4_noteRead 26 = .ok (.getfield 9, 3) := by decide +kernel
theorem dX4_noteRead_29 : decode cX4_noteRead 29 = .ok (.aload_n 0, 1) := by decide +kernel
theorem dX4_noteRead_30 : decode cX4_noteRead 30 = .ok (.getfield 21, 3) := by decide +kernel
theorem dX4_noteRead_33 : decode cX4_noteRead 33 = .ok (.iconst 2, 1) := by decide +kernel
theorem dX4_noteRead_34 : decode cX4_noteRead 34 = .ok (.bipush 8, 2) := by decide +kernel
theorem dX4_noteRead_36 : decode cX4_noteRead 36 = .ok (.iload_n 1, 1) := by decide +kernel
theorem dX4_noteRead_37 : decode cX4_noteRead 37 = .ok (.imul, 1) := by decide +kernel
theorem dX4_noteRead_38 : decode cX4_noteRead 38 = .ok (.iload_n 2, 1) := by decide +kernel
theorem dX4_noteRead_39 : decode cX4_noteRead 39 = .ok (.iadd, 1) := by decide +kernel
theorem dX4_noteRead_40 : decode cX4_noteRead 40 = .ok (.imul, 1) := by decide +kernel
theorem dX4_noteRead_41 : decode cX4_noteRead 41 = .ok (.iastore, 1) := by decide +kernel
theorem dX4_noteRead_42 : decode cX4_noteRead 42 = .ok (.aload_n 0, 1) := by decide +kernel
theorem dX4_noteRead_43 : decode cX4_noteRead 43 = .ok (.dup, 1) := by decide +kernel
theorem dX4_noteRead_44 : decode cX4_noteRead 44 = .ok (.getfield 21, 3) := by decide +kernel
theorem dX4_noteRead_47 : decode cX4_noteRead 47 = .ok (.iconst 1, 1) := by decide +kernel
theorem dX4_noteRead_48 : decode cX4_noteRead 48 = .ok (.iadd, 1) := by decide +kernel
theorem dX4_noteRead_49 : decode cX4_noteRead 49 = .ok (.putfield 21, 3) := by decide +kernel
theorem dX4_noteRead_52 : decode cX4_noteRead 52 = .ok (.return_, 1) := by decide +kernel
theorem dX4_noteChanged_0 : decode cX4_noteChanged 0 = .ok (.aload_n 0, 1) := by decide +kernel
theorem dX4_noteChanged_1 : decode cX4_noteChanged 1 = .ok (.getfield 18, 3) := by decide +kernel
theorem dX4_noteChanged_4 : decode cX4_noteChanged 4 = .ok (.iload_n 1, 1) := by decide +kernel
theorem dX4_noteChanged_5 : decode cX4_noteChanged 5 = .ok (.iaload, 1) := by decide +kernel
theorem dX4_noteChanged_6 : decode cX4_noteChanged 6 = .ok (.iconst 1, 1) := by decide +kernel
theorem dX4_noteChanged_7 : decode cX4_noteChanged 7 = .ok (.iload_n 2, 1) := by decide +kernel
theorem dX4_noteChanged_8 : decode cX4_noteChanged 8 = .ok (.ishl, 1) := by decide +kernel
theorem dX4_noteChanged_9 : decode cX4_noteChanged 9 = .ok (.iand, 1) := by decide +kernel
theorem dX4_noteChanged_10 : decode cX4_noteChanged 10 = .ok (.ifCond .ne 54, 3) := by decide +kernel
theorem dX4_noteChanged_13 : decode cX4_noteChanged 13 = .ok (.aload_n 0, 1) := by decide +kernel
theorem dX4_noteChanged_14 : decode cX4_noteChanged 14 = .ok (.getfield 18, 3) := by decide +kernel
theorem dX4_noteChanged_17 : decode cX4_noteChanged 17 = .ok (.iload_n 1, 1) := by decide +kernel
theorem dX4_noteChanged_18 : decode cX4_noteChanged 18 = .ok (.dup2, 1) := by decide +kernel
theorem dX4_noteChanged_19 : decode cX4_noteChanged 19 = .ok (.iaload, 1) := by decide +kernel
theorem dX4_noteChanged_20 : decode cX4_noteChanged 20 = .ok (.iconst 1, 1) := by decide +kernel
theorem dX4_noteChanged_21 : decode cX4_noteChanged 21 = .ok (.iload_n 2, 1) := by decide +kernel
theorem dX4_noteChanged_22 : decode cX4_noteChanged 22 = .ok (.ishl, 1) := by decide +kernel
theorem dX4_noteChanged_23 : decode cX4_noteChanged 23 = .ok (.ior, 1) := by decide +kernel
theorem dX4_noteChanged_24 : decode cX4_noteChanged 24 = .ok (.iastore, 1) := by decide +kernel
theorem dX4_noteChanged_25 : decode cX4_noteChanged 25 = .ok (.aload_n 0, 1) := by decide +kernel
theorem dX4_noteChanged_26 : decode cX4_noteChanged 26 = .ok (.getfield 9, 3) := by decide +kernel
theorem dX4_noteChanged_29 : decode cX4_noteChanged 29 = .ok (.aload_n 0, 1) := by decide +kernel
theorem dX4_noteChanged_30 : decode cX4_noteChanged 30 = .ok (.getfield 21, 3) := by decide +kernel
theorem dX4_noteChanged_33 : decode cX4_noteChanged 33 = .ok (.iconst 2, 1) := by decide +kernel
theorem dX4_noteChanged_34 : decode cX4_noteChanged 34 = .ok (.bipush 8, 2) := by decide +kernel
theorem dX4_noteChanged_36 : decode cX4_noteChanged 36 = .ok (.iload_n 1, 1) := by decide +kernel
theorem dX4_noteChanged_37 : decode cX4_noteChanged 37 = .ok (.imul, 1) := by decide +kernel
theorem dX4_noteChanged_38 : decode cX4_noteChanged 38 = .ok (.iload_n 2, 1) := by decide +kernel
theorem dX4_noteChanged_39 : decode cX4_noteChanged 39 = .ok (.iadd, 1) := by decide +kernel
theorem dX4_noteChanged_40 : decode cX4_noteChanged 40 = .ok (.imul, 1) := by decide +kernel
theorem dX4_noteChanged_41 : decode cX4_noteChanged 41 = .ok (.iconst 1, 1) := by decide +kernel
theorem dX4_noteChanged_42 : decode cX4_noteChanged 42 = .ok (.iadd, 1) := by decide +kernel
theorem dX4_noteChanged_43 : decode cX4_noteChanged 43 = .ok (.iastore, 1) := by decide +kernel
theorem dX4_noteChanged_44 : decode cX4_noteChanged 44 = .ok (.aload_n 0, 1) := by decide +kernel
theorem dX4_noteChanged_45 : decode cX4_noteChanged 45 = .ok (.dup, 1) := by decide +kernel
theorem dX4_noteChanged_46 : decode cX4_noteChanged 46 = .ok (.getfield 21, 3) := by decide +kernel
theorem dX4_noteChanged_49 : decode cX4_noteChanged 49 = .ok (.iconst 1, 1) := by decide +kernel
theorem dX4_noteChanged_50 : decode cX4_noteChanged 50 = .ok (.iadd, 1) := by decide +kernel
theorem dX4_noteChanged_51 : decode cX4_noteChanged 51 = .ok (.putfield 21, 3) := by decide +kernel
theorem dX4_noteChanged_54 : decode cX4_noteChanged 54 = .ok (.aload_n 0, 1) := by decide +kernel
theorem dX4_noteChanged_55 : decode cX4_noteChanged 55 = .ok (.dup, 1) := by decide +kernel
theorem dX4_noteChanged_56 : decode cX4_noteChanged 56 = .ok (.getfield 25, 3) := by decide +kernel
theorem dX4_noteChanged_59 : decode cX4_noteChanged 59 = .ok (.iconst 1, 1) := by decide +kernel
theorem dX4_noteChanged_60 : decode cX4_noteChanged 60 = .ok (.iadd, 1) := by decide +kernel
theorem dX4_noteChanged_61 : decode cX4_noteChanged 61 = .ok (.putfield 25, 3) := by decide +kernel
theorem dX4_noteChanged_64 : decode cX4_noteChanged 64 = .ok (.return_, 1) := by decide +kernel
theorem dX4_isSameAs_0 : decode cX4_isSameAs 0 = .ok (.aload_n 0, 1) := by decide +kernel
theorem dX4_isSameAs_1 : decode cX4_isSameAs 1 = .ok (.getfield 21, 3) := by decide +kernel
theorem dX4_isSameAs_4 : decode cX4_isSameAs 4 = .ok (.aload_n 1, 1) := by decide +kernel
theorem dX4_isSameAs_5 : decode cX4_isSameAs 5 = .ok (.getfield 21, 3) := by decide +kernel
theorem dX4_isSameAs_8 : decode cX4_isSameAs 8 = .ok (.if_icmp .eq 5, 3) := by decide +kernel
theorem dX4_isSameAs_11 : decode cX4_isSameAs 11 = .ok (.iconst 0, 1) := by decide +kernel
theorem dX4_isSameAs_12 : decode cX4_isSameAs 12 = .ok (.ireturn, 1) := by decide +kernel
theorem dX4_isSameAs_13 : decode cX4_isSameAs 13 = .ok (.iconst 0, 1) := by decide +kernel
theorem dX4_isSameAs_14 : decode cX4_isSameAs 14 = .ok (.istore_n 2, 1) := by decide +kernel
theorem dX4_isSameAs_15 : decode cX4_isSameAs 15 = .ok (.iload_n 2, 1) := by decide +kernel
theorem dX4_isSameAs_16 : decode cX4_isSameAs 16 = .ok (.aload_n 0, 1) := by decide +kernel
theorem dX4_isSameAs_17 : decode cX4_isSameAs 17 = .ok (.getfield 21, 3) := by decide +kernel
theorem dX4_isSameAs_20 : decode cX4_isSameAs 20 = .ok (.if_icmp .ge 26, 3) := by decide +kernel
theorem dX4_isSameAs_23 : decode cX4_isSameAs 23 = .ok (.aload_n 0, 1) := by decide +kernel
theorem dX4_isSameAs_24 : decode cX4_isSameAs 24 = .ok (.getfield 9, 3) := by decide +kernel
theorem dX4_isSameAs_27 : decode cX4_isSameAs 27 = .ok (.iload_n 2, 1) := by decide +kernel
theorem dX4_isSameAs_28 : decode cX4_isSameAs 28 = .ok (.iaload, 1) := by decide +kernel
theorem dX4_isSameAs_29 : decode cX4_isSameAs 29 = .ok (.aload_n 1, 1) := by decide +kernel
theorem dX4_isSameAs_30 : decode cX4_isSameAs 30 = .ok (.getfield 9, 3) := by decide +kernel
theorem dX4_isSameAs_33 : decode cX4_isSameAs 33 = .ok (.iload_n 2, 1) := by decide +kernel
theorem dX4_isSameAs_34 : decode cX4_isSameAs 34 = .ok (.iaload, 1) := by decide +kernel
theorem dX4_isSameAs_35 : decode cX4_isSameAs 35 = .ok (.if_icmp .eq 5, 3) := by decide +kernel
theorem dX4_isSameAs_38 : decode cX4_isSameAs 38 = .ok (.iconst 0, 1) := by decide +kernel
theorem dX4_isSameAs_39 : decode cX4_isSameAs 39 = .ok (.ireturn, 1) := by decide +kernel
theorem dX4_isSameAs_40 : decode cX4_isSameAs 40 = .ok (.iinc 2 1, 3) := by decide +kernel
theorem dX4_isSameAs_43 : decode cX4_isSameAs 43 = .ok (.goto (-28), 3) := by decide +kernel
theorem dX4_isSameAs_46 : decode cX4_isSameAs 46 = .ok (.iconst 1, 1) := by decide +kernel
theorem dX4_isSameAs_47 : decode cX4_isSameAs 47 = .ok (.ireturn, 1) := by decide +kernel
set_option maxRecDepth 20000 in
theorem ggX5_init_X3_init : GoodIn wsX5_init wsX3_init := goodIn_r _ [21, 22, 2, 3, 23, 24, 25, 26, 27, 28, 29, 14, 30, 31, 32, 33, 34, 35, 36, 37, 38, 71, 72, 73, 74, 75, 58, 59, 60, 61, 62, 63, 64, 65, 66, 67, 68] (by decide +kernel) (by decide +kernel)
set_option maxRecDepth 20000 in
theorem gX5_init_X3_init_n23 : GoodIn wsX5_init (wsX3_init) := ggX5_init_X3_init
set_option maxRecDepth 20000 in
theorem ggX5_init_X1_init : GoodIn wsX5_init wsX1_init := goodIn_r _ [40, 41, 2, 3, 42, 43, 69, 70] (by decide +kernel) (by decide +kernel)
set_option maxRecDepth 20000 in
theorem gX5_init_X1_init_n45 : GoodIn wsX5_init (wsX1_init) := ggX5_init_X1_init
theorem dX5_init_0 : decode cX5_init 0 = .ok (.aload_n 0, 1) := by decide +kernel
theorem dX5_init_1 : decode cX5_init 1 = .ok (.invokespecial 3, 3) := by decide +kernel
theorem dX5_init_4 : decode cX5_init 4 = .ok (.aload_n 0, 1) := by decide +kernel
theorem dX5_init_5 : decode cX5_init 5 = .ok (.bipush 24, 2) := by decide +kernel
theorem dX5_init_7 : decode cX5_init 7 = .ok (.anewarray 9, 3) := by decide +kernel
theorem dX5_init_10 : decode cX5_init 10 = .ok (.putfield 11, 3) := by decide +kernel
theorem dX5_init_13 : decode cX5_init 13 = .ok (.aload_n 0, 1) := by decide +kernel
theorem dX5_init_14 : decode cX5_init 14 = .ok (.bipush 6, 2) := by decide +kernel
theorem dX5_init_16 : decode cX5_init 16 = .ok (.anewarray 15, 3) := by decide +kernel
theorem dX5_init_19 : decode cX5_init 19 = .ok (.putfield 17, 3) := by decide +kernel
theorem dX5_init_22 : decode cX5_init 22 = .ok (.aload_n 0, 1) := by decide +kernel
theorem dX5_init_23 : decode cX5_init 23 = .ok (.new 21, 3) := by decide +kernel
theorem dX5_init_26 : decode cX5_init 26 = .ok (.dup, 1) := by decide +kernel
theorem dX5_init_27 : decode cX5_init 27 = .ok (.invokespecial 23, 3) := by decide +kernel
theorem dX5_init_30 : decode cX5_init 30 = .ok (.putfield 24, 3) := by decide +kernel
theorem dX5_init_33 : decode cX5_init 33 = .ok (.aload_n 0, 1) := by decide +kernel
theorem dX5_init_34 : decode cX5_init 34 = .ok (.new 21, 3) := by decide +kernel
theorem dX5_init_37 : decode cX5_init 37 = .ok (.dup, 1) := by decide +kernel
theorem dX5_init_38 : decode cX5_init 38 = .ok (.invokespecial 23, 3) := by decide +kernel
theorem dX5_init_41 : decode cX5_init 41 = .ok (.putfield 28, 3) := by decide +kernel
theorem dX5_init_44 : decode cX5_init 44 = .ok (.aload_n 0, 1) := by decide +kernel
theorem dX5_init_45 : decode cX5_init 45 = .ok (.new 21, 3) := by decide +kernel
theorem dX5_init_48 : decode cX5_init 48 = .ok (.dup, 1) := by decide +kernel
theorem dX5_init_49 : decode cX5_init 49 = .ok (.invokespecial 23, 3) := by decide +kernel
theorem dX5_init_52 : decode cX5_init 52 = .ok (.putfield 31, 3) := by decide +kernel
theorem dX5_init_55 : decode cX5_init 55 = .ok (.aload_n 0, 1) := by decide +kernel
theorem dX5_init_56 : decode cX5_init 56 = .ok (.sipush 192, 3) := by decide +kernel
theorem dX5_init_59 : decode cX5_init 59 = .ok (.newarray .int, 2) := by decide +kernel
theorem dX5_init_61 : decode cX5_init 61 = .ok (.putfield 34, 3) := by decide +kernel
theorem dX5_init_64 : decode cX5_init 64 = .ok (.aload_n 0, 1) := by decide +kernel
theorem dX5_init_65 : decode cX5_init 65 = .ok (.sipush 192, 3) := by decide +kernel
theorem dX5_init_68 : decode cX5_init 68 = .ok (.newarray .int, 2) := by decide +kernel
theorem dX5_init_70 : decode cX5_init 70 = .ok (.putfield 38, 3) := by decide +kernel
theorem dX5_init_73 : decode cX5_init 73 = .ok (.aload_n 0, 1) := by decide +kernel
theorem dX5_init_74 : decode cX5_init 74 = .ok (.iconst (-1), 1) := by decide +kernel
theorem dX5_init_75 : decode cX5_init 75 = .ok (.putfield 41, 3) := by decide +kernel
theorem dX5_init_78 : decode cX5_init 78 = .ok (.iconst 0, 1) := by decide +kernel
theorem dX5_init_79 : decode cX5_init 79 = .ok (.istore_n 1, 1) := by decide +kernel
theorem dX5_init_80 : decode cX5_init 80 = .ok (.iload_n 1, 1) := by decide +kernel
theorem dX5_init_81 : decode cX5_init 81 = .ok (.bipush 6, 2) := by decide +kernel
theorem dX5_init_83 : decode cX5_init 83 = .ok (.if_icmp .ge 22, 3) := by decide +kernel
theorem dX5_init_86 : decode cX5_init 86 = .ok (.aload_n 0, 1) := by decide +kernel
theorem dX5_init_87 : decode cX5_init 87 = .ok (.getfield 17, 3) := by decide +kernel
theorem dX5_init_90 : decode cX5_init 90 = .ok (.iload_n 1, 1) := by decide +kernel
theorem dX5_init_91 : decode cX5_init 91 = .ok (.new 15, 3) := by decide +kernel
theorem dX5_init_94 : decode cX5_init 94 = .ok (.dup, 1) := by decide +kernel
theorem dX5_init_95 : decode cX5_init 95 = .ok (.invokespecial 45, 3) := by decide +kernel
theorem dX5_init_98 : decode cX5_init 98 = .ok (.aastore, 1) := by decide +kernel
theorem dX5_init_99 : decode cX5_init 99 = .ok (.iinc 1 1, 3) := by decide +kernel
theorem dX5_init_102 : decode cX5_init 102 = .ok (.goto (-22), 3) := by decide +kernel
theorem dX5_init_105 : decode cX5_init 105 = .ok (.return_, 1) := by decide +kernel
set_option maxRecDepth 20000 in
theorem ggX5_object_X2_init : GoodIn wsX5_object wsX2_init := goodIn_r _ [8, 9, 10, 11, 12, 13, 14, 15, 16, 17, 18, 33, 34, 35, 36, 37] (by decide +kernel) (by decide +kernel)
set_option maxRecDepth 20000 in
theorem gX5_object_X2_init : GoodIn wsX5_object (wsX2_init) := ggX5_object_X2_init
theorem dX5_object_0 : decode cX5_object 0 = .ok (.iload_n 1, 1) := by decide +kernel
theorem dX5_object_1 : decode cX5_object 1 = .ok (.ifCond .lt 8, 3) := by decide +kernel
theorem dX5_object_4 : decode cX5_object 4 = .ok (.iload_n 1, 1) := by decide +kernel
theorem dX5_object_5 : decode cX5_object 5 = .ok (.iconst 3, 1) := by decide +kernel
theorem dX5_object_6 : decode cX5_object 6 = .ok (.if_icmp .lt 5, 3) := by decide +kernel
theorem dX5_object_9 : decode cX5_object 9 = .ok (.iconst (-1), 1) := by decide +kernel
theorem dX5_object_10 : decode cX5_object 10 = .ok (.ireturn, 1) := by decide +kernel
theorem dX5_object_11 : decode cX5_object 11 = .ok (.aload_n 0, 1) := by decide +kernel
theorem dX5_object_12 : decode cX5_object 12 = .ok (.getfield 46, 3) := by decide +kernel
theorem dX5_object_15 : decode cX5_object 15 = .ok (.bipush 24, 2) := by decide +kernel
theorem dX5_object_17 : decode cX5_object 17 = .ok (.if_icmp .lt 6, 3) := by decide +kernel
theorem dX5_object_20 : decode cX5_object 20 = .ok (.bipush (-2), 2) := by decide +kernel
theorem dX5_object_22 : decode cX5_object 22 = .ok (.ireturn, 1) := by decide +kernel
theorem dX5_object_23 : decode cX5_object 23 = .ok (.aload_n 0, 1) := by decide +kernel
theorem dX5_object_24 : decode cX5_object 24 = .ok (.getfield 11, 3) := by decide +kernel
theorem dX5_object_27 : decode cX5_object 27 = .ok (.aload_n 0, 1) := by decide +kernel
theorem dX5_object_28 : decode cX5_object 28 = .ok (.getfield 46, 3) := by decide +kernel
theorem dX5_object_31 : decode cX5_object 31 = .ok (.new 9, 3) := by decide +kernel
theorem dX5_object_34 : decode cX5_object 34 = .ok (.dup, 1) := by decide +kernel
theorem dX5_object_35 : decode cX5_object 35 = .ok (.iload_n 1, 1) := by decide +kernel
theorem dX5_object_36 : decode cX5_object 36 = .ok (.invokespecial 49, 3) := by decide +kernel
theorem dX5_object_39 : decode cX5_object 39 = .ok (.aastore, 1) := by decide +kernel
theorem dX5_object_40 : decode cX5_object 40 = .ok (.aload_n 0, 1) := by decide +kernel
theorem dX5_object_41 : decode cX5_object 41 = .ok (.dup, 1) := by decide +kernel
theorem dX5_object_42 : decode cX5_object 42 = .ok (.getfield 46, 3) := by decide +kernel
theorem dX5_object_45 : decode cX5_object 45 = .ok (.iconst 1, 1) := by decide +kernel
theorem dX5_object_46 : decode cX5_object 46 = .ok (.iadd, 1) := by decide +kernel
theorem dX5_object_47 : decode cX5_object 47 = .ok (.putfield 46, 3) := by decide +kernel
theorem dX5_object_50 : decode cX5_object 50 = .ok (.aload_n 0, 1) := by decide +kernel
theorem dX5_object_51 : decode cX5_object 51 = .ok (.getfield 46, 3) := by decide +kernel
theorem dX5_object_54 : decode cX5_object 54 = .ok (.iconst 1, 1) := by decide +kernel
theorem dX5_object_55 : decode cX5_object 55 = .ok (.isub, 1) := by decide +kernel
theorem dX5_object_56 : decode cX5_object 56 = .ok (.ireturn, 1) := by decide +kernel
end
section
set_option maxRecDepth 20000 in
theorem ggX5_number_X5_sortAt : GoodIn wsX5_number wsX5_sortAt := goodIn_r _ [5, 6, 7, 8, 9, 4, 10, 11, 12, 13, 14, 15, 16, 17, 18, 58, 59, 60, 61, 62, 63, 64, 65, 66, 67, 68, 69, 70, 71, 72, 73, 74, 75, 76] (by decide +kernel) (by decide +kernel)
set_option maxRecDepth 20000 in
theorem gX5_number_X5_sortAt : GoodIn wsX5_number (wsV RX5 52 RX5 yX5_sortAt wsX5_sortAt) := goodIn_app (goodIn_of _ (by decide +kernel)) ggX5_number_X5_sortAt
set_option maxRecDepth 20000 in
theorem ggX5_number_X5_changeCell : GoodIn wsX5_number wsX5_changeCell := goodIn_r _ [22, 6, 23, 24, 25, 26, 27, 4, 28, 29, 30, 31, 32, 33, 34, 35, 15, 36, 37, 38, 39, 40, 41, 42, 43, 44, 45, 46, 47, 48, 18, 17, 49, 50, 51, 52, 53, 54, 55, 56, 57, 58, 59, 60, 61, 62, 63, 64, 65, 66, 67, 68, 69, 70, 71, 72, 73, 74, 75, 76] (by decide +kernel) (by decide +kernel)
set_option maxRecDepth 20000 in
theorem gX5_number_X5_changeCell : GoodIn wsX5_number (wsV RX5 56 RX5 yX5_changeCell wsX5_changeCell) := goodIn_app (goodIn_of _ (by decide +kernel)) ggX5_number_X5_changeCell
theorem dX5_number_0 : decode cX5_number 0 = .ok (.aload_n 0, 1) := by decide +kernel
theorem dX5_number_1 : decode cX5_number 1 = .ok (.iload_n 1, 1) := by decide +kernel
theorem dX5_number_2 : decode cX5_number 2 = .ok (.iload_n 2, 1) := by decide +kernel
theorem dX5_number_3 : decode cX5_number 3 = .ok (.invokevirtual 52, 3) := by decide +kernel
theorem dX5_number_6 : decode cX5_number 6 = .ok (.iconst 1, 1) := by decide +kernel
theorem dX5_number_7 : decode cX5_number 7 = .ok (.if_icmp .ne 13, 3) := by decide +kernel
theorem dX5_number_10 : decode cX5_number 10 = .ok (.aload_n 0, 1) := by decide +kernel
theorem dX5_number_11 : decode cX5_number 11 = .ok (.iload_n 1, 1) := by decide +kernel
theorem dX5_number_12 : decode cX5_number 12 = .ok (.iload_n 2, 1) := by decide +kernel
theorem dX5_number_13 : decode cX5_number 13 = .ok (.lload_n 3, 1) := by decide +kernel
theorem dX5_number_14 : decode cX5_number 14 = .ok (.invokevirtual 56, 3) := by decide +kernel
theorem dX5_number_17 : decode cX5_number 17 = .ok (.goto 4, 3) := by decide +kernel
theorem dX5_number_20 : decode cX5_number 20 = .ok (.iconst (-1), 1) := by decide +kernel
theorem dX5_number_21 : decode cX5_number 21 = .ok (.ireturn, 1) := by decide +kernel
set_option maxRecDepth 20000 in
theorem ggX5_link_X5_sortAt : GoodIn wsX5_link wsX5_sortAt := goodIn_r _ [5, 6, 7, 8, 9, 4, 10, 11, 12, 13, 14, 15, 16, 17, 18, 58, 59, 60, 61, 62, 63, 64, 65, 66, 67, 68, 69, 70, 71, 72, 73, 74, 75, 76] (by decide +kernel) (by decide +kernel)
set_option maxRecDepth 20000 in
theorem gX5_link_X5_sortAt : GoodIn wsX5_link (wsV RX5 52 RX5 yX5_sortAt wsX5_sortAt) := goodIn_app (goodIn_of _ (by decide +kernel)) ggX5_link_X5_sortAt
set_option maxRecDepth 20000 in
theorem ggX5_link_X5_isObject : GoodIn wsX5_link wsX5_isObject := goodIn_r _ [10, 11, 58, 59, 60, 61, 62, 63, 64, 65, 66, 67, 68, 69, 70, 71] (by decide +kernel) (by decide +kernel)
set_option maxRecDepth 20000 in
theorem gX5_link_X5_isObject : GoodIn wsX5_link (wsV RX5 60 RX5 yX5_isObject wsX5_isObject) := goodIn_app (goodIn_of _ (by decide +kernel)) ggX5_link_X5_isObject
set_option maxRecDepth 20000 in
theorem ggX5_link_X5_changeCell : GoodIn wsX5_link wsX5_changeCell := goodIn_r _ [22, 6, 23, 24, 25, 26, 27, 4, 28, 29, 30, 31, 32, 33, 34, 35, 15, 36, 37, 38, 39, 40, 41, 42, 43, 44, 45, 46, 47, 48, 18, 17, 49, 50, 51, 52, 53, 54, 55, 56, 57, 58, 59, 60, 61, 62, 63, 64, 65, 66, 67, 68, 69, 70, 71, 72, 73, 74, 75, 76] (by decide +kernel) (by decide +kernel)
set_option maxRecDepth 20000 in
theorem gX5_link_X5_changeCell : GoodIn wsX5_link (wsV RX5 56 RX5 yX5_changeCell wsX5_changeCell) := goodIn_app (goodIn_of _ (by decide +kernel)) ggX5_link_X5_changeCell
theorem dX5_link_0 : decode cX5_link 0 = .ok (.aload_n 0, 1) := by decide +kernel
theorem dX5_link_1 : decode cX5_link 1 = .ok (.iload_n 1, 1) := by decide +kernel
theorem dX5_link_2 : decode cX5_link 2 = .ok (.iload_n 2, 1) := by decide +kernel
theorem dX5_link_3 : decode cX5_link 3 = .ok (.invokevirtual 52, 3) := by decide +kernel
theorem dX5_link_6 : decode cX5_link 6 = .ok (.iconst 2, 1) := by decide +kernel
theorem dX5_link_7 : decode cX5_link 7 = .ok (.if_icmp .ne 17, 3) := by decide +kernel
theorem dX5_link_10 : decode cX5_link 10 = .ok (.iload_n 3, 1) := by decide +kernel
theorem dX5_link_11 : decode cX5_link 11 = .ok (.bipush (-3), 2) := by decide +kernel
theorem dX5_link_13 : decode cX5_link 13 = .ok (.if_icmp .eq 13, 3) := by decide +kernel
theorem dX5_link_16 : decode cX5_link 16 = .ok (.aload_n 0, 1) := by decide +kernel
theorem dX5_link_17 : decode cX5_link 17 = .ok (.iload_n 3, 1) := by decide +kernel
theorem dX5_link_18 : decode cX5_link 18 = .ok (.invokevirtual 60, 3) := by decide +kernel
theorem dX5_link_21 : decode cX5_link 21 = .ok (.ifCond .ne 5, 3) := by decide +kernel
theorem dX5_link_24 : decode cX5_link 24 = .ok (.iconst (-1), 1) := by decide +kernel
theorem dX5_link_25 : decode cX5_link 25 = .ok (.ireturn, 1) := by decide +kernel
theorem dX5_link_26 : decode cX5_link 26 = .ok (.aload_n 0, 1) := by decide +kernel
theorem dX5_link_27 : decode cX5_link 27 = .ok (.iload_n 1, 1) := by decide +kernel
theorem dX5_link_28 : decode cX5_link 28 = .ok (.iload_n 2, 1) := by decide +kernel
theorem dX5_link_29 : decode cX5_link 29 = .ok (.iload_n 3, 1) := by decide +kernel
theorem dX5_link_30 : decode cX5_link 30 = .ok (.i2l, 1) := by decide +kernel
theorem dX5_link_31 : decode cX5_link 31 = .ok (.invokevirtual 56, 3) := by decide +kernel
theorem dX5_link_34 : decode cX5_link 34 = .ok (.ireturn, 1) := by decide +kernel
set_option maxRecDepth 20000 in
theorem ggX5_row_X5_sortAt : GoodIn wsX5_row wsX5_sortAt := goodIn_r _ [7, 1, 8, 9, 10, 6, 11, 12, 13, 14, 15, 16, 17, 18, 19, 64, 65, 66, 67, 68, 69, 70, 71, 72, 73, 74, 75, 76, 77, 78, 79, 80, 81, 82] (by decide +kernel) (by decide +kernel)
set_option maxRecDepth 20000 in
theorem gX5_row_X5_sortAt : GoodIn wsX5_row (wsV RX5 52 RX5 yX5_sortAt wsX5_sortAt) := goodIn_app (goodIn_of _ (by decide +kernel)) ggX5_row_X5_sortAt
set_option maxRecDepth 20000 in
theorem ggX5_row_X2_hasBlankRow : GoodIn wsX5_row wsX2_hasBlankRow := goodIn_r _ [23, 24, 25, 26, 27, 16, 28, 78, 79, 80, 81, 82] (by decide +kernel) (by decide +kernel)
set_option maxRecDepth 20000 in
theorem gX5_row_X2_hasBlankRow : GoodIn wsX5_row (wsV RX5 64 RX2 yX2_hasBlankRow wsX2_hasBlankRow) := goodIn_app (goodIn_of _ (by decide +kernel)) ggX5_row_X2_hasBlankRow
set_option maxRecDepth 20000 in
theorem ggX5_row_X5_raiseHeight : GoodIn wsX5_row wsX5_raiseHeight := goodIn_r _ [32, 2, 33, 64, 65, 66, 67, 68, 69, 70, 71, 72, 73, 74, 75, 76, 77] (by decide +kernel) (by decide +kernel)
set_option maxRecDepth 20000 in
theorem gX5_row_X5_raiseHeight : GoodIn wsX5_row (wsV RX5 71 RX5 yX5_raiseHeight wsX5_raiseHeight) := goodIn_app (goodIn_of _ (by decide +kernel)) ggX5_row_X5_raiseHeight
set_option maxRecDepth 20000 in
theorem ggX5_row_X5_newVersion : GoodIn wsX5_row wsX5_newVersion := goodIn_r _ [37, 38, 39, 16, 40, 2, 41, 1, 42, 43, 44, 45, 46, 47, 48, 49, 24, 50, 25, 19, 18, 51, 52, 53, 54, 55, 56, 57, 58, 59, 78, 79, 80, 81, 82, 64, 65, 66, 67, 68, 69, 70, 71, 72, 73, 74, 75, 76, 77] (by decide +kernel) (by decide +kernel)
set_option maxRecDepth 20000 in
theorem gX5_row_X5_newVersion : GoodIn wsX5_row (wsV RX5 74 RX5 yX5_newVersion wsX5_newVersion) := goodIn_app (goodIn_of _ (by decide +kernel)) ggX5_row_X5_newVersion
set_option maxRecDepth 20000 in
theorem ggX5_row_X2_renewRow : GoodIn wsX5_row wsX2_renewRow := goodIn_r _ [63, 24, 25, 26, 27, 16, 28, 78, 79, 80, 81, 82] (by decide +kernel) (by decide +kernel)
set_option maxRecDepth 20000 in
theorem gX5_row_X2_renewRow : GoodIn wsX5_row (wsV RX5 78 RX2 yX2_renewRow wsX2_renewRow) := goodIn_app (goodIn_of _ (by decide +kernel)) ggX5_row_X2_renewRow
theorem dX5_row_0 : decode cX5_row 0 = .ok (.aload_n 0, 1) := by decide +kernel
theorem dX5_row_1 : decode cX5_row 1 = .ok (.iload_n 1, 1) := by decide +kernel
theorem dX5_row_2 : decode cX5_row 2 = .ok (.iload_n 2, 1) := by decide +kernel
theorem dX5_row_3 : decode cX5_row 3 = .ok (.invokevirtual 52, 3) := by decide +kernel
theorem dX5_row_6 : decode cX5_row 6 = .ok (.iconst 3, 1) := by decide +kernel
theorem dX5_row_7 : decode cX5_row 7 = .ok (.if_icmp .ne 19, 3) := by decide +kernel
theorem dX5_row_10 : decode cX5_row 10 = .ok (.iload_n 3, 1) := by decide +kernel
theorem dX5_row_11 : decode cX5_row 11 = .ok (.bipush (-3), 2) := by decide +kernel
theorem dX5_row_13 : decode cX5_row 13 = .ok (.if_icmp .eq 15, 3) := by decide +kernel
theorem dX5_row_16 : decode cX5_row 16 = .ok (.iload_n 3, 1) := by decide +kernel
theorem dX5_row_17 : decode cX5_row 17 = .ok (.ifCond .lt 9, 3) := by decide +kernel
theorem dX5_row_20 : decode cX5_row 20 = .ok (.iload_n 3, 1) := by decide +kernel
theorem dX5_row_21 : decode cX5_row 21 = .ok (.bipush 8, 2) := by decide +kernel
theorem dX5_row_23 : decode cX5_row 23 = .ok (.if_icmp .le 5, 3) := by decide +kernel
theorem dX5_row_26 : decode cX5_row 26 = .ok (.iconst (-1), 1) := by decide +kernel
theorem dX5_row_27 : decode cX5_row 27 = .ok (.ireturn, 1) := by decide +kernel
theorem dX5_row_28 : decode cX5_row 28 = .ok (.aload_n 0, 1) := by decide +kernel
theorem dX5_row_29 : decode cX5_row 29 = .ok (.getfield 11, 3) := by decide +kernel
theorem dX5_row_32 : decode cX5_row 32 = .ok (.iload_n 1, 1) := by decide +kernel
theorem dX5_row_33 : decode cX5_row 33 = .ok (.aaload, 1) := by decide +kernel
theorem dX5_row_34 : decode cX5_row 34 = .ok (.iload_n 2, 1) := by decide +kernel
theorem dX5_row_35 : decode cX5_row 35 = .ok (.iload_n 3, 1) := by decide +kernel
theorem dX5_row_36 : decode cX5_row 36 = .ok (.invokevirtual 64, 3) := by decide +kernel
theorem dX5_row_39 : decode cX5_row 39 = .ok (.ifCond .eq 8, 3) := by decide +kernel
theorem dX5_row_42 : decode cX5_row 42 = .ok (.aload_n 0, 1) := by decide +kernel
theorem dX5_row_43 : decode cX5_row 43 = .ok (.getfield 68, 3) := by decide +kernel
theorem dX5_row_46 : decode cX5_row 46 = .ok (.ireturn, 1) := by decide +kernel
theorem dX5_row_47 : decode cX5_row 47 = .ok (.aload_n 0, 1) := by decide +kernel
theorem dX5_row_48 : decode cX5_row 48 = .ok (.getfield 68, 3) := by decide +kernel
theorem dX5_row_51 : decode cX5_row 51 = .ok (.bipush 40, 2) := by decide +kernel
theorem dX5_row_53 : decode cX5_row 53 = .ok (.if_icmp .lt 6, 3) := by decide +kernel
theorem dX5_row_56 : decode cX5_row 56 = .ok (.bipush (-2), 2) := by decide +kernel
theorem dX5_row_58 : decode cX5_row 58 = .ok (.ireturn, 1) := by decide +kernel
theorem dX5_row_59 : decode cX5_row 59 = .ok (.aload_n 0, 1) := by decide +kernel
theorem dX5_row_60 : decode cX5_row 60 = .ok (.invokevirtual 71, 3) := by decide +kernel
theorem dX5_row_63 : decode cX5_row 63 = .ok (.aload_n 0, 1) := by decide +kernel
theorem dX5_row_64 : decode cX5_row 64 = .ok (.iload_n 1, 1) := by decide +kernel
theorem dX5_row_65 : decode cX5_row 65 = .ok (.aload_n 0, 1) := by decide +kernel
theorem dX5_row_66 : decode cX5_row 66 = .ok (.getfield 11, 3) := by decide +kernel
theorem dX5_row_69 : decode cX5_row 69 = .ok (.iload_n 1, 1) := by decide +kernel
theorem dX5_row_70 : decode cX5_row 70 = .ok (.aaload, 1) := by decide +kernel
theorem dX5_row_71 : decode cX5_row 71 = .ok (.invokevirtual 74, 3) := by decide +kernel
theorem dX5_row_74 : decode cX5_row 74 = .ok (.iload_n 2, 1) := by decide +kernel
theorem dX5_row_75 : decode cX5_row 75 = .ok (.iload_n 3, 1) := by decide +kernel
theorem dX5_row_76 : decode cX5_row 76 = .ok (.invokevirtual 78, 3) := by decide +kernel
theorem dX5_row_79 : decode cX5_row 79 = .ok (.aload_n 0, 1) := by decide +kernel
theorem dX5_row_80 : decode cX5_row 80 = .ok (.getfield 68, 3) := by decide +kernel
theorem dX5_row_83 : decode cX5_row 83 = .ok (.ireturn, 1) := by decide +kernel
set_option maxRecDepth 20000 in
theorem ggX5_act_X5_isBehaviour : GoodIn wsX5_act wsX5_isBehaviour := goodIn_r _ [8] (by decide +kernel) (by decide +kernel)
set_option maxRecDepth 20000 in
theorem gX5_act_X5_isBehaviour : GoodIn wsX5_act (va_wsS RX5 82 yX5_isBehaviour wsX5_isBehaviour) := goodIn_app (goodIn_of _ (by decide +kernel)) ggX5_act_X5_isBehaviour
set_option maxRecDepth 20000 in
theorem ggX5_act_X0_init : GoodIn wsX5_act wsX0_init := goodIn_r _ [11, 12, 13, 14, 15, 16, 17, 18, 19, 20, 37, 38, 39, 40, 41, 42] (by decide +kernel) (by decide +kernel)
set_option maxRecDepth 20000 in
theorem gX5_act_X0_init : GoodIn wsX5_act (wsX0_init) := ggX5_act_X0_init
set_option maxRecDepth 20000 in
theorem ggX5_act_X0_isAsTold : GoodIn wsX5_act wsX0_isAsTold := goodIn_r _ [24, 16, 17, 18, 19, 20, 25, 26, 27, 3, 28, 29, 15, 37, 38, 39, 40, 41, 42] (by decide +kernel) (by decide +kernel)
set_option maxRecDepth 20000 in
theorem gX5_act_X0_isAsTold : GoodIn wsX5_act (wsV RX5 90 RX0 yX0_isAsTold wsX0_isAsTold) := goodIn_app (goodIn_of _ (by decide +kernel)) ggX5_act_X0_isAsTold
set_option maxRecDepth 20000 in
theorem ggX5_act_X1_append : GoodIn wsX5_act wsX1_append := goodIn_r _ [34, 35, 36, 57, 58] (by decide +kernel) (by decide +kernel)
set_option maxRecDepth 20000 in
theorem gX5_act_X1_append : GoodIn wsX5_act (wsV RX5 94 RX1 yX1_append wsX1_append) := goodIn_app (goodIn_of _ (by decide +kernel)) ggX5_act_X1_append
theorem dX5_act_0 : decode cX5_act 0 = .ok (.iload_n 1, 1) := by decide +kernel
theorem dX5_act_1 : decode cX5_act 1 = .ok (.invokestatic 82, 3) := by decide +kernel
theorem dX5_act_4 : decode cX5_act 4 = .ok (.ifCond .eq 13, 3) := by decide +kernel
theorem dX5_act_7 : decode cX5_act 7 = .ok (.iload_n 2, 1) := by decide +kernel
theorem dX5_act_8 : decode cX5_act 8 = .ok (.ifCond .lt 9, 3) := by decide +kernel
theorem dX5_act_11 : decode cX5_act 11 = .ok (.iload_n 2, 1) := by decide +kernel
theorem dX5_act_12 : decode cX5_act 12 = .ok (.bipush 18, 2) := by decide +kernel
theorem dX5_act_14 : decode cX5_act 14 = .ok (.if_icmp .lt 5, 3) := by decide +kernel
theorem dX5_act_17 : decode cX5_act 17 = .ok (.iconst (-1), 1) := by decide +kernel
theorem dX5_act_18 : decode cX5_act 18 = .ok (.ireturn, 1) := by decide +kernel
theorem dX5_act_19 : decode cX5_act 19 = .ok (.new 85, 3) := by decide +kernel
theorem dX5_act_22 : decode cX5_act 22 = .ok (.dup, 1) := by decide +kernel
theorem dX5_act_23 : decode cX5_act 23 = .ok (.iload_n 2, 1) := by decide +kernel
theorem dX5_act_24 : decode cX5_act 24 = .ok (.iload_n 3, 1) := by decide +kernel
theorem dX5_act_25 : decode cX5_act 25 = .ok (.lload 4, 2) := by decide +kernel
theorem dX5_act_27 : decode cX5_act 27 = .ok (.iload 6, 2) := by decide +kernel
theorem dX5_act_29 : decode cX5_act 29 = .ok (.iload 7, 2) := by decide +kernel
theorem dX5_act_31 : decode cX5_act 31 = .ok (.iload 8, 2) := by decide +kernel
theorem dX5_act_33 : decode cX5_act 33 = .ok (.invokespecial 87, 3) := by decide +kernel
theorem dX5_act_36 : decode cX5_act 36 = .ok (.astore 9, 2) := by decide +kernel
theorem dX5_act_38 : decode cX5_act 38 = .ok (.aload 9, 2) := by decide +kernel
theorem dX5_act_40 : decode cX5_act 40 = .ok (.invokevirtual 90, 3) := by decide +kernel
theorem dX5_act_43 : decode cX5_act 43 = .ok (.ifCond .eq 17, 3) := by decide +kernel
theorem dX5_act_46 : decode cX5_act 46 = .ok (.aload_n 0, 1) := by decide +kernel
theorem dX5_act_47 : decode cX5_act 47 = .ok (.getfield 17, 3) := by decide +kernel
theorem dX5_act_50 : decode cX5_act 50 = .ok (.iload_n 1, 1) := by decide +kernel
theorem dX5_act_51 : decode cX5_act 51 = .ok (.aaload, 1) := by decide +kernel
theorem dX5_act_52 : decode cX5_act 52 = .ok (.aload 9, 2) := by decide +kernel
theorem dX5_act_54 : decode cX5_act 54 = .ok (.invokevirtual 94, 3) := by decide +kernel
theorem dX5_act_57 : decode cX5_act 57 = .ok (.goto 4, 3) := by decide +kernel
theorem dX5_act_60 : decode cX5_act 60 = .ok (.iconst (-1), 1) := by decide +kernel
theorem dX5_act_61 : decode cX5_act 61 = .ok (.ireturn, 1) := by decide +kernel
set_option maxRecDepth 20000 in
theorem ggX5_clear_X5_isBehaviour : GoodIn wsX5_clear wsX5_isBehaviour := goodIn_r _ [5] (by decide +kernel) (by decide +kernel)
set_option maxRecDepth 20000 in
theorem gX5_clear_X5_isBehaviour : GoodIn wsX5_clear (va_wsS RX5 82 yX5_isBehaviour wsX5_isBehaviour) := goodIn_app (goodIn_of _ (by decide +kernel)) ggX5_clear_X5_isBehaviour
set_option maxRecDepth 20000 in
theorem ggX5_clear_X1_empty : GoodIn wsX5_clear wsX1_empty := goodIn_r _ [10, 11, 26, 27] (by decide +kernel) (by decide +kernel)
set_option maxRecDepth 20000 in
theorem gX5_clear_X1_empty : GoodIn wsX5_clear (wsV RX5 98 RX1 yX1_empty wsX1_empty) := goodIn_app (goodIn_of _ (by decide +kernel)) ggX5_clear_X1_empty
theorem dX5_clear_0 : decode cX5_clear 0 = .ok (.iload_n 1, 1) := by decide +kernel
theorem dX5_clear_1 : decode cX5_clear 1 = .ok (.invokestatic 82, 3) := by decide +kernel
theorem dX5_clear_4 : decode cX5_clear 4 = .ok (.ifCond .eq 15, 3) := by decide +kernel
theorem dX5_clear_7 : decode cX5_clear 7 = .ok (.aload_n 0, 1) := by decide +kernel
theorem dX5_clear_8 : decode cX5_clear 8 = .ok (.getfield 17, 3) := by decide +kernel
theorem dX5_clear_11 : decode cX5_clear 11 = .ok (.iload_n 1, 1) := by decide +kernel
theorem dX5_clear_12 : decode cX5_clear 12 = .ok (.aaload, 1) := by decide +kernel
theorem dX5_clear_13 : decode cX5_clear 13 = .ok (.invokevirtual 98, 3) := by decide +kernel
theorem dX5_clear_16 : decode cX5_clear 16 = .ok (.goto 4, 3) := by decide +kernel
theorem dX5_clear_19 : decode cX5_clear 19 = .ok (.iconst (-1), 1) := by decide +kernel
theorem dX5_clear_20 : decode cX5_clear 20 = .ok (.ireturn, 1) := by decide +kernel
set_option maxRecDepth 20000 in
theorem ggX5_call_X5_callRefusal : GoodIn wsX5_call wsX5_callRefusal := goodIn_r _ [14, 15, 16, 17, 18, 13, 19, 20, 21, 22, 23, 248, 249, 250, 251, 252, 253, 254, 255, 256, 257, 258, 259, 260, 261] (by decide +kernel) (by decide +kernel)
set_option maxRecDepth 20000 in
theorem gX5_call_X5_callRefusal : GoodIn wsX5_call (wsV RX5 102 RX5 yX5_callRefusal wsX5_callRefusal) := goodIn_app (goodIn_of _ (by decide +kernel)) ggX5_call_X5_callRefusal
set_option maxRecDepth 20000 in
theorem ggX5_call_X3_start : GoodIn wsX5_call wsX3_start := goodIn_r _ [28, 29, 30, 31, 32, 33, 34, 35, 36, 37, 38, 39, 40, 41, 42, 43, 44, 45, 46, 47, 48, 49, 50, 51, 52, 53, 54, 262, 263, 264, 265, 266, 267, 268, 269, 270, 271, 272, 273, 274, 275, 276, 277] (by decide +kernel) (by decide +kernel)
set_option maxRecDepth 20000 in
theorem gX5_call_X3_start : GoodIn wsX5_call (wsV RX5 105 RX3 yX3_start wsX3_start) := goodIn_app (goodIn_of _ (by decide +kernel)) ggX5_call_X3_start
set_option maxRecDepth 20000 in
theorem ggX5_call_X3_work : GoodIn wsX5_call wsX3_work := goodIn_r _ [58, 32, 59, 60, 61, 62, 63, 64, 65, 66, 67, 68, 69, 27, 70, 34, 35, 71, 72, 73, 74, 75, 76, 77, 78, 37, 36, 79, 80, 81, 82, 83, 84, 85, 86, 87, 88, 89, 90, 91, 92, 93, 94, 95, 96, 97, 31, 98, 99, 100, 29, 101, 102, 13, 103, 104, 105, 106, 107, 108, 109, 110, 111, 112, 113, 114, 115, 116, 117, 118, 119, 120, 121, 122, 123, 124, 125, 126, 127, 128, 129, 130, 131, 132, 30, 133, 134, 135, 41, 136, 45, 137, 43, 138, 139, 140, 141, 142, 143, 144, 145, 146, 147, 148, 149, 46, 44, 150, 151, 152, 153, 154, 155, 156, 157, 158, 159, 160, 161, 162, 163, 164, 165, 166, 167, 168, 169, 170, 171, 172, 173, 174, 175, 176, 177, 178, 179, 180, 181, 182, 183, 184, 185, 186, 187, 188, 189, 190, 191, 192, 193, 194, 195, 196, 197, 198, 199, 200, 201, 202, 203, 204, 205, 206, 207, 208, 209, 210, 33, 262, 263, 264, 265, 266, 267, 268, 269, 270, 271, 272, 278, 279, 280, 281, 282, 283, 284, 285, 286, 287, 288, 289, 290, 273, 274, 275, 276, 277] (by decide +kernel) (by decide +kernel)
set_option maxRecDepth 20000 in
theorem gX5_call_X3_work : GoodIn wsX5_call (wsV RX5 109 RX3 yX3_work wsX3_work) := goodIn_app (goodIn_of _ (by decide +kernel)) ggX5_call_X3_work
set_option maxRecDepth 20000 in
theorem ggX5_call_J6_bitCount_0f7a4 : GoodIn wsX5_call wsJ6_bitCount_0f7a4 := goodIn_r _ [214, 215, 216, 217] (by decide +kernel) (by decide +kernel)
set_option maxRecDepth 20000 in
theorem gX5_call_J6_bitCount_0f7a4 : GoodIn wsX5_call (va_wsS RX5 125 yJ6_bitCount_0f7a4 wsJ6_bitCount_0f7a4) := goodIn_app (goodIn_of _ (by decide +kernel)) ggX5_call_J6_bitCount_0f7a4
set_option maxRecDepth 20000 in
theorem ggX5_call_X5_keepChanges : GoodIn wsX5_call wsX5_keepChanges := goodIn_r _ [221, 20, 8, 1, 6, 222, 102, 13, 103, 223, 224, 225, 226, 2, 227, 228, 229, 230, 231, 27, 232, 31, 93, 29, 233, 195, 196, 100, 197, 111, 198, 126, 127, 128, 115, 114, 199, 200, 201, 202, 113, 183, 168, 169, 234, 235, 236, 237, 15, 7, 238, 239, 240, 241, 242, 99, 243, 244, 245, 246, 105, 106, 107, 108, 109, 110, 112, 116, 247, 118, 119, 120, 121, 122, 123, 124, 248, 249, 250, 251, 252, 253, 254, 255, 256, 257, 258, 259, 260, 261, 262, 263, 264, 265, 266, 267, 268, 269, 270, 271, 272, 286, 287, 288, 289, 290] (by decide +kernel) (by decide +kernel)
set_option maxRecDepth 20000 in
theorem gX5_call_X5_keepChanges : GoodIn wsX5_call (wsV RX5 137 RX5 yX5_keepChanges wsX5_keepChanges) := goodIn_app (goodIn_of _ (by decide +kernel)) ggX5_call_X5_keepChanges
theorem dX5_call_0 : decode cX5_call 0 = .ok (.aload_n 0, 1) := by decide +kernel
theorem dX5_call_1 : decode cX5_call 1 = .ok (.iload_n 1, 1) := by decide +kernel
theorem dX5_call_2 : decode cX5_call 2 = .ok (.iload_n 2, 1) := by decide +kernel
theorem dX5_call_3 : decode cX5_call 3 = .ok (.invokevirtual 102, 3) := by decide +kernel
theorem dX5_call_6 : decode cX5_call 6 = .ok (.istore 5, 2) := by decide +kernel
theorem dX5_call_8 : decode cX5_call 8 = .ok (.iload 5, 2) := by decide +kernel
theorem dX5_call_10 : decode cX5_call 10 = .ok (.ifCond .eq 6, 3) := by decide +kernel
theorem dX5_call_13 : decode cX5_call 13 = .ok (.iload 5, 2) := by decide +kernel
theorem dX5_call_15 : decode cX5_call 15 = .ok (.ireturn, 1) := by decide +kernel
theorem dX5_call_16 : decode cX5_call 16 = .ok (.aload_n 0, 1) := by decide +kernel
theorem dX5_call_17 : decode cX5_call 17 = .ok (.getfield 24, 3) := by decide +kernel
theorem dX5_call_20 : decode cX5_call 20 = .ok (.aload_n 0, 1) := by decide +kernel
theorem dX5_call_21 : decode cX5_call 21 = .ok (.getfield 11, 3) := by decide +kernel
theorem dX5_call_24 : decode cX5_call 24 = .ok (.iload_n 1, 1) := by decide +kernel
theorem dX5_call_25 : decode cX5_call 25 = .ok (.lload_n 3, 1) := by decide +kernel
theorem dX5_call_26 : decode cX5_call 26 = .ok (.invokevirtual 105, 3) := by decide +kernel
theorem dX5_call_29 : decode cX5_call 29 = .ok (.aload_n 0, 1) := by decide +kernel
theorem dX5_call_30 : decode cX5_call 30 = .ok (.getfield 24, 3) := by decide +kernel
theorem dX5_call_33 : decode cX5_call 33 = .ok (.aload_n 0, 1) := by decide +kernel
theorem dX5_call_34 : decode cX5_call 34 = .ok (.getfield 17, 3) := by decide +kernel
theorem dX5_call_37 : decode cX5_call 37 = .ok (.iload_n 2, 1) := by decide +kernel
theorem dX5_call_38 : decode cX5_call 38 = .ok (.aaload, 1) := by decide +kernel
theorem dX5_call_39 : decode cX5_call 39 = .ok (.invokevirtual 109, 3) := by decide +kernel
theorem dX5_call_42 : decode cX5_call 42 = .ok (.aload_n 0, 1) := by decide +kernel
theorem dX5_call_43 : decode cX5_call 43 = .ok (.dup, 1) := by decide +kernel
theorem dX5_call_44 : decode cX5_call 44 = .ok (.getfield 113, 3) := by decide +kernel
theorem dX5_call_47 : decode cX5_call 47 = .ok (.iconst 1, 1) := by decide +kernel
theorem dX5_call_48 : decode cX5_call 48 = .ok (.iadd, 1) := by decide +kernel
theorem dX5_call_49 : decode cX5_call 49 = .ok (.putfield 113, 3) := by decide +kernel
theorem dX5_call_52 : decode cX5_call 52 = .ok (.aload_n 0, 1) := by decide +kernel
theorem dX5_call_53 : decode cX5_call 53 = .ok (.dup, 1) := by decide +kernel
theorem dX5_call_54 : decode cX5_call 54 = .ok (.getfield 116, 3) := by decide +kernel
theorem dX5_call_57 : decode cX5_call 57 = .ok (.aload_n 0, 1) := by decide +kernel
theorem dX5_call_58 : decode cX5_call 58 = .ok (.getfield 24, 3) := by decide +kernel
theorem dX5_call_61 : decode cX5_call 61 = .ok (.getfield 119, 3) := by decide +kernel
theorem dX5_call_64 : decode cX5_call 64 = .ok (.aload_n 0, 1) := by decide +kernel
theorem dX5_call_65 : decode cX5_call 65 = .ok (.getfield 122, 3) := by decide +kernel
theorem dX5_call_68 : decode cX5_call 68 = .ok (.iconst (-1), 1) := by decide +kernel
theorem dX5_call_69 : decode cX5_call 69 = .ok (.ixor, 1) := by decide +kernel
theorem dX5_call_70 : decode cX5_call 70 = .ok (.iand, 1) := by decide +kernel
theorem dX5_call_71 : decode cX5_call 71 = .ok (.invokestatic 125, 3) := by decide +kernel
theorem dX5_call_74 : decode cX5_call 74 = .ok (.iadd, 1) := by decide +kernel
theorem dX5_call_75 : decode cX5_call 75 = .ok (.putfield 116, 3) := by decide +kernel
theorem dX5_call_78 : decode cX5_call 78 = .ok (.aload_n 0, 1) := by decide +kernel
theorem dX5_call_79 : decode cX5_call 79 = .ok (.dup, 1) := by decide +kernel
theorem dX5_call_80 : decode cX5_call 80 = .ok (.getfield 122, 3) := by decide +kernel
theorem dX5_call_83 : decode cX5_call 83 = .ok (.aload_n 0, 1) := by decide +kernel
theorem dX5_call_84 : decode cX5_call 84 = .ok (.getfield 24, 3) := by decide +kernel
theorem dX5_call_87 : decode cX5_call 87 = .ok (.getfield 119, 3) := by decide +kernel
theorem dX5_call_90 : decode cX5_call 90 = .ok (.ior, 1) := by decide +kernel
theorem dX5_call_91 : decode cX5_call 91 = .ok (.putfield 122, 3) := by decide +kernel
theorem dX5_call_94 : decode cX5_call 94 = .ok (.aload_n 0, 1) := by decide +kernel
theorem dX5_call_95 : decode cX5_call 95 = .ok (.iconst 0, 1) := by decide +kernel
theorem dX5_call_96 : decode cX5_call 96 = .ok (.putfield 131, 3) := by decide +kernel
theorem dX5_call_99 : decode cX5_call 99 = .ok (.aload_n 0, 1) := by decide +kernel
theorem dX5_call_100 : decode cX5_call 100 = .ok (.getfield 24, 3) := by decide +kernel
theorem dX5_call_103 : decode cX5_call 103 = .ok (.getfield 134, 3) := by decide +kernel
theorem dX5_call_106 : decode cX5_call 106 = .ok (.ifCond .ne 7, 3) := by decide +kernel
theorem dX5_call_109 : decode cX5_call 109 = .ok (.aload_n 0, 1) := by decide +kernel
theorem dX5_call_110 : decode cX5_call 110 = .ok (.invokevirtual 137, 3) := by decide +kernel
theorem dX5_call_113 : decode cX5_call 113 = .ok (.aload_n 0, 1) := by decide +kernel
theorem dX5_call_114 : decode cX5_call 114 = .ok (.getfield 24, 3) := by decide +kernel
theorem dX5_call_117 : decode cX5_call 117 = .ok (.getfield 134, 3) := by decide +kernel
theorem dX5_call_120 : decode cX5_call 120 = .ok (.ireturn, 1) := by decide +kernel
theorem dX5_gave_0 : decode cX5_gave 0 = .ok (.aload_n 0, 1) := by decide +kernel
theorem dX5_gave_1 : decode cX5_gave 1 = .ok (.getfield 24, 3) := by decide +kernel
theorem dX5_gave_4 : decode cX5_gave 4 = .ok (.getfield 140, 3) := by decide +kernel
theorem dX5_gave_7 : decode cX5_gave 7 = .ok (.lreturn, 1) := by decide +kernel
theorem dX5_where_0 : decode cX5_where 0 = .ok (.aload_n 0, 1) := by decide +kernel
theorem dX5_where_1 : decode cX5_where 1 = .ok (.getfield 24, 3) := by decide +kernel
theorem dX5_where_4 : decode cX5_where 4 = .ok (.getfield 144, 3) := by decide +kernel
theorem dX5_where_7 : decode cX5_where 7 = .ok (.ireturn, 1) := by decide +kernel
theorem dX5_touched_0 : decode cX5_touched 0 = .ok (.iload_n 1, 1) := by decide +kernel
theorem dX5_touched_1 : decode cX5_touched 1 = .ok (.ifCond .lt 12, 3) := by decide +kernel
theorem dX5_touched_4 : decode cX5_touched 4 = .ok (.iload_n 2, 1) := by decide +kernel
theorem dX5_touched_5 : decode cX5_touched 5 = .ok (.ifCond .lt 8, 3) := by decide +kernel
theorem dX5_touched_8 : decode cX5_touched 8 = .ok (.iload_n 2, 1) := by decide +kernel
theorem dX5_touched_9 : decode cX5_touched 9 = .ok (.iconst 1, 1) := by decide +kernel
theorem dX5_touched_10 : decode cX5_touched 10 = .ok (.if_icmp .le 5, 3) := by decide +kernel
theorem dX5_touched_13 : decode cX5_touched 13 = .ok (.iconst (-1), 1) := by decide +kernel
theorem dX5_touched_14 : decode cX5_touched 14 = .ok (.ireturn, 1) := by decide +kernel
theorem dX5_touched_15 : decode cX5_touched 15 = .ok (.aload_n 0, 1) := by decide +kernel
theorem dX5_touched_16 : decode cX5_touched 16 = .ok (.getfield 24, 3) := by decide +kernel
theorem dX5_touched_19 : decode cX5_touched 19 = .ok (.getfield 147, 3) := by decide +kernel
theorem dX5_touched_22 : decode cX5_touched 22 = .ok (.astore_n 3, 1) := by decide +kernel
theorem dX5_touched_23 : decode cX5_touched 23 = .ok (.iload_n 1, 1) := by decide +kernel
theorem dX5_touched_24 : decode cX5_touched 24 = .ok (.aload_n 3, 1) := by decide +kernel
theorem dX5_touched_25 : decode cX5_touched 25 = .ok (.getfield 151, 3) := by decide +kernel
theorem dX5_touched_28 : decode cX5_touched 28 = .ok (.if_icmp .lt 6, 3) := by decide +kernel
theorem dX5_touched_31 : decode cX5_touched 31 = .ok (.bipush (-3), 2) := by decide +kernel
theorem dX5_touched_33 : decode cX5_touched 33 = .ok (.ireturn, 1) := by decide +kernel
theorem dX5_touched_34 : decode cX5_touched 34 = .ok (.iload_n 2, 1) := by decide +kernel
theorem dX5_touched_35 : decode cX5_touched 35 = .ok (.ifCond .ne 14, 3) := by decide +kernel
theorem dX5_touched_38 : decode cX5_touched 38 = .ok (.aload_n 3, 1) := by decide +kernel
theorem dX5_touched_39 : decode cX5_touched 39 = .ok (.getfield 156, 3) := by decide +kernel
theorem dX5_touched_42 : decode cX5_touched 42 = .ok (.iload_n 1, 1) := by decide +kernel
theorem dX5_touched_43 : decode cX5_touched 43 = .ok (.iaload, 1) := by decide +kernel
theorem dX5_touched_44 : decode cX5_touched 44 = .ok (.iconst 1, 1) := by decide +kernel
theorem dX5_touched_45 : decode cX5_touched 45 = .ok (.ishr, 1) := by decide +kernel
theorem dX5_touched_46 : decode cX5_touched 46 = .ok (.goto 11, 3) := by decide +kernel
theorem dX5_touched_49 : decode cX5_touched 49 = .ok (.aload_n 3, 1) := by decide +kernel
theorem dX5_touched_50 : decode cX5_touched 50 = .ok (.getfield 156, 3) := by decide +kernel
theorem dX5_touched_53 : decode cX5_touched 53 = .ok (.iload_n 1, 1) := by decide +kernel
theorem dX5_touched_54 : decode cX5_touched 54 = .ok (.iaload, 1) := by decide +kernel
theorem dX5_touched_55 : decode cX5_touched 55 = .ok (.iconst 1, 1) := by decide +kernel
theorem dX5_touched_56 : decode cX5_touched 56 = .ok (.iand, 1) := by decide +kernel
theorem dX5_touched_57 : decode cX5_touched 57 = .ok (.ireturn, 1) := by decide +kernel
theorem dX5_written_0 : decode cX5_written 0 = .ok (.iload_n 1, 1) := by decide +kernel
theorem dX5_written_1 : decode cX5_written 1 = .ok (.ifCond .ge 5, 3) := by decide +kernel
theorem dX5_written_4 : decode cX5_written 4 = .ok (.iconst (-1), 1) := by decide +kernel
theorem dX5_written_5 : decode cX5_written 5 = .ok (.ireturn, 1) := by decide +kernel
theorem dX5_written_6 : decode cX5_written 6 = .ok (.iload_n 1, 1) := by decide +kernel
theorem dX5_written_7 : decode cX5_written 7 = .ok (.aload_n 0, 1) := by decide +kernel
theorem dX5_written_8 : decode cX5_written 8 = .ok (.getfield 131, 3) := by decide +kernel
theorem dX5_written_11 : decode cX5_written 11 = .ok (.if_icmp .ge 12, 3) := by decide +kernel
theorem dX5_written_14 : decode cX5_written 14 = .ok (.aload_n 0, 1) := by decide +kernel
theorem dX5_written_15 : decode cX5_written 15 = .ok (.getfield 34, 3) := by decide +kernel
theorem dX5_written_18 : decode cX5_written 18 = .ok (.iload_n 1, 1) := by decide +kernel
theorem dX5_written_19 : decode cX5_written 19 = .ok (.iaload, 1) := by decide +kernel
theorem dX5_written_20 : decode cX5_written 20 = .ok (.goto 5, 3) := by decide +kernel
theorem dX5_written_23 : decode cX5_written 23 = .ok (.bipush (-3), 2) := by decide +kernel
theorem dX5_written_25 : decode cX5_written 25 = .ok (.ireturn, 1) := by decide +kernel
set_option maxRecDepth 20000 in
theorem ggX5_loaded_X5_isObject : GoodIn wsX5_loaded wsX5_isObject := goodIn_r _ [7, 8, 12, 13, 14, 15, 16, 17, 18, 19, 20, 21, 22, 23, 24, 25] (by decide +kernel) (by decide +kernel)
set_option maxRecDepth 20000 in
theorem gX5_loaded_X5_isObject : GoodIn wsX5_loaded (wsV RX5 60 RX5 yX5_isObject wsX5_isObject) := goodIn_app (goodIn_of _ (by decide +kernel)) ggX5_loaded_X5_isObject
set_option maxRecDepth 20000 in
theorem ggX5_loaded_X5_bitOf : GoodIn wsX5_loaded wsX5_bitOf := goodIn_r _ [11] (by decide +kernel) (by decide +kernel)
set_option maxRecDepth 20000 in
theorem gX5_loaded_X5_bitOf : GoodIn wsX5_loaded (va_wsS RX5 159 yX5_bitOf wsX5_bitOf) := goodIn_app (goodIn_of _ (by decide +kernel)) ggX5_loaded_X5_bitOf
theorem dX5_loaded_0 : decode cX5_loaded 0 = .ok (.aload_n 0, 1) := by decide +kernel
theorem dX5_loaded_1 : decode cX5_loaded 1 = .ok (.iload_n 1, 1) := by decide +kernel
theorem dX5_loaded_2 : decode cX5_loaded 2 = .ok (.invokevirtual 60, 3) := by decide +kernel
theorem dX5_loaded_5 : decode cX5_loaded 5 = .ok (.ifCond .eq 17, 3) := by decide +kernel
theorem dX5_loaded_8 : decode cX5_loaded 8 = .ok (.aload_n 0, 1) := by decide +kernel
theorem dX5_loaded_9 : decode cX5_loaded 9 = .ok (.getfield 24, 3) := by decide +kernel
theorem dX5_loaded_12 : decode cX5_loaded 12 = .ok (.getfield 119, 3) := by decide +kernel
theorem dX5_loaded_15 : decode cX5_loaded 15 = .ok (.iload_n 1, 1) := by decide +kernel
theorem dX5_loaded_16 : decode cX5_loaded 16 = .ok (.invokestatic 159, 3) := by decide +kernel
theorem dX5_loaded_19 : decode cX5_loaded 19 = .ok (.goto 4, 3) := by decide +kernel
theorem dX5_loaded_22 : decode cX5_loaded 22 = .ok (.iconst (-1), 1) := by decide +kernel
theorem dX5_loaded_23 : decode cX5_loaded 23 = .ok (.ireturn, 1) := by decide +kernel
set_option maxRecDepth 20000 in
theorem ggX5_cached_X5_isObject : GoodIn wsX5_cached wsX5_isObject := goodIn_r _ [6, 7, 11, 12, 13, 14, 15, 16, 17, 18, 19, 20, 21, 22, 23, 24] (by decide +kernel) (by decide +kernel)
set_option maxRecDepth 20000 in
theorem gX5_cached_X5_isObject : GoodIn wsX5_cached (wsV RX5 60 RX5 yX5_isObject wsX5_isObject) := goodIn_app (goodIn_of _ (by decide +kernel)) ggX5_cached_X5_isObject
set_option maxRecDepth 20000 in
theorem ggX5_cached_X5_bitOf : GoodIn wsX5_cached wsX5_bitOf := goodIn_r _ [10] (by decide +kernel) (by decide +kernel)
set_option maxRecDepth 20000 in
theorem gX5_cached_X5_bitOf : GoodIn wsX5_cached (va_wsS RX5 159 yX5_bitOf wsX5_bitOf) := goodIn_app (goodIn_of _ (by decide +kernel)) ggX5_cached_X5_bitOf
theorem dX5_cached_0 : decode cX5_cached 0 = .ok (.aload_n 0, 1) := by decide +kernel
theorem dX5_cached_1 : decode cX5_cached 1 = .ok (.iload_n 1, 1) := by decide +kernel
theorem dX5_cached_2 : decode cX5_cached 2 = .ok (.invokevirtual 60, 3) := by decide +kernel
theorem dX5_cached_5 : decode cX5_cached 5 = .ok (.ifCond .eq 14, 3) := by decide +kernel
theorem dX5_cached_8 : decode cX5_cached 8 = .ok (.aload_n 0, 1) := by decide +kernel
theorem dX5_cached_9 : decode cX5_cached 9 = .ok (.getfield 122, 3) := by decide +kernel
theorem dX5_cached_12 : decode cX5_cached 12 = .ok (.iload_n 1, 1) := by decide +kernel
theorem dX5_cached_13 : decode cX5_cached 13 = .ok (.invokestatic 159, 3) := by decide +kernel
theorem dX5_cached_16 : decode cX5_cached 16 = .ok (.goto 4, 3) := by decide +kernel
theorem dX5_cached_19 : decode cX5_cached 19 = .ok (.iconst (-1), 1) := by decide +kernel
theorem dX5_cached_20 : decode cX5_cached 20 = .ok (.ireturn, 1) := by decide +kernel
set_option maxRecDepth 20000 in
theorem ggX5_hint_X5_isObject : GoodIn wsX5_hint wsX5_isObject := goodIn_r _ [7, 8, 12, 13, 14, 15, 16, 17, 18, 19, 20, 21, 22, 23, 24, 25] (by decide +kernel) (by decide +kernel)
set_option maxRecDepth 20000 in
theorem gX5_hint_X5_isObject : GoodIn wsX5_hint (wsV RX5 60 RX5 yX5_isObject wsX5_isObject) := goodIn_app (goodIn_of _ (by decide +kernel)) ggX5_hint_X5_isObject
set_option maxRecDepth 20000 in
theorem ggX5_hint_X5_bitOf : GoodIn wsX5_hint wsX5_bitOf := goodIn_r _ [11] (by decide +kernel) (by decide +kernel)
set_option maxRecDepth 20000 in
theorem gX5_hint_X5_bitOf : GoodIn wsX5_hint (va_wsS RX5 159 yX5_bitOf wsX5_bitOf) := goodIn_app (goodIn_of _ (by decide +kernel)) ggX5_hint_X5_bitOf
theorem dX5_hint_0 : decode cX5_hint 0 = .ok (.aload_n 0, 1) := by decide +kernel
theorem dX5_hint_1 : decode cX5_hint 1 = .ok (.iload_n 1, 1) := by decide +kernel
theorem dX5_hint_2 : decode cX5_hint 2 = .ok (.invokevirtual 60, 3) := by decide +kernel
theorem dX5_hint_5 : decode cX5_hint 5 = .ok (.ifCond .ne 5, 3) := by decide +kernel
theorem dX5_hint_8 : decode cX5_hint 8 = .ok (.iconst (-1), 1) := by decide +kernel
theorem dX5_hint_9 : decode cX5_hint 9 = .ok (.ireturn, 1) := by decide +kernel
theorem dX5_hint_10 : decode cX5_hint 10 = .ok (.iconst 1, 1) := by decide +kernel
theorem dX5_hint_11 : decode cX5_hint 11 = .ok (.aload_n 0, 1) := by decide +kernel
theorem dX5_hint_12 : decode cX5_hint 12 = .ok (.getfield 122, 3) := by decide +kernel
theorem dX5_hint_15 : decode cX5_hint 15 = .ok (.iload_n 1, 1) := by decide +kernel
theorem dX5_hint_16 : decode cX5_hint 16 = .ok (.invokestatic 159, 3) := by decide +kernel
theorem dX5_hint_19 : decode cX5_hint 19 = .ok (.isub, 1) := by decide +kernel
theorem dX5_hint_20 : decode cX5_hint 20 = .ok (.istore_n 2, 1) := by decide +kernel
theorem dX5_hint_21 : decode cX5_hint 21 = .ok (.aload_n 0, 1) := by decide +kernel
theorem dX5_hint_22 : decode cX5_hint 22 = .ok (.dup, 1) := by decide +kernel
theorem dX5_hint_23 : decode cX5_hint 23 = .ok (.getfield 116, 3) := by decide +kernel
theorem dX5_hint_26 : decode cX5_hint 26 = .ok (.iload_n 2, 1) := by decide +kernel
theorem dX5_hint_27 : decode cX5_hint 27 = .ok (.iadd, 1) := by decide +kernel
theorem dX5_hint_28 : decode cX5_hint 28 = .ok (.putfield 116, 3) := by decide +kernel
theorem dX5_hint_31 : decode cX5_hint 31 = .ok (.aload_n 0, 1) := by decide +kernel
theorem dX5_hint_32 : decode cX5_hint 32 = .ok (.dup, 1) := by decide +kernel
theorem dX5_hint_33 : decode cX5_hint 33 = .ok (.getfield 122, 3) := by decide +kernel
theorem dX5_hint_36 : decode cX5_hint 36 = .ok (.iconst 1, 1) := by decide +kernel
theorem dX5_hint_37 : decode cX5_hint 37 = .ok (.iload_n 1, 1) := by decide +kernel
theorem dX5_hint_38 : decode cX5_hint 38 = .ok (.ishl, 1) := by decide +kernel
theorem dX5_hint_39 : decode cX5_hint 39 = .ok (.ior, 1) := by decide +kernel
theorem dX5_hint_40 : decode cX5_hint 40 = .ok (.putfield 122, 3) := by decide +kernel
theorem dX5_hint_43 : decode cX5_hint 43 = .ok (.iload_n 2, 1) := by decide +kernel
theorem dX5_hint_44 : decode cX5_hint 44 = .ok (.ireturn, 1) := by decide +kernel
set_option maxRecDepth 20000 in
theorem ggX5_times_X5_sortAt : GoodIn wsX5_times wsX5_sortAt := goodIn_r _ [6, 7, 8, 9, 10, 5, 11, 12, 13, 14, 15, 16, 17, 18, 19, 20, 21, 22, 23, 24, 25, 26, 27, 28, 29, 30, 31, 32, 33, 34, 35, 36, 37, 38] (by decide +kernel) (by decide +kernel)
set_option maxRecDepth 20000 in
theorem gX5_times_X5_sortAt : GoodIn wsX5_times (wsV RX5 52 RX5 yX5_sortAt wsX5_sortAt) := goodIn_app (goodIn_of _ (by decide +kernel)) ggX5_times_X5_sortAt
theorem dX5_times_0 : decode cX5_times 0 = .ok (.iload_n 1, 1) := by decide +kernel
theorem dX5_times_1 : decode cX5_times 1 = .ok (.ifCond .lt 18, 3) := by decide +kernel
theorem dX5_times_4 : decode cX5_times 4 = .ok (.aload_n 0, 1) := by decide +kernel
theorem dX5_times_5 : decode cX5_times 5 = .ok (.iload_n 1, 1) := by decide +kernel
theorem dX5_times_6 : decode cX5_times 6 = .ok (.bipush 8, 2) := by decide +kernel
theorem dX5_times_8 : decode cX5_times 8 = .ok (.idiv, 1) := by decide +kernel
theorem dX5_times_9 : decode cX5_times 9 = .ok (.iload_n 1, 1) := by decide +kernel
theorem dX5_times_10 : decode cX5_times 10 = .ok (.bipush 8, 2) := by decide +kernel
theorem dX5_times_12 : decode cX5_times 12 = .ok (.irem, 1) := by decide +kernel
theorem dX5_times_13 : decode cX5_times 13 = .ok (.invokevirtual 52, 3) := by decide +kernel
theorem dX5_times_16 : decode cX5_times 16 = .ok (.ifCond .ne 5, 3) := by decide +kernel
theorem dX5_times_19 : decode cX5_times 19 = .ok (.iconst (-1), 1) := by decide +kernel
theorem dX5_times_20 : decode cX5_times 20 = .ok (.ireturn, 1) := by decide +kernel
theorem dX5_times_21 : decode cX5_times 21 = .ok (.aload_n 0, 1) := by decide +kernel
theorem dX5_times_22 : decode cX5_times 22 = .ok (.getfield 38, 3) := by decide +kernel
theorem dX5_times_25 : decode cX5_times 25 = .ok (.iload_n 1, 1) := by decide +kernel
theorem dX5_times_26 : decode cX5_times 26 = .ok (.iaload, 1) := by decide +kernel
theorem dX5_times_27 : decode cX5_times 27 = .ok (.ireturn, 1) := by decide +kernel
set_option maxRecDepth 20000 in
theorem ggX5_all_X5_callRefusal : GoodIn wsX5_all wsX5_callRefusal := goodIn_r _ [10, 11, 12, 13, 14, 9, 15, 5, 16, 17, 18, 226, 227, 228, 229, 230, 231, 232, 233, 234, 235, 236, 237, 238, 239] (by decide +kernel) (by decide +kernel)
set_option maxRecDepth 20000 in
theorem gX5_all_X5_callRefusal : GoodIn wsX5_all (wsV RX5 102 RX5 yX5_callRefusal wsX5_callRefusal) := goodIn_app (goodIn_of _ (by decide +kernel)) ggX5_all_X5_callRefusal
set_option maxRecDepth 20000 in
theorem ggX5_all_X3_start : GoodIn wsX5_all wsX3_start := goodIn_r _ [23, 24, 25, 26, 27, 28, 29, 30, 31, 32, 33, 34, 35, 36, 37, 38, 39, 40, 41, 42, 43, 44, 45, 46, 47, 48, 49, 240, 241, 242, 243, 244, 245, 246, 247, 248, 249, 250, 251, 252, 253, 254, 255] (by decide +kernel) (by decide +kernel)
set_option maxRecDepth 20000 in
theorem gX5_all_X3_start : GoodIn wsX5_all (wsV RX5 105 RX3 yX3_start wsX3_start) := goodIn_app (goodIn_of _ (by decide +kernel)) ggX5_all_X3_start
set_option maxRecDepth 20000 in
theorem ggX5_all_X3_work : GoodIn wsX5_all wsX3_work := goodIn_r _ [53, 27, 54, 55, 56, 57, 58, 59, 60, 61, 62, 63, 64, 22, 65, 29, 30, 66, 67, 68, 69, 70, 71, 72, 73, 32, 31, 74, 75, 76, 77, 78, 79, 80, 81, 82, 83, 84, 85, 86, 87, 88, 89, 90, 91, 92, 26, 93, 94, 95, 24, 96, 97, 9, 98, 99, 100, 101, 102, 103, 104, 105, 106, 107, 108, 109, 110, 111, 112, 113, 114, 115, 116, 117, 118, 119, 120, 121, 122, 123, 124, 125, 126, 127, 25, 128, 129, 130, 36, 131, 40, 132, 38, 133, 134, 135, 136, 137, 138, 139, 140, 141, 142, 143, 144, 41, 39, 145, 146, 147, 148, 149, 150, 151, 152, 153, 154, 155, 156, 157, 158, 159, 160, 161, 162, 163, 164, 165, 166, 167, 168, 169, 170, 171, 172, 173, 174, 175, 176, 177, 178, 179, 180, 181, 182, 183, 184, 185, 186, 187, 188, 189, 190, 191, 192, 193, 194, 195, 196, 197, 198, 199, 200, 201, 202, 203, 204, 205, 28, 240, 241, 242, 243, 244, 245, 246, 247, 248, 249, 250, 256, 257, 258, 259, 260, 261, 262, 263, 264, 265, 266, 267, 268, 251, 252, 253, 254, 255] (by decide +kernel) (by decide +kernel)
set_option maxRecDepth 20000 in
theorem gX5_all_X3_work : GoodIn wsX5_all (wsV RX5 109 RX3 yX3_work wsX3_work) := goodIn_app (goodIn_of _ (by decide +kernel)) ggX5_all_X3_work
set_option maxRecDepth 20000 in
theorem ggX5_all_X3_loadAhead : GoodIn wsX5_all wsX3_loadAhead := goodIn_r _ [209, 89, 90, 91, 22, 92, 26, 88, 93, 94, 95, 24, 96, 97, 9, 98, 99, 100, 101, 102, 103, 104, 105, 106, 107, 108, 109, 110, 111, 112, 113, 114, 115, 116, 117, 118, 119, 240, 241, 242, 243, 244, 245, 246, 247, 248, 249, 250, 264, 265, 266, 267, 268] (by decide +kernel) (by decide +kernel)
set_option maxRecDepth 20000 in
theorem gX5_all_X3_loadAhead : GoodIn wsX5_all (wsV RX5 162 RX3 yX3_loadAhead wsX3_loadAhead) := goodIn_app (goodIn_of _ (by decide +kernel)) ggX5_all_X3_loadAhead
set_option maxRecDepth 20000 in
theorem ggX5_all_X3_endsLike : GoodIn wsX5_all wsX3_endsLike := goodIn_r _ [213, 29, 30, 28, 25, 214, 215, 216, 36, 217, 38, 132, 240, 241, 242, 243, 244, 245, 246, 247, 248, 249, 250, 251, 252, 253, 254, 255] (by decide +kernel) (by decide +kernel)
set_option maxRecDepth 20000 in
theorem gX5_all_X3_endsLike : GoodIn wsX5_all (wsV RX5 165 RX3 yX3_endsLike wsX3_endsLike) := goodIn_app (goodIn_of _ (by decide +kernel)) ggX5_all_X3_endsLike
set_option maxRecDepth 20000 in
theorem ggX5_all_X3_changesLike : GoodIn wsX5_all wsX3_changesLike := goodIn_r _ [221, 29, 222, 223, 224, 22, 225, 26, 88, 24, 97, 9, 98, 189, 190, 191, 95, 192, 106, 193, 121, 122, 123, 110, 109, 194, 195, 196, 197, 108, 178, 163, 164, 240, 241, 242, 243, 244, 245, 246, 247, 248, 249, 250, 264, 265, 266, 267, 268] (by decide +kernel) (by decide +kernel)
set_option maxRecDepth 20000 in
theorem gX5_all_X3_changesLike : GoodIn wsX5_all (wsV RX5 169 RX3 yX3_changesLike wsX3_changesLike) := goodIn_app (goodIn_of _ (by decide +kernel)) ggX5_all_X3_changesLike
theorem dX5_all_0 : decode cX5_all 0 = .ok (.aload_n 0, 1) := by decide +kernel
theorem dX5_all_1 : decode cX5_all 1 = .ok (.iload_n 1, 1) := by decide +kernel
theorem dX5_all_2 : decode cX5_all 2 = .ok (.iload_n 2, 1) := by decide +kernel
theorem dX5_all_3 : decode cX5_all 3 = .ok (.invokevirtual 102, 3) := by decide +kernel
theorem dX5_all_6 : decode cX5_all 6 = .ok (.istore 5, 2) := by decide +kernel
theorem dX5_all_8 : decode cX5_all 8 = .ok (.iload 5, 2) := by decide +kernel
theorem dX5_all_10 : decode cX5_all 10 = .ok (.ifCond .eq 6, 3) := by decide +kernel
theorem dX5_all_13 : decode cX5_all 13 = .ok (.iload 5, 2) := by decide +kernel
theorem dX5_all_15 : decode cX5_all 15 = .ok (.ireturn, 1) := by decide +kernel
theorem dX5_all_16 : decode cX5_all 16 = .ok (.aload_n 0, 1) := by decide +kernel
theorem dX5_all_17 : decode cX5_all 17 = .ok (.getfield 28, 3) := by decide +kernel
theorem dX5_all_20 : decode cX5_all 20 = .ok (.aload_n 0, 1) := by decide +kernel
theorem dX5_all_21 : decode cX5_all 21 = .ok (.getfield 11, 3) := by decide +kernel
theorem dX5_all_24 : decode cX5_all 24 = .ok (.iload_n 1, 1) := by decide +kernel
theorem dX5_all_25 : decode cX5_all 25 = .ok (.lload_n 3, 1) := by decide +kernel
theorem dX5_all_26 : decode cX5_all 26 = .ok (.invokevirtual 105, 3) := by decide +kernel
theorem dX5_all_29 : decode cX5_all 29 = .ok (.aload_n 0, 1) := by decide +kernel
theorem dX5_all_30 : decode cX5_all 30 = .ok (.getfield 28, 3) := by decide +kernel
theorem dX5_all_33 : decode cX5_all 33 = .ok (.aload_n 0, 1) := by decide +kernel
theorem dX5_all_34 : decode cX5_all 34 = .ok (.getfield 17, 3) := by decide +kernel
theorem dX5_all_37 : decode cX5_all 37 = .ok (.iload_n 2, 1) := by decide +kernel
theorem dX5_all_38 : decode cX5_all 38 = .ok (.aaload, 1) := by decide +kernel
theorem dX5_all_39 : decode cX5_all 39 = .ok (.invokevirtual 109, 3) := by decide +kernel
theorem dX5_all_42 : decode cX5_all 42 = .ok (.aload_n 0, 1) := by decide +kernel
theorem dX5_all_43 : decode cX5_all 43 = .ok (.getfield 31, 3) := by decide +kernel
theorem dX5_all_46 : decode cX5_all 46 = .ok (.aload_n 0, 1) := by decide +kernel
theorem dX5_all_47 : decode cX5_all 47 = .ok (.getfield 11, 3) := by decide +kernel
theorem dX5_all_50 : decode cX5_all 50 = .ok (.iload_n 1, 1) := by decide +kernel
theorem dX5_all_51 : decode cX5_all 51 = .ok (.lload_n 3, 1) := by decide +kernel
theorem dX5_all_52 : decode cX5_all 52 = .ok (.invokevirtual 105, 3) := by decide +kernel
theorem dX5_all_55 : decode cX5_all 55 = .ok (.aload_n 0, 1) := by decide +kernel
theorem dX5_all_56 : decode cX5_all 56 = .ok (.getfield 31, 3) := by decide +kernel
theorem dX5_all_59 : decode cX5_all 59 = .ok (.aload_n 0, 1) := by decide +kernel
theorem dX5_all_60 : decode cX5_all 60 = .ok (.getfield 46, 3) := by decide +kernel
theorem dX5_all_63 : decode cX5_all 63 = .ok (.invokevirtual 162, 3) := by decide +kernel
theorem dX5_all_66 : decode cX5_all 66 = .ok (.aload_n 0, 1) := by decide +kernel
theorem dX5_all_67 : decode cX5_all 67 = .ok (.getfield 31, 3) := by decide +kernel
theorem dX5_all_70 : decode cX5_all 70 = .ok (.aload_n 0, 1) := by decide +kernel
theorem dX5_all_71 : decode cX5_all 71 = .ok (.getfield 17, 3) := by decide +kernel
theorem dX5_all_74 : decode cX5_all 74 = .ok (.iload_n 2, 1) := by decide +kernel
theorem dX5_all_75 : decode cX5_all 75 = .ok (.aaload, 1) := by decide +kernel
theorem dX5_all_76 : decode cX5_all 76 = .ok (.invokevirtual 109, 3) := by decide +kernel
theorem dX5_all_79 : decode cX5_all 79 = .ok (.aload_n 0, 1) := by decide +kernel
theorem dX5_all_80 : decode cX5_all 80 = .ok (.getfield 28, 3) := by decide +kernel
theorem dX5_all_83 : decode cX5_all 83 = .ok (.aload_n 0, 1) := by decide +kernel
theorem dX5_all_84 : decode cX5_all 84 = .ok (.getfield 31, 3) := by decide +kernel
theorem dX5_all_87 : decode cX5_all 87 = .ok (.invokevirtual 165, 3) := by decide +kernel
theorem dX5_all_90 : decode cX5_all 90 = .ok (.ifCond .eq 25, 3) := by decide +kernel
theorem dX5_all_93 : decode cX5_all 93 = .ok (.aload_n 0, 1) := by decide +kernel
theorem dX5_all_94 : decode cX5_all 94 = .ok (.getfield 28, 3) := by decide +kernel
theorem dX5_all_97 : decode cX5_all 97 = .ok (.aload_n 0, 1) := by decide +kernel
theorem dX5_all_98 : decode cX5_all 98 = .ok (.getfield 31, 3) := by decide +kernel
theorem dX5_all_101 : decode cX5_all 101 = .ok (.aload_n 0, 1) := by decide +kernel
theorem dX5_all_102 : decode cX5_all 102 = .ok (.getfield 46, 3) := by decide +kernel
theorem dX5_all_105 : decode cX5_all 105 = .ok (.invokevirtual 169, 3) := by decide +kernel
theorem dX5_all_108 : decode cX5_all 108 = .ok (.ifCond .eq 7, 3) := by decide +kernel
theorem dX5_all_111 : decode cX5_all 111 = .ok (.iconst 1, 1) := by decide +kernel
theorem dX5_all_112 : decode cX5_all 112 = .ok (.goto 4, 3) := by decide +kernel
theorem dX5_all_115 : decode cX5_all 115 = .ok (.iconst 0, 1) := by decide +kernel
theorem dX5_all_116 : decode cX5_all 116 = .ok (.ireturn, 1) := by decide +kernel
set_option maxRecDepth 20000 in
theorem ggX5_view_X5_sortAt : GoodIn wsX5_view wsX5_sortAt := goodIn_r _ [11, 4, 12, 13, 14, 10, 15, 16, 17, 18, 19, 20, 21, 22, 23, 38, 39, 40, 41, 42, 43, 44, 45, 46, 47, 48, 49, 50, 51, 52, 53, 54, 55, 56] (by decide +kernel) (by decide +kernel)
set_option maxRecDepth 20000 in
theorem gX5_view_X5_sortAt : GoodIn wsX5_view (wsV RX5 52 RX5 yX5_sortAt wsX5_sortAt) := goodIn_app (goodIn_of _ (by decide +kernel)) ggX5_view_X5_sortAt
set_option maxRecDepth 20000 in
theorem ggX5_view_X2_asOf : GoodIn wsX5_view wsX2_asOf := goodIn_r _ [27, 28, 29, 52, 53, 54, 55, 56] (by decide +kernel) (by decide +kernel)
set_option maxRecDepth 20000 in
theorem gX5_view_X2_asOf : GoodIn wsX5_view (wsV RX5 175 RX2 yX2_asOf wsX2_asOf) := goodIn_app (goodIn_of _ (by decide +kernel)) ggX5_view_X2_asOf
set_option maxRecDepth 20000 in
theorem ggX5_view_X2_hasItem : GoodIn wsX5_view wsX2_hasItem := goodIn_r _ [33, 34, 52, 53, 54, 55, 56] (by decide +kernel) (by decide +kernel)
set_option maxRecDepth 20000 in
theorem gX5_view_X2_hasItem : GoodIn wsX5_view (wsV RX5 183 RX2 yX2_hasItem wsX2_hasItem) := goodIn_app (goodIn_of _ (by decide +kernel)) ggX5_view_X2_hasItem
set_option maxRecDepth 20000 in
theorem ggX5_view_X2_itemPlace : GoodIn wsX5_view wsX2_itemPlace := goodIn_r _ [37] (by decide +kernel) (by decide +kernel)
set_option maxRecDepth 20000 in
theorem gX5_view_X2_itemPlace : GoodIn wsX5_view (va_wsS RX5 190 yX2_itemPlace wsX2_itemPlace) := goodIn_app (goodIn_of _ (by decide +kernel)) ggX5_view_X2_itemPlace
theorem dX5_view_0 : decode cX5_view 0 = .ok (.aload_n 0, 1) := by decide +kernel
theorem dX5_view_1 : decode cX5_view 1 = .ok (.iconst (-1), 1) := by decide +kernel
theorem dX5_view_2 : decode cX5_view 2 = .ok (.putfield 41, 3) := by decide +kernel
theorem dX5_view_5 : decode cX5_view 5 = .ok (.aload_n 0, 1) := by decide +kernel
theorem dX5_view_6 : decode cX5_view 6 = .ok (.iload_n 1, 1) := by decide +kernel
theorem dX5_view_7 : decode cX5_view 7 = .ok (.iload_n 2, 1) := by decide +kernel
theorem dX5_view_8 : decode cX5_view 8 = .ok (.invokevirtual 52, 3) := by decide +kernel
theorem dX5_view_11 : decode cX5_view 11 = .ok (.istore 5, 2) := by decide +kernel
theorem dX5_view_13 : decode cX5_view 13 = .ok (.iload 5, 2) := by decide +kernel
theorem dX5_view_15 : decode cX5_view 15 = .ok (.ifCond .eq 15, 3) := by decide +kernel
theorem dX5_view_18 : decode cX5_view 18 = .ok (.iload_n 3, 1) := by decide +kernel
theorem dX5_view_19 : decode cX5_view 19 = .ok (.ifCond .lt 11, 3) := by decide +kernel
theorem dX5_view_22 : decode cX5_view 22 = .ok (.iload_n 3, 1) := by decide +kernel
theorem dX5_view_23 : decode cX5_view 23 = .ok (.aload_n 0, 1) := by decide +kernel
theorem dX5_view_24 : decode cX5_view 24 = .ok (.getfield 68, 3) := by decide +kernel
theorem dX5_view_27 : decode cX5_view 27 = .ok (.if_icmp .le 7, 3) := by decide +kernel
theorem dX5_view_30 : decode cX5_view 30 = .ok (.ldc2_w 173, 3) := by decide +kernel
theorem dX5_view_33 : decode cX5_view 33 = .ok (.lreturn, 1) := by decide +kernel
theorem dX5_view_34 : decode cX5_view 34 = .ok (.aload_n 0, 1) := by decide +kernel
theorem dX5_view_35 : decode cX5_view 35 = .ok (.getfield 11, 3) := by decide +kernel
theorem dX5_view_38 : decode cX5_view 38 = .ok (.iload_n 1, 1) := by decide +kernel
theorem dX5_view_39 : decode cX5_view 39 = .ok (.aaload, 1) := by decide +kernel
theorem dX5_view_40 : decode cX5_view 40 = .ok (.iload_n 3, 1) := by decide +kernel
theorem dX5_view_41 : decode cX5_view 41 = .ok (.invokevirtual 175, 3) := by decide +kernel
theorem dX5_view_44 : decode cX5_view 44 = .ok (.astore 6, 2) := by decide +kernel
theorem dX5_view_46 : decode cX5_view 46 = .ok (.iload 4, 2) := by decide +kernel
theorem dX5_view_48 : decode cX5_view 48 = .ok (.bipush (-3), 2) := by decide +kernel
theorem dX5_view_50 : decode cX5_view 50 = .ok (.if_icmp .ne 16, 3) := by decide +kernel
theorem dX5_view_53 : decode cX5_view 53 = .ok (.aload_n 0, 1) := by decide +kernel
theorem dX5_view_54 : decode cX5_view 54 = .ok (.iconst 0, 1) := by decide +kernel
theorem dX5_view_55 : decode cX5_view 55 = .ok (.putfield 41, 3) := by decide +kernel
theorem dX5_view_58 : decode cX5_view 58 = .ok (.aload 6, 2) := by decide +kernel
theorem dX5_view_60 : decode cX5_view 60 = .ok (.getfield 179, 3) := by decide +kernel
theorem dX5_view_63 : decode cX5_view 63 = .ok (.iload_n 2, 1) := by decide +kernel
theorem dX5_view_64 : decode cX5_view 64 = .ok (.laload, 1) := by decide +kernel
theorem dX5_view_65 : decode cX5_view 65 = .ok (.lreturn, 1) := by decide +kernel
theorem dX5_view_66 : decode cX5_view 66 = .ok (.iload 5, 2) := by decide +kernel
theorem dX5_view_68 : decode cX5_view 68 = .ok (.iconst 3, 1) := by decide +kernel
theorem dX5_view_69 : decode cX5_view 69 = .ok (.if_icmp .ne 15, 3) := by decide +kernel
theorem dX5_view_72 : decode cX5_view 72 = .ok (.aload 6, 2) := by decide +kernel
theorem dX5_view_74 : decode cX5_view 74 = .ok (.iload_n 2, 1) := by decide +kernel
theorem dX5_view_75 : decode cX5_view 75 = .ok (.iload 4, 2) := by decide +kernel
theorem dX5_view_77 : decode cX5_view 77 = .ok (.i2l, 1) := by decide +kernel
theorem dX5_view_78 : decode cX5_view 78 = .ok (.invokevirtual 183, 3) := by decide +kernel
theorem dX5_view_81 : decode cX5_view 81 = .ok (.ifCond .ne 7, 3) := by decide +kernel
theorem dX5_view_84 : decode cX5_view 84 = .ok (.ldc2_w 173, 3) := by decide +kernel
theorem dX5_view_87 : decode cX5_view 87 = .ok (.lreturn, 1) := by decide +kernel
theorem dX5_view_88 : decode cX5_view 88 = .ok (.aload_n 0, 1) := by decide +kernel
theorem dX5_view_89 : decode cX5_view 89 = .ok (.iconst 0, 1) := by decide +kernel
theorem dX5_view_90 : decode cX5_view 90 = .ok (.putfield 41, 3) := by decide +kernel
theorem dX5_view_93 : decode cX5_view 93 = .ok (.aload 6, 2) := by decide +kernel
theorem dX5_view_95 : decode cX5_view 95 = .ok (.getfield 187, 3) := by decide +kernel
theorem dX5_view_98 : decode cX5_view 98 = .ok (.iload_n 2, 1) := by decide +kernel
theorem dX5_view_99 : decode cX5_view 99 = .ok (.iload 4, 2) := by decide +kernel
theorem dX5_view_101 : decode cX5_view 101 = .ok (.invokestatic 190, 3) := by decide +kernel
theorem dX5_view_104 : decode cX5_view 104 = .ok (.iaload, 1) := by decide +kernel
theorem dX5_view_105 : decode cX5_view 105 = .ok (.i2l, 1) := by decide +kernel
theorem dX5_view_106 : decode cX5_view 106 = .ok (.lreturn, 1) := by decide +kernel
theorem dX5_status_0 : decode cX5_status 0 = .ok (.aload_n 0, 1) := by decide +kernel
theorem dX5_status_1 : decode cX5_status 1 = .ok (.getfield 41, 3) := by decide +kernel
theorem dX5_status_4 : decode cX5_status 4 = .ok (.ireturn, 1) := by decide +kernel
set_option maxRecDepth 20000 in
theorem ggX5_told_J6_bitCount_0f7a4 : GoodIn wsX5_told wsJ6_bitCount_0f7a4 := goodIn_r _ [15, 16, 17, 18] (by decide +kernel) (by decide +kernel)
set_option maxRecDepth 20000 in
theorem gX5_told_J6_bitCount_0f7a4 : GoodIn wsX5_told (va_wsS RX5 125 yJ6_bitCount_0f7a4 wsJ6_bitCount_0f7a4) := goodIn_app (goodIn_of _ (by decide +kernel)) ggX5_told_J6_bitCount_0f7a4
theorem dX5_told_0 : decode cX5_told 0 = .ok (.iload_n 1, 1) := by decide +kernel
theorem dX5_told_1 : decode cX5_told 1 = .ok (.tableswitch 117 0 8 #[51, 56, 61, 66, 77, 88, 93, 104, 112], 51) := by decide +kernel
theorem dX5_told_52 : decode cX5_told 52 = .ok (.aload_n 0, 1) := by decide +kernel
theorem dX5_told_53 : decode cX5_told 53 = .ok (.getfield 46, 3) := by decide +kernel
theorem dX5_told_56 : decode cX5_told 56 = .ok (.ireturn, 1) := by decide +kernel
theorem dX5_told_57 : decode cX5_told 57 = .ok (.aload_n 0, 1) := by decide +kernel
theorem dX5_told_58 : decode cX5_told 58 = .ok (.getfield 68, 3) := by decide +kernel
theorem dX5_told_61 : decode cX5_told 61 = .ok (.ireturn, 1) := by decide +kernel
theorem dX5_told_62 : decode cX5_told 62 = .ok (.aload_n 0, 1) := by decide +kernel
theorem dX5_told_63 : decode cX5_told 63 = .ok (.getfield 116, 3) := by decide +kernel
theorem dX5_told_66 : decode cX5_told 66 = .ok (.ireturn, 1) := by decide +kernel
theorem dX5_told_67 : decode cX5_told 67 = .ok (.aload_n 0, 1) := by decide +kernel
theorem dX5_told_68 : decode cX5_told 68 = .ok (.getfield 24, 3) := by decide +kernel
theorem dX5_told_71 : decode cX5_told 71 = .ok (.getfield 147, 3) := by decide +kernel
theorem dX5_told_74 : decode cX5_told 74 = .ok (.getfield 151, 3) := by decide +kernel
theorem dX5_told_77 : decode cX5_told 77 = .ok (.ireturn, 1) := by decide +kernel
theorem dX5_told_78 : decode cX5_told 78 = .ok (.aload_n 0, 1) := by decide +kernel
theorem dX5_told_79 : decode cX5_told 79 = .ok (.getfield 24, 3) := by decide +kernel
theorem dX5_told_82 : decode cX5_told 82 = .ok (.getfield 147, 3) := by decide +kernel
theorem dX5_told_85 : decode cX5_told 85 = .ok (.getfield 193, 3) := by decide +kernel
theorem dX5_told_88 : decode cX5_told 88 = .ok (.ireturn, 1) := by decide +kernel
theorem dX5_told_89 : decode cX5_told 89 = .ok (.aload_n 0, 1) := by decide +kernel
theorem dX5_told_90 : decode cX5_told 90 = .ok (.getfield 131, 3) := by decide +kernel
theorem dX5_told_93 : decode cX5_told 93 = .ok (.ireturn, 1) := by decide +kernel
theorem dX5_told_94 : decode cX5_told 94 = .ok (.aload_n 0, 1) := by decide +kernel
theorem dX5_told_95 : decode cX5_told 95 = .ok (.getfield 24, 3) := by decide +kernel
theorem dX5_told_98 : decode cX5_told 98 = .ok (.getfield 119, 3) := by decide +kernel
theorem dX5_told_101 : decode cX5_told 101 = .ok (.invokestatic 125, 3) := by decide +kernel
theorem dX5_told_104 : decode cX5_told 104 = .ok (.ireturn, 1) := by decide +kernel
theorem dX5_told_105 : decode cX5_told 105 = .ok (.aload_n 0, 1) := by decide +kernel
theorem dX5_told_106 : decode cX5_told 106 = .ok (.getfield 24, 3) := by decide +kernel
theorem dX5_told_109 : decode cX5_told 109 = .ok (.getfield 196, 3) := by decide +kernel
theorem dX5_told_112 : decode cX5_told 112 = .ok (.ireturn, 1) := by decide +kernel
theorem dX5_told_113 : decode cX5_told 113 = .ok (.aload_n 0, 1) := by decide +kernel
theorem dX5_told_114 : decode cX5_told 114 = .ok (.getfield 113, 3) := by decide +kernel
theorem dX5_told_117 : decode cX5_told 117 = .ok (.ireturn, 1) := by decide +kernel
theorem dX5_told_118 : decode cX5_told 118 = .ok (.iconst (-1), 1) := by decide +kernel
theorem dX5_told_119 : decode cX5_told 119 = .ok (.ireturn, 1) := by decide +kernel
theorem dX5_isObject_0 : decode cX5_isObject 0 = .ok (.iload_n 1, 1) := by decide +kernel
theorem dX5_isObject_1 : decode cX5_isObject 1 = .ok (.ifCond .lt 15, 3) := by decide +kernel
theorem dX5_isObject_4 : decode cX5_isObject 4 = .ok (.iload_n 1, 1) := by decide +kernel
theorem dX5_isObject_5 : decode cX5_isObject 5 = .ok (.aload_n 0, 1) := by decide +kernel
theorem dX5_isObject_6 : decode cX5_isObject 6 = .ok (.getfield 46, 3) := by decide +kernel
theorem dX5_isObject_9 : decode cX5_isObject 9 = .ok (.if_icmp .ge 7, 3) := by decide +kernel
theorem dX5_isObject_12 : decode cX5_isObject 12 = .ok (.iconst 1, 1) := by decide +kernel
theorem dX5_isObject_13 : decode cX5_isObject 13 = .ok (.goto 4, 3) := by decide +kernel
theorem dX5_isObject_16 : decode cX5_isObject 16 = .ok (.iconst 0, 1) := by decide +kernel
theorem dX5_isObject_17 : decode cX5_isObject 17 = .ok (.ireturn, 1) := by decide +kernel
theorem dX5_isBehaviour_0 : decode cX5_isBehaviour 0 = .ok (.iload_n 0, 1) := by decide +kernel
theorem dX5_isBehaviour_1 : decode cX5_isBehaviour 1 = .ok (.ifCond .lt 13, 3) := by decide +kernel
theorem dX5_isBehaviour_4 : decode cX5_isBehaviour 4 = .ok (.iload_n 0, 1) := by decide +kernel
theorem dX5_isBehaviour_5 : decode cX5_isBehaviour 5 = .ok (.bipush 6, 2) := by decide +kernel
theorem dX5_isBehaviour_7 : decode cX5_isBehaviour 7 = .ok (.if_icmp .ge 7, 3) := by decide +kernel
theorem dX5_isBehaviour_10 : decode cX5_isBehaviour 10 = .ok (.iconst 1, 1) := by decide +kernel
theorem dX5_isBehaviour_11 : decode cX5_isBehaviour 11 = .ok (.goto 4, 3) := by decide +kernel
theorem dX5_isBehaviour_14 : decode cX5_isBehaviour 14 = .ok (.iconst 0, 1) := by decide +kernel
theorem dX5_isBehaviour_15 : decode cX5_isBehaviour 15 = .ok (.ireturn, 1) := by decide +kernel
theorem dX5_bitOf_0 : decode cX5_bitOf 0 = .ok (.iload_n 0, 1) := by decide +kernel
theorem dX5_bitOf_1 : decode cX5_bitOf 1 = .ok (.iload_n 1, 1) := by decide +kernel
theorem dX5_bitOf_2 : decode cX5_bitOf 2 = .ok (.ishr, 1) := by decide +kernel
theorem dX5_bitOf_3 : decode cX5_bitOf 3 = .ok (.iconst 1, 1) := by decide +kernel
theorem dX5_bitOf_4 : decode cX5_bitOf 4 = .ok (.iand, 1) := by decide +kernel
theorem dX5_bitOf_5 : decode cX5_bitOf 5 = .ok (.ireturn, 1) := by decide +kernel
set_option maxRecDepth 20000 in
theorem ggX5_sortAt_X5_isObject : GoodIn wsX5_sortAt wsX5_isObject := goodIn_r _ [6, 7, 15, 16, 17, 18, 19, 20, 21, 22, 23, 24, 25, 26, 27, 28] (by decide +kernel) (by decide +kernel)
set_option maxRecDepth 20000 in
theorem gX5_sortAt_X5_isObject : GoodIn wsX5_sortAt (wsV RX5 60 RX5 yX5_isObject wsX5_isObject) := goodIn_app (goodIn_of _ (by decide +kernel)) ggX5_sortAt_X5_isObject
set_option maxRecDepth 20000 in
theorem ggX5_sortAt_X2_sortOf : GoodIn wsX5_sortAt wsX2_sortOf := goodIn_r _ [12, 13, 14, 29, 30, 31, 32, 33] (by decide +kernel) (by decide +kernel)
set_option maxRecDepth 20000 in
theorem gX5_sortAt_X2_sortOf : GoodIn wsX5_sortAt (wsV RX5 199 RX2 yX2_sortOf wsX2_sortOf) := goodIn_app (goodIn_of _ (by decide +kernel)) ggX5_sortAt_X2_sortOf
theorem dX5_sortAt_0 : decode cX5_sortAt 0 = .ok (.aload_n 0, 1) := by decide +kernel
theorem dX5_sortAt_1 : decode cX5_sortAt 1 = .ok (.iload_n 1, 1) := by decide +kernel
theorem dX5_sortAt_2 : decode cX5_sortAt 2 = .ok (.invokevirtual 60, 3) := by decide +kernel
theorem dX5_sortAt_5 : decode cX5_sortAt 5 = .ok (.ifCond .eq 16, 3) := by decide +kernel
theorem dX5_sortAt_8 : decode cX5_sortAt 8 = .ok (.aload_n 0, 1) := by decide +kernel
theorem dX5_sortAt_9 : decode cX5_sortAt 9 = .ok (.getfield 11, 3) := by decide +kernel
theorem dX5_sortAt_12 : decode cX5_sortAt 12 = .ok (.iload_n 1, 1) := by decide +kernel
theorem dX5_sortAt_13 : decode cX5_sortAt 13 = .ok (.aaload, 1) := by decide +kernel
theorem dX5_sortAt_14 : decode cX5_sortAt 14 = .ok (.iload_n 2, 1) := by decide +kernel
theorem dX5_sortAt_15 : decode cX5_sortAt 15 = .ok (.invokevirtual 199, 3) := by decide +kernel
theorem dX5_sortAt_18 : decode cX5_sortAt 18 = .ok (.goto 4, 3) := by decide +kernel
theorem dX5_sortAt_21 : decode cX5_sortAt 21 = .ok (.iconst 0, 1) := by decide +kernel
theorem dX5_sortAt_22 : decode cX5_sortAt 22 = .ok (.ireturn, 1) := by decide +kernel
set_option maxRecDepth 20000 in
theorem ggX5_callRefusal_X5_isObject : GoodIn wsX5_callRefusal wsX5_isObject := goodIn_r _ [6, 7, 11, 12, 13, 14, 15, 16, 17, 18, 19, 20, 21, 22, 23, 24] (by decide +kernel) (by decide +kernel)
set_option maxRecDepth 20000 in
theorem gX5_callRefusal_X5_isObject : GoodIn wsX5_callRefusal (wsV RX5 60 RX5 yX5_isObject wsX5_isObject) := goodIn_app (goodIn_of _ (by decide +kernel)) ggX5_callRefusal_X5_isObject
set_option maxRecDepth 20000 in
theorem ggX5_callRefusal_X5_isBehaviour : GoodIn wsX5_callRefusal wsX5_isBehaviour := goodIn_r _ [10] (by decide +kernel) (by decide +kernel)
set_option maxRecDepth 20000 in
theorem gX5_callRefusal_X5_isBehaviour : GoodIn wsX5_callRefusal (va_wsS RX5 82 yX5_isBehaviour wsX5_isBehaviour) := goodIn_app (goodIn_of _ (by decide +kernel)) ggX5_callRefusal_X5_isBehaviour
theorem dX5_callRefusal_0 : decode cX5_callRefusal 0 = .ok (.aload_n 0, 1) := by decide +kernel
theorem dX5_callRefusal_1 : decode cX5_callRefusal 1 = .ok (.iload_n 1, 1) := by decide +kernel
theorem dX5_callRefusal_2 : decode cX5_callRefusal 2 = .ok (.invokevirtual 60, 3) := by decide +kernel
theorem dX5_callRefusal_5 : decode cX5_callRefusal 5 = .ok (.ifCond .eq 10, 3) := by decide +kernel
theorem dX5_callRefusal_8 : decode cX5_callRefusal 8 = .ok (.iload_n 2, 1) := by decide +kernel
theorem dX5_callRefusal_9 : decode cX5_callRefusal 9 = .ok (.invokestatic 82, 3) := by decide +kernel
theorem dX5_callRefusal_12 : decode cX5_callRefusal 12 = .ok (.ifCond .ne 5, 3) := by decide +kernel
theorem dX5_callRefusal_15 : decode cX5_callRefusal 15 = .ok (.iconst (-1), 1) := by decide +kernel
theorem dX5_callRefusal_16 : decode cX5_callRefusal 16 = .ok (.ireturn, 1) := by decide +kernel
theorem dX5_callRefusal_17 : decode cX5_callRefusal 17 = .ok (.aload_n 0, 1) := by decide +kernel
theorem dX5_callRefusal_18 : decode cX5_callRefusal 18 = .ok (.getfield 68, 3) := by decide +kernel
theorem dX5_callRefusal_21 : decode cX5_callRefusal 21 = .ok (.bipush 40, 2) := by decide +kernel
theorem dX5_callRefusal_23 : decode cX5_callRefusal 23 = .ok (.if_icmp .lt 8, 3) := by decide +kernel
theorem dX5_callRefusal_26 : decode cX5_callRefusal 26 = .ok (.bipush (-2), 2) := by decide +kernel
theorem dX5_callRefusal_28 : decode cX5_callRefusal 28 = .ok (.goto 4, 3) := by decide +kernel
theorem dX5_callRefusal_31 : decode cX5_callRefusal 31 = .ok (.iconst 0, 1) := by decide +kernel
theorem dX5_callRefusal_32 : decode cX5_callRefusal 32 = .ok (.ireturn, 1) := by decide +kernel
set_option maxRecDepth 20000 in
theorem ggX5_changeCell_X5_raiseHeight : GoodIn wsX5_changeCell wsX5_raiseHeight := goodIn_r _ [8, 3, 9, 41, 42, 43, 44, 45, 46, 47, 48, 49, 50, 51, 52, 53, 54] (by decide +kernel) (by decide +kernel)
set_option maxRecDepth 20000 in
theorem gX5_changeCell_X5_raiseHeight : GoodIn wsX5_changeCell (wsV RX5 71 RX5 yX5_raiseHeight wsX5_raiseHeight) := goodIn_app (goodIn_of _ (by decide +kernel)) ggX5_changeCell_X5_raiseHeight
set_option maxRecDepth 20000 in
theorem ggX5_changeCell_X5_newVersion : GoodIn wsX5_changeCell wsX5_newVersion := goodIn_r _ [13, 14, 15, 16, 17, 3, 18, 1, 19, 20, 21, 22, 23, 24, 25, 26, 27, 28, 29, 30, 31, 32, 33, 34, 35, 36, 37, 38, 39, 40, 55, 56, 57, 58, 59, 41, 42, 43, 44, 45, 46, 47, 48, 49, 50, 51, 52, 53, 54] (by decide +kernel) (by decide +kernel)
set_option maxRecDepth 20000 in
theorem gX5_changeCell_X5_newVersion : GoodIn wsX5_changeCell (wsV RX5 74 RX5 yX5_newVersion wsX5_newVersion) := goodIn_app (goodIn_of _ (by decide +kernel)) ggX5_changeCell_X5_newVersion
theorem dX5_changeCell_0 : decode cX5_changeCell 0 = .ok (.aload_n 0, 1) := by decide +kernel
theorem dX5_changeCell_1 : decode cX5_changeCell 1 = .ok (.getfield 11, 3) := by decide +kernel
theorem dX5_changeCell_4 : decode cX5_changeCell 4 = .ok (.iload_n 1, 1) := by decide +kernel
theorem dX5_changeCell_5 : decode cX5_changeCell 5 = .ok (.aaload, 1) := by decide +kernel
theorem dX5_changeCell_6 : decode cX5_changeCell 6 = .ok (.getfield 179, 3) := by decide +kernel
theorem dX5_changeCell_9 : decode cX5_changeCell 9 = .ok (.iload_n 2, 1) := by decide +kernel
theorem dX5_changeCell_10 : decode cX5_changeCell 10 = .ok (.laload, 1) := by decide +kernel
theorem dX5_changeCell_11 : decode cX5_changeCell 11 = .ok (.lload_n 3, 1) := by decide +kernel
theorem dX5_changeCell_12 : decode cX5_changeCell 12 = .ok (.lcmp, 1) := by decide +kernel
theorem dX5_changeCell_13 : decode cX5_changeCell 13 = .ok (.ifCond .ne 8, 3) := by decide +kernel
theorem dX5_changeCell_16 : decode cX5_changeCell 16 = .ok (.aload_n 0, 1) := by decide +kernel
theorem dX5_changeCell_17 : decode cX5_changeCell 17 = .ok (.getfield 68, 3) := by decide +kernel
theorem dX5_changeCell_20 : decode cX5_changeCell 20 = .ok (.ireturn, 1) := by decide +kernel
theorem dX5_changeCell_21 : decode cX5_changeCell 21 = .ok (.aload_n 0, 1) := by decide +kernel
theorem dX5_changeCell_22 : decode cX5_changeCell 22 = .ok (.getfield 68, 3) := by decide +kernel
theorem dX5_changeCell_25 : decode cX5_changeCell 25 = .ok (.bipush 40, 2) := by decide +kernel
theorem dX5_changeCell_27 : decode cX5_changeCell 27 = .ok (.if_icmp .lt 6, 3) := by decide +kernel
theorem dX5_changeCell_30 : decode cX5_changeCell 30 = .ok (.bipush (-2), 2) := by decide +kernel
theorem dX5_changeCell_32 : decode cX5_changeCell 32 = .ok (.ireturn, 1) := by decide +kernel
theorem dX5_changeCell_33 : decode cX5_changeCell 33 = .ok (.aload_n 0, 1) := by decide +kernel
theorem dX5_changeCell_34 : decode cX5_changeCell 34 = .ok (.invokevirtual 71, 3) := by decide +kernel
theorem dX5_changeCell_37 : decode cX5_changeCell 37 = .ok (.aload_n 0, 1) := by decide +kernel
theorem dX5_changeCell_38 : decode cX5_changeCell 38 = .ok (.iload_n 1, 1) := by decide +kernel
theorem dX5_changeCell_39 : decode cX5_changeCell 39 = .ok (.aload_n 0, 1) := by decide +kernel
theorem dX5_changeCell_40 : decode cX5_changeCell 40 = .ok (.getfield 11, 3) := by decide +kernel
theorem dX5_changeCell_43 : decode cX5_changeCell 43 = .ok (.iload_n 1, 1) := by decide +kernel
theorem dX5_changeCell_44 : decode cX5_changeCell 44 = .ok (.aaload, 1) := by decide +kernel
theorem dX5_changeCell_45 : decode cX5_changeCell 45 = .ok (.invokevirtual 74, 3) := by decide +kernel
theorem dX5_changeCell_48 : decode cX5_changeCell 48 = .ok (.getfield 179, 3) := by decide +kernel
theorem dX5_changeCell_51 : decode cX5_changeCell 51 = .ok (.iload_n 2, 1) := by decide +kernel
theorem dX5_changeCell_52 : decode cX5_changeCell 52 = .ok (.lload_n 3, 1) := by decide +kernel
theorem dX5_changeCell_53 : decode cX5_changeCell 53 = .ok (.lastore, 1) := by decide +kernel
theorem dX5_changeCell_54 : decode cX5_changeCell 54 = .ok (.aload_n 0, 1) := by decide +kernel
theorem dX5_changeCell_55 : decode cX5_changeCell 55 = .ok (.getfield 68, 3) := by decide +kernel
theorem dX5_changeCell_58 : decode cX5_changeCell 58 = .ok (.ireturn, 1) := by decide +kernel
theorem dX5_raiseHeight_0 : decode cX5_raiseHeight 0 = .ok (.aload_n 0, 1) := by decide +kernel
theorem dX5_raiseHeight_1 : decode cX5_raiseHeight 1 = .ok (.dup, 1) := by decide +kernel
theorem dX5_raiseHeight_2 : decode cX5_raiseHeight 2 = .ok (.getfield 68, 3) := by decide +kernel
theorem dX5_raiseHeight_5 : decode cX5_raiseHeight 5 = .ok (.iconst 1, 1) := by decide +kernel
theorem dX5_raiseHeight_6 : decode cX5_raiseHeight 6 = .ok (.iadd, 1) := by decide +kernel
theorem dX5_raiseHeight_7 : decode cX5_raiseHeight 7 = .ok (.putfield 68, 3) := by decide +kernel
theorem dX5_raiseHeight_10 : decode cX5_raiseHeight 10 = .ok (.aload_n 0, 1) := by decide +kernel
theorem dX5_raiseHeight_11 : decode cX5_raiseHeight 11 = .ok (.iconst 0, 1) := by decide +kernel
theorem dX5_raiseHeight_12 : decode cX5_raiseHeight 12 = .ok (.putfield 122, 3) := by decide +kernel
theorem dX5_raiseHeight_15 : decode cX5_raiseHeight 15 = .ok (.return_, 1) := by decide +kernel
set_option maxRecDepth 20000 in
theorem ggX5_newVersion_X2_init : GoodIn wsX5_newVersion wsX2_init := goodIn_r _ [11, 12, 13, 14, 15, 16, 17, 18, 19, 20, 21, 30, 31, 32, 33, 34] (by decide +kernel) (by decide +kernel)
set_option maxRecDepth 20000 in
theorem gX5_newVersion_X2_init : GoodIn wsX5_newVersion (wsX2_init) := ggX5_newVersion_X2_init
set_option maxRecDepth 20000 in
theorem ggX5_newVersion_X2_copyFrom : GoodIn wsX5_newVersion wsX2_copyFrom := goodIn_r _ [25, 16, 26, 27, 28, 29, 18, 30, 31, 32, 33, 34] (by decide +kernel) (by decide +kernel)
set_option maxRecDepth 20000 in
theorem gX5_newVersion_X2_copyFrom : GoodIn wsX5_newVersion (wsV RX5 205 RX2 yX2_copyFrom wsX2_copyFrom) := goodIn_app (goodIn_of _ (by decide +kernel)) ggX5_newVersion_X2_copyFrom
theorem dX5_newVersion_0 : decode cX5_newVersion 0 = .ok (.new 9, 3) := by decide +kernel
theorem dX5_newVersion_3 : decode cX5_newVersion 3 = .ok (.dup, 1) := by decide +kernel
theorem dX5_newVersion_4 : decode cX5_newVersion 4 = .ok (.aload_n 2, 1) := by decide +kernel
theorem dX5_newVersion_5 : decode cX5_newVersion 5 = .ok (.getfield 202, 3) := by decide +kernel
theorem dX5_newVersion_8 : decode cX5_newVersion 8 = .ok (.invokespecial 49, 3) := by decide +kernel
theorem dX5_newVersion_11 : decode cX5_newVersion 11 = .ok (.astore_n 3, 1) := by decide +kernel
theorem dX5_newVersion_12 : decode cX5_newVersion 12 = .ok (.aload_n 3, 1) := by decide +kernel
theorem dX5_newVersion_13 : decode cX5_newVersion 13 = .ok (.aload_n 2, 1) := by decide +kernel
theorem dX5_newVersion_14 : decode cX5_newVersion 14 = .ok (.invokevirtual 205, 3) := by decide +kernel
theorem dX5_newVersion_17 : decode cX5_newVersion 17 = .ok (.aload_n 3, 1) := by decide +kernel
theorem dX5_newVersion_18 : decode cX5_newVersion 18 = .ok (.aload_n 0, 1) := by decide +kernel
theorem dX5_newVersion_19 : decode cX5_newVersion 19 = .ok (.getfield 68, 3) := by decide +kernel
theorem dX5_newVersion_22 : decode cX5_newVersion 22 = .ok (.putfield 209, 3) := by decide +kernel
theorem dX5_newVersion_25 : decode cX5_newVersion 25 = .ok (.aload_n 3, 1) := by decide +kernel
theorem dX5_newVersion_26 : decode cX5_newVersion 26 = .ok (.aload_n 0, 1) := by decide +kernel
theorem dX5_newVersion_27 : decode cX5_newVersion 27 = .ok (.getfield 11, 3) := by decide +kernel
theorem dX5_newVersion_30 : decode cX5_newVersion 30 = .ok (.iload_n 1, 1) := by decide +kernel
theorem dX5_newVersion_31 : decode cX5_newVersion 31 = .ok (.aaload, 1) := by decide +kernel
theorem dX5_newVersion_32 : decode cX5_newVersion 32 = .ok (.putfield 212, 3) := by decide +kernel
theorem dX5_newVersion_35 : decode cX5_newVersion 35 = .ok (.aload_n 0, 1) := by decide +kernel
theorem dX5_newVersion_36 : decode cX5_newVersion 36 = .ok (.getfield 11, 3) := by decide +kernel
theorem dX5_newVersion_39 : decode cX5_newVersion 39 = .ok (.iload_n 1, 1) := by decide +kernel
theorem dX5_newVersion_40 : decode cX5_newVersion 40 = .ok (.aload_n 3, 1) := by decide +kernel
theorem dX5_newVersion_41 : decode cX5_newVersion 41 = .ok (.aastore, 1) := by decide +kernel
theorem dX5_newVersion_42 : decode cX5_newVersion 42 = .ok (.aload_n 3, 1) := by decide +kernel
theorem dX5_newVersion_43 : decode cX5_newVersion 43 = .ok (.areturn, 1) := by decide +kernel
set_option maxRecDepth 20000 in
theorem ggX5_keepChanges_X5_bitOf : GoodIn wsX5_keepChanges wsX5_bitOf := goodIn_r _ [8] (by decide +kernel) (by decide +kernel)
set_option maxRecDepth 20000 in
theorem gX5_keepChanges_X5_bitOf : GoodIn wsX5_keepChanges (va_wsS RX5 159 yX5_bitOf wsX5_bitOf) := goodIn_app (goodIn_of _ (by decide +kernel)) ggX5_keepChanges_X5_bitOf
set_option maxRecDepth 20000 in
theorem ggX5_keepChanges_X5_noteWritten : GoodIn wsX5_keepChanges wsX5_noteWritten := goodIn_r _ [12, 13, 3, 14, 2, 15, 16, 17, 18, 19, 20, 21, 22, 23, 6, 7, 8, 24, 25, 26, 27, 28, 29, 30, 31, 32, 33, 34, 35, 36, 37, 38, 39, 40, 41, 42, 43, 76, 77, 78, 79, 80, 81, 82, 83, 84, 85, 86, 87, 88, 89, 90, 91, 92, 93, 94, 95, 96, 97, 98, 99, 100, 101, 102, 103, 104, 105] (by decide +kernel) (by decide +kernel)
set_option maxRecDepth 20000 in
theorem gX5_keepChanges_X5_noteWritten : GoodIn wsX5_keepChanges (wsV RX5 216 RX5 yX5_noteWritten wsX5_noteWritten) := goodIn_app (goodIn_of _ (by decide +kernel)) ggX5_keepChanges_X5_noteWritten
set_option maxRecDepth 20000 in
theorem ggX5_keepChanges_X5_raiseHeight : GoodIn wsX5_keepChanges wsX5_raiseHeight := goodIn_r _ [47, 48, 49, 76, 77, 78, 79, 80, 81, 82, 83, 84, 85, 86, 87, 88, 89] (by decide +kernel) (by decide +kernel)
set_option maxRecDepth 20000 in
theorem gX5_keepChanges_X5_raiseHeight : GoodIn wsX5_keepChanges (wsV RX5 71 RX5 yX5_raiseHeight wsX5_raiseHeight) := goodIn_app (goodIn_of _ (by decide +kernel)) ggX5_keepChanges_X5_raiseHeight
set_option maxRecDepth 20000 in
theorem ggX5_keepChanges_X3_bodyOf : GoodIn wsX5_keepChanges wsX3_bodyOf := goodIn_r _ [20, 21, 22, 23, 6, 7, 8, 90, 91, 92, 93, 94, 95, 96, 97, 98, 99, 100] (by decide +kernel) (by decide +kernel)
set_option maxRecDepth 20000 in
theorem gX5_keepChanges_X3_bodyOf : GoodIn wsX5_keepChanges (wsV RX5 219 RX3 yX3_bodyOf wsX3_bodyOf) := goodIn_app (goodIn_of _ (by decide +kernel)) ggX5_keepChanges_X3_bodyOf
set_option maxRecDepth 20000 in
theorem ggX5_keepChanges_X5_newVersion : GoodIn wsX5_keepChanges wsX5_newVersion := goodIn_r _ [53, 54, 55, 27, 56, 48, 57, 13, 58, 59, 60, 61, 62, 63, 64, 65, 29, 66, 40, 35, 34, 67, 68, 69, 70, 71, 72, 73, 74, 75, 101, 102, 103, 104, 105, 76, 77, 78, 79, 80, 81, 82, 83, 84, 85, 86, 87, 88, 89] (by decide +kernel) (by decide +kernel)
set_option maxRecDepth 20000 in
theorem gX5_keepChanges_X5_newVersion : GoodIn wsX5_keepChanges (wsV RX5 74 RX5 yX5_newVersion wsX5_newVersion) := goodIn_app (goodIn_of _ (by decide +kernel)) ggX5_keepChanges_X5_newVersion
theorem dX5_keepChanges_0 : decode cX5_keepChanges 0 = .ok (.iconst 0, 1) := by decide +kernel
theorem dX5_keepChanges_1 : decode cX5_keepChanges 1 = .ok (.istore_n 1, 1) := by decide +kernel
theorem dX5_keepChanges_2 : decode cX5_keepChanges 2 = .ok (.iload_n 1, 1) := by decide +kernel
theorem dX5_keepChanges_3 : decode cX5_keepChanges 3 = .ok (.aload_n 0, 1) := by decide +kernel
theorem dX5_keepChanges_4 : decode cX5_keepChanges 4 = .ok (.getfield 46, 3) := by decide +kernel
theorem dX5_keepChanges_7 : decode cX5_keepChanges 7 = .ok (.if_icmp .ge 64, 3) := by decide +kernel
theorem dX5_keepChanges_10 : decode cX5_keepChanges 10 = .ok (.aload_n 0, 1) := by decide +kernel
theorem dX5_keepChanges_11 : decode cX5_keepChanges 11 = .ok (.getfield 131, 3) := by decide +kernel
theorem dX5_keepChanges_14 : decode cX5_keepChanges 14 = .ok (.istore_n 2, 1) := by decide +kernel
theorem dX5_keepChanges_15 : decode cX5_keepChanges 15 = .ok (.aload_n 0, 1) := by decide +kernel
theorem dX5_keepChanges_16 : decode cX5_keepChanges 16 = .ok (.getfield 24, 3) := by decide +kernel
theorem dX5_keepChanges_19 : decode cX5_keepChanges 19 = .ok (.getfield 119, 3) := by decide +kernel
theorem dX5_keepChanges_22 : decode cX5_keepChanges 22 = .ok (.iload_n 1, 1) := by decide +kernel
theorem dX5_keepChanges_23 : decode cX5_keepChanges 23 = .ok (.invokestatic 159, 3) := by decide +kernel
theorem dX5_keepChanges_26 : decode cX5_keepChanges 26 = .ok (.iconst 1, 1) := by decide +kernel
theorem dX5_keepChanges_27 : decode cX5_keepChanges 27 = .ok (.if_icmp .ne 8, 3) := by decide +kernel
theorem dX5_keepChanges_30 : decode cX5_keepChanges 30 = .ok (.aload_n 0, 1) := by decide +kernel
theorem dX5_keepChanges_31 : decode cX5_keepChanges 31 = .ok (.iload_n 1, 1) := by decide +kernel
theorem dX5_keepChanges_32 : decode cX5_keepChanges 32 = .ok (.invokevirtual 216, 3) := by decide +kernel
theorem dX5_keepChanges_35 : decode cX5_keepChanges 35 = .ok (.aload_n 0, 1) := by decide +kernel
theorem dX5_keepChanges_36 : decode cX5_keepChanges 36 = .ok (.getfield 131, 3) := by decide +kernel
theorem dX5_keepChanges_39 : decode cX5_keepChanges 39 = .ok (.iload_n 2, 1) := by decide +kernel
theorem dX5_keepChanges_40 : decode cX5_keepChanges 40 = .ok (.if_icmp .le 25, 3) := by decide +kernel
theorem dX5_keepChanges_43 : decode cX5_keepChanges 43 = .ok (.iload_n 2, 1) := by decide +kernel
theorem dX5_keepChanges_44 : decode cX5_keepChanges 44 = .ok (.ifCond .ne 7, 3) := by decide +kernel
theorem dX5_keepChanges_47 : decode cX5_keepChanges 47 = .ok (.aload_n 0, 1) := by decide +kernel
theorem dX5_keepChanges_48 : decode cX5_keepChanges 48 = .ok (.invokevirtual 71, 3) := by decide +kernel
theorem dX5_keepChanges_51 : decode cX5_keepChanges 51 = .ok (.aload_n 0, 1) := by decide +kernel
theorem dX5_keepChanges_52 : decode cX5_keepChanges 52 = .ok (.iload_n 1, 1) := by decide +kernel
theorem dX5_keepChanges_53 : decode cX5_keepChanges 53 = .ok (.aload_n 0, 1) := by decide +kernel
theorem dX5_keepChanges_54 : decode cX5_keepChanges 54 = .ok (.getfield 24, 3) := by decide +kernel
theorem dX5_keepChanges_57 : decode cX5_keepChanges 57 = .ok (.iload_n 1, 1) := by decide +kernel
theorem dX5_keepChanges_58 : decode cX5_keepChanges 58 = .ok (.invokevirtual 219, 3) := by decide +kernel
theorem dX5_keepChanges_61 : decode cX5_keepChanges 61 = .ok (.invokevirtual 74, 3) := by decide +kernel
theorem dX5_keepChanges_64 : decode cX5_keepChanges 64 = .ok (.pop, 1) := by decide +kernel
theorem dX5_keepChanges_65 : decode cX5_keepChanges 65 = .ok (.iinc 1 1, 3) := by decide +kernel
theorem dX5_keepChanges_68 : decode cX5_keepChanges 68 = .ok (.goto (-66), 3) := by decide +kernel
theorem dX5_keepChanges_71 : decode cX5_keepChanges 71 = .ok (.return_, 1) := by decide +kernel
set_option maxRecDepth 20000 in
theorem ggX5_noteWritten_X3_bodyOf : GoodIn wsX5_noteWritten wsX3_bodyOf := goodIn_r _ [10, 11, 12, 13, 14, 15, 16, 51, 52, 53, 54, 55, 56, 57, 58, 59, 60, 61] (by decide +kernel) (by decide +kernel)
set_option maxRecDepth 20000 in
theorem gX5_noteWritten_X3_bodyOf : GoodIn wsX5_noteWritten (wsV RX5 219 RX3 yX3_bodyOf wsX3_bodyOf) := goodIn_app (goodIn_of _ (by decide +kernel)) ggX5_noteWritten_X3_bodyOf
set_option maxRecDepth 20000 in
theorem ggX5_noteWritten_X2_hasSameField : GoodIn wsX5_noteWritten wsX2_hasSameField := goodIn_r _ [21, 22, 23, 24, 25, 20, 26, 27, 28, 29, 30, 31, 32, 33, 34, 35, 36, 62, 63, 64, 65, 66] (by decide +kernel) (by decide +kernel)
set_option maxRecDepth 20000 in
theorem gX5_noteWritten_X2_hasSameField : GoodIn wsX5_noteWritten (wsV RX5 222 RX2 yX2_hasSameField wsX2_hasSameField) := goodIn_app (goodIn_of _ (by decide +kernel)) ggX5_noteWritten_X2_hasSameField
theorem dX5_noteWritten_0 : decode cX5_noteWritten 0 = .ok (.iconst 0, 1) := by decide +kernel
theorem dX5_noteWritten_1 : decode cX5_noteWritten 1 = .ok (.istore_n 2, 1) := by decide +kernel
theorem dX5_noteWritten_2 : decode cX5_noteWritten 2 = .ok (.iload_n 2, 1) := by decide +kernel
theorem dX5_noteWritten_3 : decode cX5_noteWritten 3 = .ok (.bipush 8, 2) := by decide +kernel
theorem dX5_noteWritten_5 : decode cX5_noteWritten 5 = .ok (.if_icmp .ge 67, 3) := by decide +kernel
theorem dX5_noteWritten_8 : decode cX5_noteWritten 8 = .ok (.aload_n 0, 1) := by decide +kernel
theorem dX5_noteWritten_9 : decode cX5_noteWritten 9 = .ok (.getfield 11, 3) := by decide +kernel
theorem dX5_noteWritten_12 : decode cX5_noteWritten 12 = .ok (.iload_n 1, 1) := by decide +kernel
theorem dX5_noteWritten_13 : decode cX5_noteWritten 13 = .ok (.aaload, 1) := by decide +kernel
theorem dX5_noteWritten_14 : decode cX5_noteWritten 14 = .ok (.aload_n 0, 1) := by decide +kernel
theorem dX5_noteWritten_15 : decode cX5_noteWritten 15 = .ok (.getfield 24, 3) := by decide +kernel
theorem dX5_noteWritten_18 : decode cX5_noteWritten 18 = .ok (.iload_n 1, 1) := by decide +kernel
theorem dX5_noteWritten_19 : decode cX5_noteWritten 19 = .ok (.invokevirtual 219, 3) := by decide +kernel
theorem dX5_noteWritten_22 : decode cX5_noteWritten 22 = .ok (.iload_n 2, 1) := by decide +kernel
theorem dX5_noteWritten_23 : decode cX5_noteWritten 23 = .ok (.invokevirtual 222, 3) := by decide +kernel
theorem dX5_noteWritten_26 : decode cX5_noteWritten 26 = .ok (.ifCond .ne 40, 3) := by decide +kernel
theorem dX5_noteWritten_29 : decode cX5_noteWritten 29 = .ok (.bipush 8, 2) := by decide +kernel
theorem dX5_noteWritten_31 : decode cX5_noteWritten 31 = .ok (.iload_n 1, 1) := by decide +kernel
theorem dX5_noteWritten_32 : decode cX5_noteWritten 32 = .ok (.imul, 1) := by decide +kernel
theorem dX5_noteWritten_33 : decode cX5_noteWritten 33 = .ok (.iload_n 2, 1) := by decide +kernel
theorem dX5_noteWritten_34 : decode cX5_noteWritten 34 = .ok (.iadd, 1) := by decide +kernel
theorem dX5_noteWritten_35 : decode cX5_noteWritten 35 = .ok (.istore_n 3, 1) := by decide +kernel
theorem dX5_noteWritten_36 : decode cX5_noteWritten 36 = .ok (.aload_n 0, 1) := by decide +kernel
theorem dX5_noteWritten_37 : decode cX5_noteWritten 37 = .ok (.getfield 34, 3) := by decide +kernel
theorem dX5_noteWritten_40 : decode cX5_noteWritten 40 = .ok (.aload_n 0, 1) := by decide +kernel
theorem dX5_noteWritten_41 : decode cX5_noteWritten 41 = .ok (.getfield 131, 3) := by decide +kernel
theorem dX5_noteWritten_44 : decode cX5_noteWritten 44 = .ok (.iload_n 3, 1) := by decide +kernel
theorem dX5_noteWritten_45 : decode cX5_noteWritten 45 = .ok (.iastore, 1) := by decide +kernel
theorem dX5_noteWritten_46 : decode cX5_noteWritten 46 = .ok (.aload_n 0, 1) := by decide +kernel
theorem dX5_noteWritten_47 : decode cX5_noteWritten 47 = .ok (.dup, 1) := by decide +kernel
theorem dX5_noteWritten_48 : decode cX5_noteWritten 48 = .ok (.getfield 131, 3) := by decide +kernel
theorem dX5_noteWritten_51 : decode cX5_noteWritten 51 = .ok (.iconst 1, 1) := by decide +kernel
theorem dX5_noteWritten_52 : decode cX5_noteWritten 52 = .ok (.iadd, 1) := by decide +kernel
theorem dX5_noteWritten_53 : decode cX5_noteWritten 53 = .ok (.putfield 131, 3) := by decide +kernel
theorem dX5_noteWritten_56 : decode cX5_noteWritten 56 = .ok (.aload_n 0, 1) := by decide +kernel
theorem dX5_noteWritten_57 : decode cX5_noteWritten 57 = .ok (.getfield 38, 3) := by decide +kernel
theorem dX5_noteWritten_60 : decode cX5_noteWritten 60 = .ok (.iload_n 3, 1) := by decide +kernel
theorem dX5_noteWritten_61 : decode cX5_noteWritten 61 = .ok (.dup2, 1) := by decide +kernel
theorem dX5_noteWritten_62 : decode cX5_noteWritten 62 = .ok (.iaload, 1) := by decide +kernel
theorem dX5_noteWritten_63 : decode cX5_noteWritten 63 = .ok (.iconst 1, 1) := by decide +kernel
theorem dX5_noteWritten_64 : decode cX5_noteWritten 64 = .ok (.iadd, 1) := by decide +kernel
theorem dX5_noteWritten_65 : decode cX5_noteWritten 65 = .ok (.iastore, 1) := by decide +kernel
theorem dX5_noteWritten_66 : decode cX5_noteWritten 66 = .ok (.iinc 2 1, 3) := by decide +kernel
theorem dX5_noteWritten_69 : decode cX5_noteWritten 69 = .ok (.goto (-67), 3) := by decide +kernel
theorem dX5_noteWritten_72 : decode cX5_noteWritten 72 = .ok (.return_, 1) := by decide +kernel
theorem dX6_init_0 : decode cX6_init 0 = .ok (.aload_n 0, 1) := by decide +kernel
theorem dX6_init_1 : decode cX6_init 1 = .ok (.invokespecial 1, 3) := by decide +kernel
theorem dX6_init_4 : decode cX6_init 4 = .ok (.aload_n 0, 1) := by decide +kernel
theorem dX6_init_5 : decode cX6_init 5 = .ok (.bipush 24, 2) := by decide +kernel
theorem dX6_init_7 : decode cX6_init 7 = .ok (.newarray .int, 2) := by decide +kernel
end
section
theorem dX6_init_9 : decode cX6_init 9 = .ok (.putfield 7, 3) := by decide +kernel
theorem dX6_init_12 : decode cX6_init 12 = .ok (.aload_n 0, 1) := by decide +kernel
theorem dX6_init_13 : decode cX6_init 13 = .ok (.sipush 8064, 3) := by decide +kernel
theorem dX6_init_16 : decode cX6_init 16 = .ok (.newarray .long, 2) := by decide +kernel
theorem dX6_init_18 : decode cX6_init 18 = .ok (.putfield 13, 3) := by decide +kernel
theorem dX6_init_21 : decode cX6_init 21 = .ok (.aload_n 0, 1) := by decide +kernel
theorem dX6_init_22 : decode cX6_init 22 = .ok (.sipush 8064, 3) := by decide +kernel
theorem dX6_init_25 : decode cX6_init 25 = .ok (.newarray .int, 2) := by decide +kernel
theorem dX6_init_27 : decode cX6_init 27 = .ok (.putfield 17, 3) := by decide +kernel
theorem dX6_init_30 : decode cX6_init 30 = .ok (.aload_n 0, 1) := by decide +kernel
theorem dX6_init_31 : decode cX6_init 31 = .ok (.ldc 20, 2) := by decide +kernel
theorem dX6_init_33 : decode cX6_init 33 = .ok (.newarray .int, 2) := by decide +kernel
theorem dX6_init_35 : decode cX6_init 35 = .ok (.putfield 21, 3) := by decide +kernel
theorem dX6_init_38 : decode cX6_init 38 = .ok (.aload_n 0, 1) := by decide +kernel
theorem dX6_init_39 : decode cX6_init 39 = .ok (.bipush 24, 2) := by decide +kernel
theorem dX6_init_41 : decode cX6_init 41 = .ok (.newarray .boolean, 2) := by decide +kernel
theorem dX6_init_43 : decode cX6_init 43 = .ok (.putfield 24, 3) := by decide +kernel
theorem dX6_init_46 : decode cX6_init 46 = .ok (.aload_n 0, 1) := by decide +kernel
theorem dX6_init_47 : decode cX6_init 47 = .ok (.sipush 192, 3) := by decide +kernel
theorem dX6_init_50 : decode cX6_init 50 = .ok (.newarray .int, 2) := by decide +kernel
theorem dX6_init_52 : decode cX6_init 52 = .ok (.putfield 28, 3) := by decide +kernel
theorem dX6_init_55 : decode cX6_init 55 = .ok (.aload_n 0, 1) := by decide +kernel
theorem dX6_init_56 : decode cX6_init 56 = .ok (.bipush 6, 2) := by decide +kernel
theorem dX6_init_58 : decode cX6_init 58 = .ok (.newarray .int, 2) := by decide +kernel
theorem dX6_init_60 : decode cX6_init 60 = .ok (.putfield 31, 3) := by decide +kernel
theorem dX6_init_63 : decode cX6_init 63 = .ok (.aload_n 0, 1) := by decide +kernel
theorem dX6_init_64 : decode cX6_init 64 = .ok (.sipush 192, 3) := by decide +kernel
theorem dX6_init_67 : decode cX6_init 67 = .ok (.newarray .int, 2) := by decide +kernel
theorem dX6_init_69 : decode cX6_init 69 = .ok (.putfield 34, 3) := by decide +kernel
theorem dX6_init_72 : decode cX6_init 72 = .ok (.aload_n 0, 1) := by decide +kernel
theorem dX6_init_73 : decode cX6_init 73 = .ok (.sipush 192, 3) := by decide +kernel
theorem dX6_init_76 : decode cX6_init 76 = .ok (.newarray .int, 2) := by decide +kernel
theorem dX6_init_78 : decode cX6_init 78 = .ok (.putfield 37, 3) := by decide +kernel
theorem dX6_init_81 : decode cX6_init 81 = .ok (.aload_n 0, 1) := by decide +kernel
theorem dX6_init_82 : decode cX6_init 82 = .ok (.sipush 192, 3) := by decide +kernel
theorem dX6_init_85 : decode cX6_init 85 = .ok (.newarray .long, 2) := by decide +kernel
theorem dX6_init_87 : decode cX6_init 87 = .ok (.putfield 40, 3) := by decide +kernel
theorem dX6_init_90 : decode cX6_init 90 = .ok (.aload_n 0, 1) := by decide +kernel
theorem dX6_init_91 : decode cX6_init 91 = .ok (.sipush 192, 3) := by decide +kernel
theorem dX6_init_94 : decode cX6_init 94 = .ok (.newarray .int, 2) := by decide +kernel
theorem dX6_init_96 : decode cX6_init 96 = .ok (.putfield 43, 3) := by decide +kernel
theorem dX6_init_99 : decode cX6_init 99 = .ok (.aload_n 0, 1) := by decide +kernel
theorem dX6_init_100 : decode cX6_init 100 = .ok (.sipush 192, 3) := by decide +kernel
theorem dX6_init_103 : decode cX6_init 103 = .ok (.newarray .int, 2) := by decide +kernel
theorem dX6_init_105 : decode cX6_init 105 = .ok (.putfield 46, 3) := by decide +kernel
theorem dX6_init_108 : decode cX6_init 108 = .ok (.aload_n 0, 1) := by decide +kernel
theorem dX6_init_109 : decode cX6_init 109 = .ok (.sipush 192, 3) := by decide +kernel
theorem dX6_init_112 : decode cX6_init 112 = .ok (.newarray .int, 2) := by decide +kernel
theorem dX6_init_114 : decode cX6_init 114 = .ok (.putfield 49, 3) := by decide +kernel
theorem dX6_init_117 : decode cX6_init 117 = .ok (.aload_n 0, 1) := by decide +kernel
theorem dX6_init_118 : decode cX6_init 118 = .ok (.bipush (-3), 2) := by decide +kernel
theorem dX6_init_120 : decode cX6_init 120 = .ok (.putfield 52, 3) := by decide +kernel
theorem dX6_init_123 : decode cX6_init 123 = .ok (.aload_n 0, 1) := by decide +kernel
theorem dX6_init_124 : decode cX6_init 124 = .ok (.sipush 400, 3) := by decide +kernel
theorem dX6_init_127 : decode cX6_init 127 = .ok (.newarray .int, 2) := by decide +kernel
theorem dX6_init_129 : decode cX6_init 129 = .ok (.putfield 56, 3) := by decide +kernel
theorem dX6_init_132 : decode cX6_init 132 = .ok (.aload_n 0, 1) := by decide +kernel
theorem dX6_init_133 : decode cX6_init 133 = .ok (.sipush 400, 3) := by decide +kernel
theorem dX6_init_136 : decode cX6_init 136 = .ok (.newarray .int, 2) := by decide +kernel
theorem dX6_init_138 : decode cX6_init 138 = .ok (.putfield 59, 3) := by decide +kernel
theorem dX6_init_141 : decode cX6_init 141 = .ok (.aload_n 0, 1) := by decide +kernel
theorem dX6_init_142 : decode cX6_init 142 = .ok (.sipush 192, 3) := by decide +kernel
theorem dX6_init_145 : decode cX6_init 145 = .ok (.newarray .int, 2) := by decide +kernel
theorem dX6_init_147 : decode cX6_init 147 = .ok (.putfield 62, 3) := by decide +kernel
theorem dX6_init_150 : decode cX6_init 150 = .ok (.aload_n 0, 1) := by decide +kernel
theorem dX6_init_151 : decode cX6_init 151 = .ok (.bipush 24, 2) := by decide +kernel
theorem dX6_init_153 : decode cX6_init 153 = .ok (.newarray .boolean, 2) := by decide +kernel
theorem dX6_init_155 : decode cX6_init 155 = .ok (.putfield 65, 3) := by decide +kernel
theorem dX6_init_158 : decode cX6_init 158 = .ok (.aload_n 0, 1) := by decide +kernel
theorem dX6_init_159 : decode cX6_init 159 = .ok (.iconst 4, 1) := by decide +kernel
theorem dX6_init_160 : decode cX6_init 160 = .ok (.newarray .int, 2) := by decide +kernel
theorem dX6_init_162 : decode cX6_init 162 = .ok (.putfield 68, 3) := by decide +kernel
theorem dX6_init_165 : decode cX6_init 165 = .ok (.aload_n 0, 1) := by decide +kernel
theorem dX6_init_166 : decode cX6_init 166 = .ok (.iconst 4, 1) := by decide +kernel
theorem dX6_init_167 : decode cX6_init 167 = .ok (.newarray .long, 2) := by decide +kernel
theorem dX6_init_169 : decode cX6_init 169 = .ok (.putfield 71, 3) := by decide +kernel
theorem dX6_init_172 : decode cX6_init 172 = .ok (.return_, 1) := by decide +kernel
theorem dX6_in_0 : decode cX6_in 0 = .ok (.lload_n 0, 1) := by decide +kernel
theorem dX6_in_1 : decode cX6_in 1 = .ok (.lload_n 2, 1) := by decide +kernel
theorem dX6_in_2 : decode cX6_in 2 = .ok (.lcmp, 1) := by decide +kernel
theorem dX6_in_3 : decode cX6_in 3 = .ok (.ifCond .lt 14, 3) := by decide +kernel
theorem dX6_in_6 : decode cX6_in 6 = .ok (.lload_n 0, 1) := by decide +kernel
theorem dX6_in_7 : decode cX6_in 7 = .ok (.lload 4, 2) := by decide +kernel
theorem dX6_in_9 : decode cX6_in 9 = .ok (.lcmp, 1) := by decide +kernel
theorem dX6_in_10 : decode cX6_in 10 = .ok (.ifCond .gt 7, 3) := by decide +kernel
theorem dX6_in_13 : decode cX6_in 13 = .ok (.iconst 1, 1) := by decide +kernel
theorem dX6_in_14 : decode cX6_in 14 = .ok (.goto 4, 3) := by decide +kernel
theorem dX6_in_17 : decode cX6_in 17 = .ok (.iconst 0, 1) := by decide +kernel
theorem dX6_in_18 : decode cX6_in 18 = .ok (.ireturn, 1) := by decide +kernel
set_option maxRecDepth 20000 in
theorem ggX6_isObject_X6_in : GoodIn wsX6_isObject wsX6_in := goodIn_r _ [5] (by decide +kernel) (by decide +kernel)
set_option maxRecDepth 20000 in
theorem gX6_isObject_X6_in : GoodIn wsX6_isObject (va_wsS RX6 77 yX6_in wsX6_in) := goodIn_app (goodIn_of _ (by decide +kernel)) ggX6_isObject_X6_in
theorem dX6_isObject_0 : decode cX6_isObject 0 = .ok (.iload_n 1, 1) := by decide +kernel
theorem dX6_isObject_1 : decode cX6_isObject 1 = .ok (.i2l, 1) := by decide +kernel
theorem dX6_isObject_2 : decode cX6_isObject 2 = .ok (.lconst 0, 1) := by decide +kernel
theorem dX6_isObject_3 : decode cX6_isObject 3 = .ok (.aload_n 0, 1) := by decide +kernel
theorem dX6_isObject_4 : decode cX6_isObject 4 = .ok (.getfield 74, 3) := by decide +kernel
theorem dX6_isObject_7 : decode cX6_isObject 7 = .ok (.iconst 1, 1) := by decide +kernel
theorem dX6_isObject_8 : decode cX6_isObject 8 = .ok (.isub, 1) := by decide +kernel
theorem dX6_isObject_9 : decode cX6_isObject 9 = .ok (.i2l, 1) := by decide +kernel
theorem dX6_isObject_10 : decode cX6_isObject 10 = .ok (.invokestatic 77, 3) := by decide +kernel
theorem dX6_isObject_13 : decode cX6_isObject 13 = .ok (.ireturn, 1) := by decide +kernel
theorem dX6_fieldsOf_0 : decode cX6_fieldsOf 0 = .ok (.iload_n 0, 1) := by decide +kernel
theorem dX6_fieldsOf_1 : decode cX6_fieldsOf 1 = .ok (.ifCond .ne 7, 3) := by decide +kernel
theorem dX6_fieldsOf_4 : decode cX6_fieldsOf 4 = .ok (.iconst 3, 1) := by decide +kernel
theorem dX6_fieldsOf_5 : decode cX6_fieldsOf 5 = .ok (.goto 14, 3) := by decide +kernel
theorem dX6_fieldsOf_8 : decode cX6_fieldsOf 8 = .ok (.iload_n 0, 1) := by decide +kernel
theorem dX6_fieldsOf_9 : decode cX6_fieldsOf 9 = .ok (.iconst 1, 1) := by decide +kernel
theorem dX6_fieldsOf_10 : decode cX6_fieldsOf 10 = .ok (.if_icmp .ne 8, 3) := by decide +kernel
theorem dX6_fieldsOf_13 : decode cX6_fieldsOf 13 = .ok (.bipush 6, 2) := by decide +kernel
theorem dX6_fieldsOf_15 : decode cX6_fieldsOf 15 = .ok (.goto 4, 3) := by decide +kernel
theorem dX6_fieldsOf_18 : decode cX6_fieldsOf 18 = .ok (.iconst 4, 1) := by decide +kernel
theorem dX6_fieldsOf_19 : decode cX6_fieldsOf 19 = .ok (.ireturn, 1) := by decide +kernel
theorem dX6_sortOf_0 : decode cX6_sortOf 0 = .ok (.iload_n 0, 1) := by decide +kernel
theorem dX6_sortOf_1 : decode cX6_sortOf 1 = .ok (.ifCond .ne 14, 3) := by decide +kernel
theorem dX6_sortOf_4 : decode cX6_sortOf 4 = .ok (.iload_n 1, 1) := by decide +kernel
theorem dX6_sortOf_5 : decode cX6_sortOf 5 = .ok (.iconst 2, 1) := by decide +kernel
theorem dX6_sortOf_6 : decode cX6_sortOf 6 = .ok (.if_icmp .ge 7, 3) := by decide +kernel
theorem dX6_sortOf_9 : decode cX6_sortOf 9 = .ok (.iconst 0, 1) := by decide +kernel
theorem dX6_sortOf_10 : decode cX6_sortOf 10 = .ok (.goto 4, 3) := by decide +kernel
theorem dX6_sortOf_13 : decode cX6_sortOf 13 = .ok (.iconst 1, 1) := by decide +kernel
theorem dX6_sortOf_14 : decode cX6_sortOf 14 = .ok (.ireturn, 1) := by decide +kernel
theorem dX6_sortOf_15 : decode cX6_sortOf 15 = .ok (.iload_n 0, 1) := by decide +kernel
theorem dX6_sortOf_16 : decode cX6_sortOf 16 = .ok (.iconst 1, 1) := by decide +kernel
theorem dX6_sortOf_17 : decode cX6_sortOf 17 = .ok (.if_icmp .ne 23, 3) := by decide +kernel
theorem dX6_sortOf_20 : decode cX6_sortOf 20 = .ok (.iload_n 1, 1) := by decide +kernel
theorem dX6_sortOf_21 : decode cX6_sortOf 21 = .ok (.iconst 3, 1) := by decide +kernel
theorem dX6_sortOf_22 : decode cX6_sortOf 22 = .ok (.if_icmp .ge 7, 3) := by decide +kernel
theorem dX6_sortOf_25 : decode cX6_sortOf 25 = .ok (.iconst 0, 1) := by decide +kernel
theorem dX6_sortOf_26 : decode cX6_sortOf 26 = .ok (.goto 13, 3) := by decide +kernel
theorem dX6_sortOf_29 : decode cX6_sortOf 29 = .ok (.iload_n 1, 1) := by decide +kernel
theorem dX6_sortOf_30 : decode cX6_sortOf 30 = .ok (.iconst 5, 1) := by decide +kernel
theorem dX6_sortOf_31 : decode cX6_sortOf 31 = .ok (.if_icmp .ge 7, 3) := by decide +kernel
theorem dX6_sortOf_34 : decode cX6_sortOf 34 = .ok (.iconst 1, 1) := by decide +kernel
theorem dX6_sortOf_35 : decode cX6_sortOf 35 = .ok (.goto 4, 3) := by decide +kernel
theorem dX6_sortOf_38 : decode cX6_sortOf 38 = .ok (.iconst 2, 1) := by decide +kernel
theorem dX6_sortOf_39 : decode cX6_sortOf 39 = .ok (.ireturn, 1) := by decide +kernel
theorem dX6_sortOf_40 : decode cX6_sortOf 40 = .ok (.iload_n 1, 1) := by decide +kernel
theorem dX6_sortOf_41 : decode cX6_sortOf 41 = .ok (.ifCond .ne 7, 3) := by decide +kernel
theorem dX6_sortOf_44 : decode cX6_sortOf 44 = .ok (.iconst 0, 1) := by decide +kernel
theorem dX6_sortOf_45 : decode cX6_sortOf 45 = .ok (.goto 13, 3) := by decide +kernel
theorem dX6_sortOf_48 : decode cX6_sortOf 48 = .ok (.iload_n 1, 1) := by decide +kernel
theorem dX6_sortOf_49 : decode cX6_sortOf 49 = .ok (.iconst 3, 1) := by decide +kernel
theorem dX6_sortOf_50 : decode cX6_sortOf 50 = .ok (.if_icmp .ge 7, 3) := by decide +kernel
theorem dX6_sortOf_53 : decode cX6_sortOf 53 = .ok (.iconst 2, 1) := by decide +kernel
theorem dX6_sortOf_54 : decode cX6_sortOf 54 = .ok (.goto 4, 3) := by decide +kernel
theorem dX6_sortOf_57 : decode cX6_sortOf 57 = .ok (.iconst 1, 1) := by decide +kernel
theorem dX6_sortOf_58 : decode cX6_sortOf 58 = .ok (.ireturn, 1) := by decide +kernel
set_option maxRecDepth 20000 in
theorem ggX6_has_X6_isObject : GoodIn wsX6_has wsX6_isObject := goodIn_r _ [6, 7, 8, 9, 5, 10, 17, 18, 19, 20, 21, 22, 23, 24, 25, 26, 27, 28, 29, 30, 31, 32, 33, 34, 35, 36, 37, 38, 39, 40, 41, 42, 43, 44, 45, 46] (by decide +kernel) (by decide +kernel)
set_option maxRecDepth 20000 in
theorem gX6_has_X6_isObject : GoodIn wsX6_has (wsV RX6 81 RX6 yX6_isObject wsX6_isObject) := goodIn_app (goodIn_of _ (by decide +kernel)) ggX6_has_X6_isObject
set_option maxRecDepth 20000 in
theorem ggX6_has_X6_fieldsOf : GoodIn wsX6_has wsX6_fieldsOf := goodIn_r _ [13] (by decide +kernel) (by decide +kernel)
set_option maxRecDepth 20000 in
theorem gX6_has_X6_fieldsOf : GoodIn wsX6_has (va_wsS RX6 85 yX6_fieldsOf wsX6_fieldsOf) := goodIn_app (goodIn_of _ (by decide +kernel)) ggX6_has_X6_fieldsOf
set_option maxRecDepth 20000 in
theorem ggX6_has_X6_in : GoodIn wsX6_has wsX6_in := goodIn_r _ [10] (by decide +kernel) (by decide +kernel)
set_option maxRecDepth 20000 in
theorem gX6_has_X6_in : GoodIn wsX6_has (va_wsS RX6 77 yX6_in wsX6_in) := goodIn_app (goodIn_of _ (by decide +kernel)) ggX6_has_X6_in
set_option maxRecDepth 20000 in
theorem ggX6_has_X6_sortOf : GoodIn wsX6_has wsX6_sortOf := goodIn_r _ [16] (by decide +kernel) (by decide +kernel)
set_option maxRecDepth 20000 in
theorem gX6_has_X6_sortOf : GoodIn wsX6_has (va_wsS RX6 89 yX6_sortOf wsX6_sortOf) := goodIn_app (goodIn_of _ (by decide +kernel)) ggX6_has_X6_sortOf
theorem dX6_has_0 : decode cX6_has 0 = .ok (.aload_n 0, 1) := by decide +kernel
theorem dX6_has_1 : decode cX6_has 1 = .ok (.iload_n 1, 1) := by decide +kernel
theorem dX6_has_2 : decode cX6_has 2 = .ok (.invokevirtual 81, 3) := by decide +kernel
theorem dX6_has_5 : decode cX6_has 5 = .ok (.ifCond .eq 42, 3) := by decide +kernel
theorem dX6_has_8 : decode cX6_has 8 = .ok (.iload_n 2, 1) := by decide +kernel
theorem dX6_has_9 : decode cX6_has 9 = .ok (.i2l, 1) := by decide +kernel
theorem dX6_has_10 : decode cX6_has 10 = .ok (.lconst 0, 1) := by decide +kernel
theorem dX6_has_11 : decode cX6_has 11 = .ok (.aload_n 0, 1) := by decide +kernel
theorem dX6_has_12 : decode cX6_has 12 = .ok (.getfield 7, 3) := by decide +kernel
theorem dX6_has_15 : decode cX6_has 15 = .ok (.iload_n 1, 1) := by decide +kernel
theorem dX6_has_16 : decode cX6_has 16 = .ok (.iaload, 1) := by decide +kernel
theorem dX6_has_17 : decode cX6_has 17 = .ok (.invokestatic 85, 3) := by decide +kernel
theorem dX6_has_20 : decode cX6_has 20 = .ok (.iconst 1, 1) := by decide +kernel
theorem dX6_has_21 : decode cX6_has 21 = .ok (.isub, 1) := by decide +kernel
theorem dX6_has_22 : decode cX6_has 22 = .ok (.i2l, 1) := by decide +kernel
theorem dX6_has_23 : decode cX6_has 23 = .ok (.invokestatic 77, 3) := by decide +kernel
theorem dX6_has_26 : decode cX6_has 26 = .ok (.ifCond .eq 21, 3) := by decide +kernel
theorem dX6_has_29 : decode cX6_has 29 = .ok (.aload_n 0, 1) := by decide +kernel
theorem dX6_has_30 : decode cX6_has 30 = .ok (.getfield 7, 3) := by decide +kernel
theorem dX6_has_33 : decode cX6_has 33 = .ok (.iload_n 1, 1) := by decide +kernel
theorem dX6_has_34 : decode cX6_has 34 = .ok (.iaload, 1) := by decide +kernel
theorem dX6_has_35 : decode cX6_has 35 = .ok (.iload_n 2, 1) := by decide +kernel
theorem dX6_has_36 : decode cX6_has 36 = .ok (.invokestatic 89, 3) := by decide +kernel
theorem dX6_has_39 : decode cX6_has 39 = .ok (.iload_n 3, 1) := by decide +kernel
theorem dX6_has_40 : decode cX6_has 40 = .ok (.if_icmp .ne 7, 3) := by decide +kernel
theorem dX6_has_43 : decode cX6_has 43 = .ok (.iconst 1, 1) := by decide +kernel
theorem dX6_has_44 : decode cX6_has 44 = .ok (.goto 4, 3) := by decide +kernel
theorem dX6_has_47 : decode cX6_has 47 = .ok (.iconst 0, 1) := by decide +kernel
theorem dX6_has_48 : decode cX6_has 48 = .ok (.ireturn, 1) := by decide +kernel
set_option maxRecDepth 20000 in
theorem ggX6_first_X6_fieldsOf : GoodIn wsX6_first wsX6_fieldsOf := goodIn_r _ [8] (by decide +kernel) (by decide +kernel)
set_option maxRecDepth 20000 in
theorem gX6_first_X6_fieldsOf : GoodIn wsX6_first (va_wsS RX6 85 yX6_fieldsOf wsX6_fieldsOf) := goodIn_app (goodIn_of _ (by decide +kernel)) ggX6_first_X6_fieldsOf
set_option maxRecDepth 20000 in
theorem ggX6_first_X6_sortOf : GoodIn wsX6_first wsX6_sortOf := goodIn_r _ [11] (by decide +kernel) (by decide +kernel)
set_option maxRecDepth 20000 in
theorem gX6_first_X6_sortOf : GoodIn wsX6_first (va_wsS RX6 89 yX6_sortOf wsX6_sortOf) := goodIn_app (goodIn_of _ (by decide +kernel)) ggX6_first_X6_sortOf
theorem dX6_first_0 : decode cX6_first 0 = .ok (.sipush 192, 3) := by decide +kernel
theorem dX6_first_3 : decode cX6_first 3 = .ok (.iload_n 1, 1) := by decide +kernel
theorem dX6_first_4 : decode cX6_first 4 = .ok (.imul, 1) := by decide +kernel
theorem dX6_first_5 : decode cX6_first 5 = .ok (.bipush 8, 2) := by decide +kernel
theorem dX6_first_7 : decode cX6_first 7 = .ok (.iload_n 2, 1) := by decide +kernel
theorem dX6_first_8 : decode cX6_first 8 = .ok (.imul, 1) := by decide +kernel
theorem dX6_first_9 : decode cX6_first 9 = .ok (.iadd, 1) := by decide +kernel
theorem dX6_first_10 : decode cX6_first 10 = .ok (.iload_n 3, 1) := by decide +kernel
theorem dX6_first_11 : decode cX6_first 11 = .ok (.iadd, 1) := by decide +kernel
theorem dX6_first_12 : decode cX6_first 12 = .ok (.istore 4, 2) := by decide +kernel
theorem dX6_first_14 : decode cX6_first 14 = .ok (.aload_n 0, 1) := by decide +kernel
theorem dX6_first_15 : decode cX6_first 15 = .ok (.getfield 13, 3) := by decide +kernel
theorem dX6_first_18 : decode cX6_first 18 = .ok (.iload 4, 2) := by decide +kernel
theorem dX6_first_20 : decode cX6_first 20 = .ok (.iload_n 3, 1) := by decide +kernel
theorem dX6_first_21 : decode cX6_first 21 = .ok (.aload_n 0, 1) := by decide +kernel
theorem dX6_first_22 : decode cX6_first 22 = .ok (.getfield 7, 3) := by decide +kernel
theorem dX6_first_25 : decode cX6_first 25 = .ok (.iload_n 2, 1) := by decide +kernel
theorem dX6_first_26 : decode cX6_first 26 = .ok (.iaload, 1) := by decide +kernel
theorem dX6_first_27 : decode cX6_first 27 = .ok (.invokestatic 85, 3) := by decide +kernel
theorem dX6_first_30 : decode cX6_first 30 = .ok (.if_icmp .ge 23, 3) := by decide +kernel
theorem dX6_first_33 : decode cX6_first 33 = .ok (.aload_n 0, 1) := by decide +kernel
theorem dX6_first_34 : decode cX6_first 34 = .ok (.getfield 7, 3) := by decide +kernel
theorem dX6_first_37 : decode cX6_first 37 = .ok (.iload_n 2, 1) := by decide +kernel
theorem dX6_first_38 : decode cX6_first 38 = .ok (.iaload, 1) := by decide +kernel
theorem dX6_first_39 : decode cX6_first 39 = .ok (.iload_n 3, 1) := by decide +kernel
theorem dX6_first_40 : decode cX6_first 40 = .ok (.invokestatic 89, 3) := by decide +kernel
theorem dX6_first_43 : decode cX6_first 43 = .ok (.iconst 1, 1) := by decide +kernel
theorem dX6_first_44 : decode cX6_first 44 = .ok (.if_icmp .ne 9, 3) := by decide +kernel
theorem dX6_first_47 : decode cX6_first 47 = .ok (.ldc2_w 93, 3) := by decide +kernel
theorem dX6_first_50 : decode cX6_first 50 = .ok (.goto 4, 3) := by decide +kernel
theorem dX6_first_53 : decode cX6_first 53 = .ok (.lconst 0, 1) := by decide +kernel
theorem dX6_first_54 : decode cX6_first 54 = .ok (.lastore, 1) := by decide +kernel
theorem dX6_first_55 : decode cX6_first 55 = .ok (.aload_n 0, 1) := by decide +kernel
theorem dX6_first_56 : decode cX6_first 56 = .ok (.getfield 17, 3) := by decide +kernel
theorem dX6_first_59 : decode cX6_first 59 = .ok (.iload 4, 2) := by decide +kernel
theorem dX6_first_61 : decode cX6_first 61 = .ok (.bipush (-3), 2) := by decide +kernel
theorem dX6_first_63 : decode cX6_first 63 = .ok (.iastore, 1) := by decide +kernel
theorem dX6_first_64 : decode cX6_first 64 = .ok (.return_, 1) := by decide +kernel
set_option maxRecDepth 20000 in
theorem ggX6_object_X6_in : GoodIn wsX6_object wsX6_in := goodIn_r _ [7] (by decide +kernel) (by decide +kernel)
set_option maxRecDepth 20000 in
theorem gX6_object_X6_in : GoodIn wsX6_object (va_wsS RX6 77 yX6_in wsX6_in) := goodIn_app (goodIn_of _ (by decide +kernel)) ggX6_object_X6_in
set_option maxRecDepth 20000 in
theorem ggX6_object_X6_first : GoodIn wsX6_object wsX6_first := goodIn_r _ [11, 12, 3, 13, 14, 15, 16, 6, 17, 18, 19, 20, 21, 22, 23, 24, 25, 26, 27, 28, 29, 30, 31, 32, 33, 34, 35, 36, 37, 38, 39, 40, 41, 42, 43, 44, 45, 46, 47, 48, 49, 50] (by decide +kernel) (by decide +kernel)
set_option maxRecDepth 20000 in
theorem gX6_object_X6_first : GoodIn wsX6_object (wsV RX6 97 RX6 yX6_first wsX6_first) := goodIn_app (goodIn_of _ (by decide +kernel)) ggX6_object_X6_first
theorem dX6_object_0 : decode cX6_object 0 = .ok (.iload_n 1, 1) := by decide +kernel
theorem dX6_object_1 : decode cX6_object 1 = .ok (.i2l, 1) := by decide +kernel
theorem dX6_object_2 : decode cX6_object 2 = .ok (.lconst 0, 1) := by decide +kernel
theorem dX6_object_3 : decode cX6_object 3 = .ok (.ldc2_w 95, 3) := by decide +kernel
theorem dX6_object_6 : decode cX6_object 6 = .ok (.invokestatic 77, 3) := by decide +kernel
theorem dX6_object_9 : decode cX6_object 9 = .ok (.ifCond .ne 5, 3) := by decide +kernel
theorem dX6_object_12 : decode cX6_object 12 = .ok (.iconst (-1), 1) := by decide +kernel
theorem dX6_object_13 : decode cX6_object 13 = .ok (.ireturn, 1) := by decide +kernel
theorem dX6_object_14 : decode cX6_object 14 = .ok (.aload_n 0, 1) := by decide +kernel
theorem dX6_object_15 : decode cX6_object 15 = .ok (.getfield 74, 3) := by decide +kernel
theorem dX6_object_18 : decode cX6_object 18 = .ok (.bipush 24, 2) := by decide +kernel
theorem dX6_object_20 : decode cX6_object 20 = .ok (.if_icmp .ne 6, 3) := by decide +kernel
theorem dX6_object_23 : decode cX6_object 23 = .ok (.bipush (-2), 2) := by decide +kernel
theorem dX6_object_25 : decode cX6_object 25 = .ok (.ireturn, 1) := by decide +kernel
theorem dX6_object_26 : decode cX6_object 26 = .ok (.aload_n 0, 1) := by decide +kernel
theorem dX6_object_27 : decode cX6_object 27 = .ok (.getfield 74, 3) := by decide +kernel
theorem dX6_object_30 : decode cX6_object 30 = .ok (.istore_n 2, 1) := by decide +kernel
theorem dX6_object_31 : decode cX6_object 31 = .ok (.aload_n 0, 1) := by decide +kernel
theorem dX6_object_32 : decode cX6_object 32 = .ok (.dup, 1) := by decide +kernel
theorem dX6_object_33 : decode cX6_object 33 = .ok (.getfield 74, 3) := by decide +kernel
theorem dX6_object_36 : decode cX6_object 36 = .ok (.iconst 1, 1) := by decide +kernel
theorem dX6_object_37 : decode cX6_object 37 = .ok (.iadd, 1) := by decide +kernel
theorem dX6_object_38 : decode cX6_object 38 = .ok (.putfield 74, 3) := by decide +kernel
theorem dX6_object_41 : decode cX6_object 41 = .ok (.aload_n 0, 1) := by decide +kernel
theorem dX6_object_42 : decode cX6_object 42 = .ok (.getfield 7, 3) := by decide +kernel
theorem dX6_object_45 : decode cX6_object 45 = .ok (.iload_n 2, 1) := by decide +kernel
theorem dX6_object_46 : decode cX6_object 46 = .ok (.iload_n 1, 1) := by decide +kernel
theorem dX6_object_47 : decode cX6_object 47 = .ok (.iastore, 1) := by decide +kernel
theorem dX6_object_48 : decode cX6_object 48 = .ok (.iconst 0, 1) := by decide +kernel
theorem dX6_object_49 : decode cX6_object 49 = .ok (.istore_n 3, 1) := by decide +kernel
theorem dX6_object_50 : decode cX6_object 50 = .ok (.iload_n 3, 1) := by decide +kernel
theorem dX6_object_51 : decode cX6_object 51 = .ok (.bipush 41, 2) := by decide +kernel
theorem dX6_object_53 : decode cX6_object 53 = .ok (.if_icmp .gt 33, 3) := by decide +kernel
theorem dX6_object_56 : decode cX6_object 56 = .ok (.iconst 0, 1) := by decide +kernel
theorem dX6_object_57 : decode cX6_object 57 = .ok (.istore 4, 2) := by decide +kernel
theorem dX6_object_59 : decode cX6_object 59 = .ok (.iload 4, 2) := by decide +kernel
theorem dX6_object_61 : decode cX6_object 61 = .ok (.bipush 8, 2) := by decide +kernel
theorem dX6_object_63 : decode cX6_object 63 = .ok (.if_icmp .ge 17, 3) := by decide +kernel
theorem dX6_object_66 : decode cX6_object 66 = .ok (.aload_n 0, 1) := by decide +kernel
theorem dX6_object_67 : decode cX6_object 67 = .ok (.iload_n 3, 1) := by decide +kernel
theorem dX6_object_68 : decode cX6_object 68 = .ok (.iload_n 2, 1) := by decide +kernel
theorem dX6_object_69 : decode cX6_object 69 = .ok (.iload 4, 2) := by decide +kernel
theorem dX6_object_71 : decode cX6_object 71 = .ok (.invokevirtual 97, 3) := by decide +kernel
theorem dX6_object_74 : decode cX6_object 74 = .ok (.iinc 4 1, 3) := by decide +kernel
theorem dX6_object_77 : decode cX6_object 77 = .ok (.goto (-18), 3) := by decide +kernel
theorem dX6_object_80 : decode cX6_object 80 = .ok (.iinc 3 1, 3) := by decide +kernel
theorem dX6_object_83 : decode cX6_object 83 = .ok (.goto (-33), 3) := by decide +kernel
theorem dX6_object_86 : decode cX6_object 86 = .ok (.iload_n 2, 1) := by decide +kernel
theorem dX6_object_87 : decode cX6_object 87 = .ok (.ireturn, 1) := by decide +kernel
theorem dX6_copyLeaf_0 : decode cX6_copyLeaf 0 = .ok (.sipush 192, 3) := by decide +kernel
theorem dX6_copyLeaf_3 : decode cX6_copyLeaf 3 = .ok (.iload_n 1, 1) := by decide +kernel
theorem dX6_copyLeaf_4 : decode cX6_copyLeaf 4 = .ok (.imul, 1) := by decide +kernel
theorem dX6_copyLeaf_5 : decode cX6_copyLeaf 5 = .ok (.iload_n 3, 1) := by decide +kernel
theorem dX6_copyLeaf_6 : decode cX6_copyLeaf 6 = .ok (.iadd, 1) := by decide +kernel
theorem dX6_copyLeaf_7 : decode cX6_copyLeaf 7 = .ok (.istore 4, 2) := by decide +kernel
theorem dX6_copyLeaf_9 : decode cX6_copyLeaf 9 = .ok (.sipush 192, 3) := by decide +kernel
theorem dX6_copyLeaf_12 : decode cX6_copyLeaf 12 = .ok (.iload_n 2, 1) := by decide +kernel
theorem dX6_copyLeaf_13 : decode cX6_copyLeaf 13 = .ok (.imul, 1) := by decide +kernel
theorem dX6_copyLeaf_14 : decode cX6_copyLeaf 14 = .ok (.iload_n 3, 1) := by decide +kernel
theorem dX6_copyLeaf_15 : decode cX6_copyLeaf 15 = .ok (.iadd, 1) := by decide +kernel
theorem dX6_copyLeaf_16 : decode cX6_copyLeaf 16 = .ok (.istore 5, 2) := by decide +kernel
theorem dX6_copyLeaf_18 : decode cX6_copyLeaf 18 = .ok (.aload_n 0, 1) := by decide +kernel
theorem dX6_copyLeaf_19 : decode cX6_copyLeaf 19 = .ok (.getfield 13, 3) := by decide +kernel
theorem dX6_copyLeaf_22 : decode cX6_copyLeaf 22 = .ok (.iload 5, 2) := by decide +kernel
theorem dX6_copyLeaf_24 : decode cX6_copyLeaf 24 = .ok (.aload_n 0, 1) := by decide +kernel
theorem dX6_copyLeaf_25 : decode cX6_copyLeaf 25 = .ok (.getfield 13, 3) := by decide +kernel
theorem dX6_copyLeaf_28 : decode cX6_copyLeaf 28 = .ok (.iload 4, 2) := by decide +kernel
theorem dX6_copyLeaf_30 : decode cX6_copyLeaf 30 = .ok (.laload, 1) := by decide +kernel
theorem dX6_copyLeaf_31 : decode cX6_copyLeaf 31 = .ok (.lastore, 1) := by decide +kernel
theorem dX6_copyLeaf_32 : decode cX6_copyLeaf 32 = .ok (.aload_n 0, 1) := by decide +kernel
theorem dX6_copyLeaf_33 : decode cX6_copyLeaf 33 = .ok (.getfield 17, 3) := by decide +kernel
theorem dX6_copyLeaf_36 : decode cX6_copyLeaf 36 = .ok (.iload 5, 2) := by decide +kernel
theorem dX6_copyLeaf_38 : decode cX6_copyLeaf 38 = .ok (.aload_n 0, 1) := by decide +kernel
theorem dX6_copyLeaf_39 : decode cX6_copyLeaf 39 = .ok (.getfield 17, 3) := by decide +kernel
theorem dX6_copyLeaf_42 : decode cX6_copyLeaf 42 = .ok (.iload 4, 2) := by decide +kernel
theorem dX6_copyLeaf_44 : decode cX6_copyLeaf 44 = .ok (.iaload, 1) := by decide +kernel
theorem dX6_copyLeaf_45 : decode cX6_copyLeaf 45 = .ok (.iastore, 1) := by decide +kernel
theorem dX6_copyLeaf_46 : decode cX6_copyLeaf 46 = .ok (.iconst 0, 1) := by decide +kernel
theorem dX6_copyLeaf_47 : decode cX6_copyLeaf 47 = .ok (.istore 6, 2) := by decide +kernel
theorem dX6_copyLeaf_49 : decode cX6_copyLeaf 49 = .ok (.iload 6, 2) := by decide +kernel
theorem dX6_copyLeaf_51 : decode cX6_copyLeaf 51 = .ok (.bipush 8, 2) := by decide +kernel
theorem dX6_copyLeaf_53 : decode cX6_copyLeaf 53 = .ok (.if_icmp .ge 35, 3) := by decide +kernel
theorem dX6_copyLeaf_56 : decode cX6_copyLeaf 56 = .ok (.aload_n 0, 1) := by decide +kernel
theorem dX6_copyLeaf_57 : decode cX6_copyLeaf 57 = .ok (.getfield 21, 3) := by decide +kernel
theorem dX6_copyLeaf_60 : decode cX6_copyLeaf 60 = .ok (.bipush 8, 2) := by decide +kernel
theorem dX6_copyLeaf_62 : decode cX6_copyLeaf 62 = .ok (.iload 5, 2) := by decide +kernel
theorem dX6_copyLeaf_64 : decode cX6_copyLeaf 64 = .ok (.imul, 1) := by decide +kernel
theorem dX6_copyLeaf_65 : decode cX6_copyLeaf 65 = .ok (.iload 6, 2) := by decide +kernel
theorem dX6_copyLeaf_67 : decode cX6_copyLeaf 67 = .ok (.iadd, 1) := by decide +kernel
theorem dX6_copyLeaf_68 : decode cX6_copyLeaf 68 = .ok (.aload_n 0, 1) := by decide +kernel
theorem dX6_copyLeaf_69 : decode cX6_copyLeaf 69 = .ok (.getfield 21, 3) := by decide +kernel
theorem dX6_copyLeaf_72 : decode cX6_copyLeaf 72 = .ok (.bipush 8, 2) := by decide +kernel
theorem dX6_copyLeaf_74 : decode cX6_copyLeaf 74 = .ok (.iload 4, 2) := by decide +kernel
theorem dX6_copyLeaf_76 : decode cX6_copyLeaf 76 = .ok (.imul, 1) := by decide +kernel
theorem dX6_copyLeaf_77 : decode cX6_copyLeaf 77 = .ok (.iload 6, 2) := by decide +kernel
theorem dX6_copyLeaf_79 : decode cX6_copyLeaf 79 = .ok (.iadd, 1) := by decide +kernel
theorem dX6_copyLeaf_80 : decode cX6_copyLeaf 80 = .ok (.iaload, 1) := by decide +kernel
theorem dX6_copyLeaf_81 : decode cX6_copyLeaf 81 = .ok (.iastore, 1) := by decide +kernel
theorem dX6_copyLeaf_82 : decode cX6_copyLeaf 82 = .ok (.iinc 6 1, 3) := by decide +kernel
theorem dX6_copyLeaf_85 : decode cX6_copyLeaf 85 = .ok (.goto (-36), 3) := by decide +kernel
theorem dX6_copyLeaf_88 : decode cX6_copyLeaf 88 = .ok (.return_, 1) := by decide +kernel
set_option maxRecDepth 20000 in
theorem ggX6_copyAll_X6_copyLeaf : GoodIn wsX6_copyAll wsX6_copyLeaf := goodIn_r _ [5, 6, 7, 8, 9, 10, 11, 12, 13, 14, 15, 16, 17, 18, 19, 20, 21, 22, 23, 24, 25, 26, 27, 28, 29, 30, 31, 32, 33, 34, 35, 36, 37, 38] (by decide +kernel) (by decide +kernel)
set_option maxRecDepth 20000 in
theorem gX6_copyAll_X6_copyLeaf : GoodIn wsX6_copyAll (wsV RX6 101 RX6 yX6_copyLeaf wsX6_copyLeaf) := goodIn_app (goodIn_of _ (by decide +kernel)) ggX6_copyAll_X6_copyLeaf
theorem dX6_copyAll_0 : decode cX6_copyAll 0 = .ok (.iconst 0, 1) := by decide +kernel
theorem dX6_copyAll_1 : decode cX6_copyAll 1 = .ok (.istore_n 3, 1) := by decide +kernel
theorem dX6_copyAll_2 : decode cX6_copyAll 2 = .ok (.iload_n 3, 1) := by decide +kernel
theorem dX6_copyAll_3 : decode cX6_copyAll 3 = .ok (.sipush 192, 3) := by decide +kernel
theorem dX6_copyAll_6 : decode cX6_copyAll 6 = .ok (.if_icmp .ge 16, 3) := by decide +kernel
theorem dX6_copyAll_9 : decode cX6_copyAll 9 = .ok (.aload_n 0, 1) := by decide +kernel
theorem dX6_copyAll_10 : decode cX6_copyAll 10 = .ok (.iload_n 1, 1) := by decide +kernel
theorem dX6_copyAll_11 : decode cX6_copyAll 11 = .ok (.iload_n 2, 1) := by decide +kernel
theorem dX6_copyAll_12 : decode cX6_copyAll 12 = .ok (.iload_n 3, 1) := by decide +kernel
theorem dX6_copyAll_13 : decode cX6_copyAll 13 = .ok (.invokevirtual 101, 3) := by decide +kernel
theorem dX6_copyAll_16 : decode cX6_copyAll 16 = .ok (.iinc 3 1, 3) := by decide +kernel
theorem dX6_copyAll_19 : decode cX6_copyAll 19 = .ok (.goto (-17), 3) := by decide +kernel
theorem dX6_copyAll_22 : decode cX6_copyAll 22 = .ok (.return_, 1) := by decide +kernel
theorem dX6_areAlike_0 : decode cX6_areAlike 0 = .ok (.aload_n 0, 1) := by decide +kernel
theorem dX6_areAlike_1 : decode cX6_areAlike 1 = .ok (.getfield 13, 3) := by decide +kernel
theorem dX6_areAlike_4 : decode cX6_areAlike 4 = .ok (.iload_n 1, 1) := by decide +kernel
theorem dX6_areAlike_5 : decode cX6_areAlike 5 = .ok (.laload, 1) := by decide +kernel
theorem dX6_areAlike_6 : decode cX6_areAlike 6 = .ok (.aload_n 0, 1) := by decide +kernel
theorem dX6_areAlike_7 : decode cX6_areAlike 7 = .ok (.getfield 13, 3) := by decide +kernel
theorem dX6_areAlike_10 : decode cX6_areAlike 10 = .ok (.iload_n 2, 1) := by decide +kernel
theorem dX6_areAlike_11 : decode cX6_areAlike 11 = .ok (.laload, 1) := by decide +kernel
theorem dX6_areAlike_12 : decode cX6_areAlike 12 = .ok (.lcmp, 1) := by decide +kernel
theorem dX6_areAlike_13 : decode cX6_areAlike 13 = .ok (.ifCond .ne 22, 3) := by decide +kernel
theorem dX6_areAlike_16 : decode cX6_areAlike 16 = .ok (.aload_n 0, 1) := by decide +kernel
theorem dX6_areAlike_17 : decode cX6_areAlike 17 = .ok (.getfield 17, 3) := by decide +kernel
theorem dX6_areAlike_20 : decode cX6_areAlike 20 = .ok (.iload_n 1, 1) := by decide +kernel
theorem dX6_areAlike_21 : decode cX6_areAlike 21 = .ok (.iaload, 1) := by decide +kernel
theorem dX6_areAlike_22 : decode cX6_areAlike 22 = .ok (.aload_n 0, 1) := by decide +kernel
theorem dX6_areAlike_23 : decode cX6_areAlike 23 = .ok (.getfield 17, 3) := by decide +kernel
theorem dX6_areAlike_26 : decode cX6_areAlike 26 = .ok (.iload_n 2, 1) := by decide +kernel
theorem dX6_areAlike_27 : decode cX6_areAlike 27 = .ok (.iaload, 1) := by decide +kernel
theorem dX6_areAlike_28 : decode cX6_areAlike 28 = .ok (.if_icmp .ne 7, 3) := by decide +kernel
theorem dX6_areAlike_31 : decode cX6_areAlike 31 = .ok (.iconst 1, 1) := by decide +kernel
theorem dX6_areAlike_32 : decode cX6_areAlike 32 = .ok (.goto 4, 3) := by decide +kernel
theorem dX6_areAlike_35 : decode cX6_areAlike 35 = .ok (.iconst 0, 1) := by decide +kernel
theorem dX6_areAlike_36 : decode cX6_areAlike 36 = .ok (.istore_n 3, 1) := by decide +kernel
theorem dX6_areAlike_37 : decode cX6_areAlike 37 = .ok (.iconst 0, 1) := by decide +kernel
theorem dX6_areAlike_38 : decode cX6_areAlike 38 = .ok (.istore 4, 2) := by decide +kernel
theorem dX6_areAlike_40 : decode cX6_areAlike 40 = .ok (.iload 4, 2) := by decide +kernel
theorem dX6_areAlike_42 : decode cX6_areAlike 42 = .ok (.aload_n 0, 1) := by decide +kernel
theorem dX6_areAlike_43 : decode cX6_areAlike 43 = .ok (.getfield 17, 3) := by decide +kernel
theorem dX6_areAlike_46 : decode cX6_areAlike 46 = .ok (.iload_n 1, 1) := by decide +kernel
theorem dX6_areAlike_47 : decode cX6_areAlike 47 = .ok (.iaload, 1) := by decide +kernel
theorem dX6_areAlike_48 : decode cX6_areAlike 48 = .ok (.if_icmp .ge 46, 3) := by decide +kernel
theorem dX6_areAlike_51 : decode cX6_areAlike 51 = .ok (.iload_n 3, 1) := by decide +kernel
theorem dX6_areAlike_52 : decode cX6_areAlike 52 = .ok (.ifCond .eq 42, 3) := by decide +kernel
theorem dX6_areAlike_55 : decode cX6_areAlike 55 = .ok (.aload_n 0, 1) := by decide +kernel
theorem dX6_areAlike_56 : decode cX6_areAlike 56 = .ok (.getfield 21, 3) := by decide +kernel
theorem dX6_areAlike_59 : decode cX6_areAlike 59 = .ok (.bipush 8, 2) := by decide +kernel
theorem dX6_areAlike_61 : decode cX6_areAlike 61 = .ok (.iload_n 1, 1) := by decide +kernel
theorem dX6_areAlike_62 : decode cX6_areAlike 62 = .ok (.imul, 1) := by decide +kernel
theorem dX6_areAlike_63 : decode cX6_areAlike 63 = .ok (.iload 4, 2) := by decide +kernel
theorem dX6_areAlike_65 : decode cX6_areAlike 65 = .ok (.iadd, 1) := by decide +kernel
theorem dX6_areAlike_66 : decode cX6_areAlike 66 = .ok (.iaload, 1) := by decide +kernel
theorem dX6_areAlike_67 : decode cX6_areAlike 67 = .ok (.aload_n 0, 1) := by decide +kernel
theorem dX6_areAlike_68 : decode cX6_areAlike 68 = .ok (.getfield 21, 3) := by decide +kernel
theorem dX6_areAlike_71 : decode cX6_areAlike 71 = .ok (.bipush 8, 2) := by decide +kernel
theorem dX6_areAlike_73 : decode cX6_areAlike 73 = .ok (.iload_n 2, 1) := by decide +kernel
theorem dX6_areAlike_74 : decode cX6_areAlike 74 = .ok (.imul, 1) := by decide +kernel
theorem dX6_areAlike_75 : decode cX6_areAlike 75 = .ok (.iload 4, 2) := by decide +kernel
theorem dX6_areAlike_77 : decode cX6_areAlike 77 = .ok (.iadd, 1) := by decide +kernel
theorem dX6_areAlike_78 : decode cX6_areAlike 78 = .ok (.iaload, 1) := by decide +kernel
theorem dX6_areAlike_79 : decode cX6_areAlike 79 = .ok (.if_icmp .ne 7, 3) := by decide +kernel
theorem dX6_areAlike_82 : decode cX6_areAlike 82 = .ok (.iconst 1, 1) := by decide +kernel
theorem dX6_areAlike_83 : decode cX6_areAlike 83 = .ok (.goto 4, 3) := by decide +kernel
theorem dX6_areAlike_86 : decode cX6_areAlike 86 = .ok (.iconst 0, 1) := by decide +kernel
theorem dX6_areAlike_87 : decode cX6_areAlike 87 = .ok (.istore_n 3, 1) := by decide +kernel
theorem dX6_areAlike_88 : decode cX6_areAlike 88 = .ok (.iinc 4 1, 3) := by decide +kernel
theorem dX6_areAlike_91 : decode cX6_areAlike 91 = .ok (.goto (-51), 3) := by decide +kernel
theorem dX6_areAlike_94 : decode cX6_areAlike 94 = .ok (.iload_n 3, 1) := by decide +kernel
theorem dX6_areAlike_95 : decode cX6_areAlike 95 = .ok (.ireturn, 1) := by decide +kernel
set_option maxRecDepth 20000 in
theorem ggX6_rises_X6_copyAll : GoodIn wsX6_rises wsX6_copyAll := goodIn_r _ [7, 8, 9, 10, 6, 11, 12, 13, 14, 15, 16, 17, 18, 19, 20, 21, 22, 23, 24, 25, 26, 27, 28, 29, 30, 31, 32, 33, 34, 35, 36, 37, 38, 39, 40, 41, 42, 43, 44] (by decide +kernel) (by decide +kernel)
set_option maxRecDepth 20000 in
theorem gX6_rises_X6_copyAll : GoodIn wsX6_rises (wsV RX6 107 RX6 yX6_copyAll wsX6_copyAll) := goodIn_app (goodIn_of _ (by decide +kernel)) ggX6_rises_X6_copyAll
theorem dX6_rises_0 : decode cX6_rises 0 = .ok (.aload_n 0, 1) := by decide +kernel
theorem dX6_rises_1 : decode cX6_rises 1 = .ok (.dup, 1) := by decide +kernel
theorem dX6_rises_2 : decode cX6_rises 2 = .ok (.getfield 104, 3) := by decide +kernel
theorem dX6_rises_5 : decode cX6_rises 5 = .ok (.iconst 1, 1) := by decide +kernel
theorem dX6_rises_6 : decode cX6_rises 6 = .ok (.iadd, 1) := by decide +kernel
theorem dX6_rises_7 : decode cX6_rises 7 = .ok (.putfield 104, 3) := by decide +kernel
theorem dX6_rises_10 : decode cX6_rises 10 = .ok (.aload_n 0, 1) := by decide +kernel
theorem dX6_rises_11 : decode cX6_rises 11 = .ok (.bipush 41, 2) := by decide +kernel
theorem dX6_rises_13 : decode cX6_rises 13 = .ok (.aload_n 0, 1) := by decide +kernel
theorem dX6_rises_14 : decode cX6_rises 14 = .ok (.getfield 104, 3) := by decide +kernel
theorem dX6_rises_17 : decode cX6_rises 17 = .ok (.invokevirtual 107, 3) := by decide +kernel
theorem dX6_rises_20 : decode cX6_rises 20 = .ok (.iconst 0, 1) := by decide +kernel
theorem dX6_rises_21 : decode cX6_rises 21 = .ok (.istore_n 1, 1) := by decide +kernel
theorem dX6_rises_22 : decode cX6_rises 22 = .ok (.iload_n 1, 1) := by decide +kernel
theorem dX6_rises_23 : decode cX6_rises 23 = .ok (.bipush 24, 2) := by decide +kernel
theorem dX6_rises_25 : decode cX6_rises 25 = .ok (.if_icmp .ge 16, 3) := by decide +kernel
theorem dX6_rises_28 : decode cX6_rises 28 = .ok (.aload_n 0, 1) := by decide +kernel
theorem dX6_rises_29 : decode cX6_rises 29 = .ok (.getfield 24, 3) := by decide +kernel
theorem dX6_rises_32 : decode cX6_rises 32 = .ok (.iload_n 1, 1) := by decide +kernel
theorem dX6_rises_33 : decode cX6_rises 33 = .ok (.iconst 0, 1) := by decide +kernel
theorem dX6_rises_34 : decode cX6_rises 34 = .ok (.bastore, 1) := by decide +kernel
theorem dX6_rises_35 : decode cX6_rises 35 = .ok (.iinc 1 1, 3) := by decide +kernel
theorem dX6_rises_38 : decode cX6_rises 38 = .ok (.goto (-16), 3) := by decide +kernel
theorem dX6_rises_41 : decode cX6_rises 41 = .ok (.return_, 1) := by decide +kernel
set_option maxRecDepth 20000 in
theorem ggX6_changed_X6_areAlike : GoodIn wsX6_changed wsX6_areAlike := goodIn_r _ [6, 7, 8, 9, 23, 24, 25, 26, 27, 28, 29, 30, 31, 32, 33, 34, 35, 36, 37, 38, 39, 40, 41, 42, 43, 44, 45, 46, 47, 48, 49, 50, 51, 52] (by decide +kernel) (by decide +kernel)
set_option maxRecDepth 20000 in
theorem gX6_changed_X6_areAlike : GoodIn wsX6_changed (wsV RX6 111 RX6 yX6_areAlike wsX6_areAlike) := goodIn_app (goodIn_of _ (by decide +kernel)) ggX6_changed_X6_areAlike
set_option maxRecDepth 20000 in
theorem ggX6_changed_X6_rises : GoodIn wsX6_changed wsX6_rises := goodIn_r _ [13, 1, 14, 15, 16, 17, 5, 18, 19, 20, 21, 22, 7, 8, 9, 23, 24, 25, 26, 27, 28, 29, 30, 31, 32, 33, 34, 35, 36, 37, 38, 39, 40, 41, 42, 43, 44, 45, 46, 47, 48, 49, 50, 51, 52] (by decide +kernel) (by decide +kernel)
set_option maxRecDepth 20000 in
theorem gX6_changed_X6_rises : GoodIn wsX6_changed (wsV RX6 115 RX6 yX6_rises wsX6_rises) := goodIn_app (goodIn_of _ (by decide +kernel)) ggX6_changed_X6_rises
theorem dX6_changed_0 : decode cX6_changed 0 = .ok (.aload_n 0, 1) := by decide +kernel
theorem dX6_changed_1 : decode cX6_changed 1 = .ok (.sipush 7872, 3) := by decide +kernel
theorem dX6_changed_4 : decode cX6_changed 4 = .ok (.iload_n 1, 1) := by decide +kernel
theorem dX6_changed_5 : decode cX6_changed 5 = .ok (.iadd, 1) := by decide +kernel
theorem dX6_changed_6 : decode cX6_changed 6 = .ok (.sipush 192, 3) := by decide +kernel
theorem dX6_changed_9 : decode cX6_changed 9 = .ok (.aload_n 0, 1) := by decide +kernel
theorem dX6_changed_10 : decode cX6_changed 10 = .ok (.getfield 104, 3) := by decide +kernel
theorem dX6_changed_13 : decode cX6_changed 13 = .ok (.imul, 1) := by decide +kernel
theorem dX6_changed_14 : decode cX6_changed 14 = .ok (.iload_n 1, 1) := by decide +kernel
theorem dX6_changed_15 : decode cX6_changed 15 = .ok (.iadd, 1) := by decide +kernel
theorem dX6_changed_16 : decode cX6_changed 16 = .ok (.invokevirtual 111, 3) := by decide +kernel
theorem dX6_changed_19 : decode cX6_changed 19 = .ok (.ifCond .eq 8, 3) := by decide +kernel
theorem dX6_changed_22 : decode cX6_changed 22 = .ok (.aload_n 0, 1) := by decide +kernel
theorem dX6_changed_23 : decode cX6_changed 23 = .ok (.getfield 104, 3) := by decide +kernel
theorem dX6_changed_26 : decode cX6_changed 26 = .ok (.ireturn, 1) := by decide +kernel
theorem dX6_changed_27 : decode cX6_changed 27 = .ok (.aload_n 0, 1) := by decide +kernel
theorem dX6_changed_28 : decode cX6_changed 28 = .ok (.getfield 104, 3) := by decide +kernel
theorem dX6_changed_31 : decode cX6_changed 31 = .ok (.bipush 40, 2) := by decide +kernel
theorem dX6_changed_33 : decode cX6_changed 33 = .ok (.if_icmp .ne 6, 3) := by decide +kernel
theorem dX6_changed_36 : decode cX6_changed 36 = .ok (.bipush (-2), 2) := by decide +kernel
theorem dX6_changed_38 : decode cX6_changed 38 = .ok (.ireturn, 1) := by decide +kernel
theorem dX6_changed_39 : decode cX6_changed 39 = .ok (.aload_n 0, 1) := by decide +kernel
theorem dX6_changed_40 : decode cX6_changed 40 = .ok (.invokevirtual 115, 3) := by decide +kernel
theorem dX6_changed_43 : decode cX6_changed 43 = .ok (.aload_n 0, 1) := by decide +kernel
theorem dX6_changed_44 : decode cX6_changed 44 = .ok (.getfield 104, 3) := by decide +kernel
theorem dX6_changed_47 : decode cX6_changed 47 = .ok (.ireturn, 1) := by decide +kernel
set_option maxRecDepth 20000 in
theorem ggX6_number_X6_has : GoodIn wsX6_number wsX6_has := goodIn_r _ [7, 8, 9, 10, 11, 6, 12, 13, 14, 15, 16, 17, 18, 19, 20, 21, 22, 46, 47, 48, 49, 50, 51, 52, 53, 54, 55, 56, 57, 58, 59, 60, 61, 62, 63, 64, 65, 66, 67, 68, 69, 70, 71, 72, 73, 74, 75] (by decide +kernel) (by decide +kernel)
set_option maxRecDepth 20000 in
theorem gX6_number_X6_has : GoodIn wsX6_number (wsV RX6 118 RX6 yX6_has wsX6_has) := goodIn_app (goodIn_of _ (by decide +kernel)) ggX6_number_X6_has
set_option maxRecDepth 20000 in
theorem ggX6_number_X6_copyAll : GoodIn wsX6_number wsX6_copyAll := goodIn_r _ [26, 27, 28, 29, 6, 30, 2, 31, 32, 46, 47, 48, 49, 50, 51, 52, 53, 54, 55, 56, 57, 58, 59, 60, 61, 62, 63, 64, 65, 66, 67, 68, 69, 70, 71, 72, 73, 74, 75] (by decide +kernel) (by decide +kernel)
set_option maxRecDepth 20000 in
theorem gX6_number_X6_copyAll : GoodIn wsX6_number (wsV RX6 107 RX6 yX6_copyAll wsX6_copyAll) := goodIn_app (goodIn_of _ (by decide +kernel)) ggX6_number_X6_copyAll
set_option maxRecDepth 20000 in
theorem ggX6_number_X6_changed : GoodIn wsX6_number wsX6_changed := goodIn_r _ [36, 1, 37, 38, 39, 6, 40, 2, 31, 32, 41, 42, 43, 44, 45, 23, 24, 25, 26, 27, 28, 29, 30, 46, 47, 48, 49, 50, 51, 52, 53, 54, 55, 56, 57, 58, 59, 60, 61, 62, 63, 64, 65, 66, 67, 68, 69, 70, 71, 72, 73, 74, 75] (by decide +kernel) (by decide +kernel)
set_option maxRecDepth 20000 in
theorem gX6_number_X6_changed : GoodIn wsX6_number (wsV RX6 122 RX6 yX6_changed wsX6_changed) := goodIn_app (goodIn_of _ (by decide +kernel)) ggX6_number_X6_changed
theorem dX6_number_0 : decode cX6_number 0 = .ok (.aload_n 0, 1) := by decide +kernel
theorem dX6_number_1 : decode cX6_number 1 = .ok (.iload_n 1, 1) := by decide +kernel
theorem dX6_number_2 : decode cX6_number 2 = .ok (.iload_n 2, 1) := by decide +kernel
theorem dX6_number_3 : decode cX6_number 3 = .ok (.iconst 0, 1) := by decide +kernel
theorem dX6_number_4 : decode cX6_number 4 = .ok (.invokevirtual 118, 3) := by decide +kernel
theorem dX6_number_7 : decode cX6_number 7 = .ok (.ifCond .ne 5, 3) := by decide +kernel
theorem dX6_number_10 : decode cX6_number 10 = .ok (.iconst (-1), 1) := by decide +kernel
theorem dX6_number_11 : decode cX6_number 11 = .ok (.ireturn, 1) := by decide +kernel
theorem dX6_number_12 : decode cX6_number 12 = .ok (.aload_n 0, 1) := by decide +kernel
theorem dX6_number_13 : decode cX6_number 13 = .ok (.aload_n 0, 1) := by decide +kernel
theorem dX6_number_14 : decode cX6_number 14 = .ok (.getfield 104, 3) := by decide +kernel
theorem dX6_number_17 : decode cX6_number 17 = .ok (.bipush 41, 2) := by decide +kernel
theorem dX6_number_19 : decode cX6_number 19 = .ok (.invokevirtual 107, 3) := by decide +kernel
theorem dX6_number_22 : decode cX6_number 22 = .ok (.aload_n 0, 1) := by decide +kernel
theorem dX6_number_23 : decode cX6_number 23 = .ok (.getfield 13, 3) := by decide +kernel
theorem dX6_number_26 : decode cX6_number 26 = .ok (.sipush 7872, 3) := by decide +kernel
theorem dX6_number_29 : decode cX6_number 29 = .ok (.bipush 8, 2) := by decide +kernel
theorem dX6_number_31 : decode cX6_number 31 = .ok (.iload_n 1, 1) := by decide +kernel
theorem dX6_number_32 : decode cX6_number 32 = .ok (.imul, 1) := by decide +kernel
theorem dX6_number_33 : decode cX6_number 33 = .ok (.iadd, 1) := by decide +kernel
theorem dX6_number_34 : decode cX6_number 34 = .ok (.iload_n 2, 1) := by decide +kernel
theorem dX6_number_35 : decode cX6_number 35 = .ok (.iadd, 1) := by decide +kernel
theorem dX6_number_36 : decode cX6_number 36 = .ok (.lload_n 3, 1) := by decide +kernel
theorem dX6_number_37 : decode cX6_number 37 = .ok (.lastore, 1) := by decide +kernel
theorem dX6_number_38 : decode cX6_number 38 = .ok (.aload_n 0, 1) := by decide +kernel
theorem dX6_number_39 : decode cX6_number 39 = .ok (.bipush 8, 2) := by decide +kernel
theorem dX6_number_41 : decode cX6_number 41 = .ok (.iload_n 1, 1) := by decide +kernel
theorem dX6_number_42 : decode cX6_number 42 = .ok (.imul, 1) := by decide +kernel
theorem dX6_number_43 : decode cX6_number 43 = .ok (.iload_n 2, 1) := by decide +kernel
theorem dX6_number_44 : decode cX6_number 44 = .ok (.iadd, 1) := by decide +kernel
theorem dX6_number_45 : decode cX6_number 45 = .ok (.invokevirtual 122, 3) := by decide +kernel
theorem dX6_number_48 : decode cX6_number 48 = .ok (.ireturn, 1) := by decide +kernel
set_option maxRecDepth 20000 in
theorem ggX6_link_X6_has : GoodIn wsX6_link wsX6_has := goodIn_r _ [7, 8, 9, 10, 11, 6, 12, 13, 14, 15, 16, 17, 18, 19, 20, 21, 22, 46, 47, 48, 49, 50, 51, 52, 53, 54, 55, 56, 57, 58, 59, 60, 61, 62, 63, 64, 65, 66, 67, 68, 69, 70, 71, 72, 73, 74, 75] (by decide +kernel) (by decide +kernel)
set_option maxRecDepth 20000 in
theorem gX6_link_X6_has : GoodIn wsX6_link (wsV RX6 118 RX6 yX6_has wsX6_has) := goodIn_app (goodIn_of _ (by decide +kernel)) ggX6_link_X6_has
set_option maxRecDepth 20000 in
theorem ggX6_link_X6_isObject : GoodIn wsX6_link wsX6_isObject := goodIn_r _ [12, 13, 14, 15, 6, 16, 46, 47, 48, 49, 50, 51, 52, 53, 54, 55, 56, 57, 58, 59, 60, 61, 62, 63, 64, 65, 66, 67, 68, 69, 70, 71, 72, 73, 74, 75] (by decide +kernel) (by decide +kernel)
set_option maxRecDepth 20000 in
theorem gX6_link_X6_isObject : GoodIn wsX6_link (wsV RX6 81 RX6 yX6_isObject wsX6_isObject) := goodIn_app (goodIn_of _ (by decide +kernel)) ggX6_link_X6_isObject
set_option maxRecDepth 20000 in
theorem ggX6_link_X6_copyAll : GoodIn wsX6_link wsX6_copyAll := goodIn_r _ [26, 27, 28, 29, 6, 30, 2, 31, 32, 46, 47, 48, 49, 50, 51, 52, 53, 54, 55, 56, 57, 58, 59, 60, 61, 62, 63, 64, 65, 66, 67, 68, 69, 70, 71, 72, 73, 74, 75] (by decide +kernel) (by decide +kernel)
set_option maxRecDepth 20000 in
theorem gX6_link_X6_copyAll : GoodIn wsX6_link (wsV RX6 107 RX6 yX6_copyAll wsX6_copyAll) := goodIn_app (goodIn_of _ (by decide +kernel)) ggX6_link_X6_copyAll
set_option maxRecDepth 20000 in
theorem ggX6_link_X6_changed : GoodIn wsX6_link wsX6_changed := goodIn_r _ [36, 1, 37, 38, 39, 6, 40, 2, 31, 32, 41, 42, 43, 44, 45, 23, 24, 25, 26, 27, 28, 29, 30, 46, 47, 48, 49, 50, 51, 52, 53, 54, 55, 56, 57, 58, 59, 60, 61, 62, 63, 64, 65, 66, 67, 68, 69, 70, 71, 72, 73, 74, 75] (by decide +kernel) (by decide +kernel)
set_option maxRecDepth 20000 in
theorem gX6_link_X6_changed : GoodIn wsX6_link (wsV RX6 122 RX6 yX6_changed wsX6_changed) := goodIn_app (goodIn_of _ (by decide +kernel)) ggX6_link_X6_changed
theorem dX6_link_0 : decode cX6_link 0 = .ok (.aload_n 0, 1) := by decide +kernel
theorem dX6_link_1 : decode cX6_link 1 = .ok (.iload_n 1, 1) := by decide +kernel
theorem dX6_link_2 : decode cX6_link 2 = .ok (.iload_n 2, 1) := by decide +kernel
theorem dX6_link_3 : decode cX6_link 3 = .ok (.iconst 1, 1) := by decide +kernel
theorem dX6_link_4 : decode cX6_link 4 = .ok (.invokevirtual 118, 3) := by decide +kernel
theorem dX6_link_7 : decode cX6_link 7 = .ok (.ifCond .eq 17, 3) := by decide +kernel
theorem dX6_link_10 : decode cX6_link 10 = .ok (.iload_n 3, 1) := by decide +kernel
theorem dX6_link_11 : decode cX6_link 11 = .ok (.bipush (-3), 2) := by decide +kernel
theorem dX6_link_13 : decode cX6_link 13 = .ok (.if_icmp .eq 13, 3) := by decide +kernel
theorem dX6_link_16 : decode cX6_link 16 = .ok (.aload_n 0, 1) := by decide +kernel
theorem dX6_link_17 : decode cX6_link 17 = .ok (.iload_n 3, 1) := by decide +kernel
theorem dX6_link_18 : decode cX6_link 18 = .ok (.invokevirtual 81, 3) := by decide +kernel
theorem dX6_link_21 : decode cX6_link 21 = .ok (.ifCond .ne 5, 3) := by decide +kernel
theorem dX6_link_24 : decode cX6_link 24 = .ok (.iconst (-1), 1) := by decide +kernel
theorem dX6_link_25 : decode cX6_link 25 = .ok (.ireturn, 1) := by decide +kernel
theorem dX6_link_26 : decode cX6_link 26 = .ok (.aload_n 0, 1) := by decide +kernel
theorem dX6_link_27 : decode cX6_link 27 = .ok (.aload_n 0, 1) := by decide +kernel
theorem dX6_link_28 : decode cX6_link 28 = .ok (.getfield 104, 3) := by decide +kernel
theorem dX6_link_31 : decode cX6_link 31 = .ok (.bipush 41, 2) := by decide +kernel
theorem dX6_link_33 : decode cX6_link 33 = .ok (.invokevirtual 107, 3) := by decide +kernel
theorem dX6_link_36 : decode cX6_link 36 = .ok (.aload_n 0, 1) := by decide +kernel
theorem dX6_link_37 : decode cX6_link 37 = .ok (.getfield 13, 3) := by decide +kernel
theorem dX6_link_40 : decode cX6_link 40 = .ok (.sipush 7872, 3) := by decide +kernel
theorem dX6_link_43 : decode cX6_link 43 = .ok (.bipush 8, 2) := by decide +kernel
theorem dX6_link_45 : decode cX6_link 45 = .ok (.iload_n 1, 1) := by decide +kernel
theorem dX6_link_46 : decode cX6_link 46 = .ok (.imul, 1) := by decide +kernel
theorem dX6_link_47 : decode cX6_link 47 = .ok (.iadd, 1) := by decide +kernel
theorem dX6_link_48 : decode cX6_link 48 = .ok (.iload_n 2, 1) := by decide +kernel
theorem dX6_link_49 : decode cX6_link 49 = .ok (.iadd, 1) := by decide +kernel
theorem dX6_link_50 : decode cX6_link 50 = .ok (.iload_n 3, 1) := by decide +kernel
theorem dX6_link_51 : decode cX6_link 51 = .ok (.i2l, 1) := by decide +kernel
theorem dX6_link_52 : decode cX6_link 52 = .ok (.lastore, 1) := by decide +kernel
theorem dX6_link_53 : decode cX6_link 53 = .ok (.aload_n 0, 1) := by decide +kernel
theorem dX6_link_54 : decode cX6_link 54 = .ok (.bipush 8, 2) := by decide +kernel
theorem dX6_link_56 : decode cX6_link 56 = .ok (.iload_n 1, 1) := by decide +kernel
theorem dX6_link_57 : decode cX6_link 57 = .ok (.imul, 1) := by decide +kernel
theorem dX6_link_58 : decode cX6_link 58 = .ok (.iload_n 2, 1) := by decide +kernel
theorem dX6_link_59 : decode cX6_link 59 = .ok (.iadd, 1) := by decide +kernel
theorem dX6_link_60 : decode cX6_link 60 = .ok (.invokevirtual 122, 3) := by decide +kernel
theorem dX6_link_63 : decode cX6_link 63 = .ok (.ireturn, 1) := by decide +kernel
theorem dX6_newRow_0 : decode cX6_newRow 0 = .ok (.aload_n 0, 1) := by decide +kernel
theorem dX6_newRow_1 : decode cX6_newRow 1 = .ok (.getfield 17, 3) := by decide +kernel
theorem dX6_newRow_4 : decode cX6_newRow 4 = .ok (.sipush 7872, 3) := by decide +kernel
theorem dX6_newRow_7 : decode cX6_newRow 7 = .ok (.iload_n 1, 1) := by decide +kernel
theorem dX6_newRow_8 : decode cX6_newRow 8 = .ok (.iadd, 1) := by decide +kernel
theorem dX6_newRow_9 : decode cX6_newRow 9 = .ok (.iload_n 2, 1) := by decide +kernel
theorem dX6_newRow_10 : decode cX6_newRow 10 = .ok (.iastore, 1) := by decide +kernel
theorem dX6_newRow_11 : decode cX6_newRow 11 = .ok (.iconst 0, 1) := by decide +kernel
theorem dX6_newRow_12 : decode cX6_newRow 12 = .ok (.istore_n 3, 1) := by decide +kernel
theorem dX6_newRow_13 : decode cX6_newRow 13 = .ok (.iload_n 3, 1) := by decide +kernel
theorem dX6_newRow_14 : decode cX6_newRow 14 = .ok (.bipush 8, 2) := by decide +kernel
theorem dX6_newRow_16 : decode cX6_newRow 16 = .ok (.if_icmp .ge 25, 3) := by decide +kernel
theorem dX6_newRow_19 : decode cX6_newRow 19 = .ok (.aload_n 0, 1) := by decide +kernel
theorem dX6_newRow_20 : decode cX6_newRow 20 = .ok (.getfield 21, 3) := by decide +kernel
theorem dX6_newRow_23 : decode cX6_newRow 23 = .ok (.bipush 8, 2) := by decide +kernel
theorem dX6_newRow_25 : decode cX6_newRow 25 = .ok (.sipush 7872, 3) := by decide +kernel
theorem dX6_newRow_28 : decode cX6_newRow 28 = .ok (.iload_n 1, 1) := by decide +kernel
theorem dX6_newRow_29 : decode cX6_newRow 29 = .ok (.iadd, 1) := by decide +kernel
theorem dX6_newRow_30 : decode cX6_newRow 30 = .ok (.imul, 1) := by decide +kernel
theorem dX6_newRow_31 : decode cX6_newRow 31 = .ok (.iload_n 3, 1) := by decide +kernel
theorem dX6_newRow_32 : decode cX6_newRow 32 = .ok (.iadd, 1) := by decide +kernel
theorem dX6_newRow_33 : decode cX6_newRow 33 = .ok (.iconst 0, 1) := by decide +kernel
theorem dX6_newRow_34 : decode cX6_newRow 34 = .ok (.iastore, 1) := by decide +kernel
theorem dX6_newRow_35 : decode cX6_newRow 35 = .ok (.iinc 3 1, 3) := by decide +kernel
theorem dX6_newRow_38 : decode cX6_newRow 38 = .ok (.goto (-25), 3) := by decide +kernel
theorem dX6_newRow_41 : decode cX6_newRow 41 = .ok (.return_, 1) := by decide +kernel
set_option maxRecDepth 20000 in
theorem ggX6_row_X6_has : GoodIn wsX6_row wsX6_has := goodIn_r _ [7, 8, 9, 10, 11, 6, 12, 13, 14, 15, 16, 17, 18, 19, 20, 21, 22, 51, 52, 53, 54, 55, 56, 57, 58, 59, 60, 61, 62, 63, 64, 65, 66, 67, 68, 69, 70, 71, 72, 73, 74, 75, 76, 77, 78, 79, 80] (by decide +kernel) (by decide +kernel)
set_option maxRecDepth 20000 in
theorem gX6_row_X6_has : GoodIn wsX6_row (wsV RX6 118 RX6 yX6_has wsX6_has) := goodIn_app (goodIn_of _ (by decide +kernel)) ggX6_row_X6_has
set_option maxRecDepth 20000 in
theorem ggX6_row_X6_in : GoodIn wsX6_row wsX6_in := goodIn_r _ [16] (by decide +kernel) (by decide +kernel)
set_option maxRecDepth 20000 in
theorem gX6_row_X6_in : GoodIn wsX6_row (va_wsS RX6 77 yX6_in wsX6_in) := goodIn_app (goodIn_of _ (by decide +kernel)) ggX6_row_X6_in
set_option maxRecDepth 20000 in
theorem ggX6_row_X6_copyAll : GoodIn wsX6_row wsX6_copyAll := goodIn_r _ [26, 27, 28, 29, 6, 30, 31, 32, 33, 51, 52, 53, 54, 55, 56, 57, 58, 59, 60, 61, 62, 63, 64, 65, 66, 67, 68, 69, 70, 71, 72, 73, 74, 75, 76, 77, 78, 79, 80] (by decide +kernel) (by decide +kernel)
set_option maxRecDepth 20000 in
theorem gX6_row_X6_copyAll : GoodIn wsX6_row (wsV RX6 107 RX6 yX6_copyAll wsX6_copyAll) := goodIn_app (goodIn_of _ (by decide +kernel)) ggX6_row_X6_copyAll
set_option maxRecDepth 20000 in
theorem ggX6_row_X6_newRow : GoodIn wsX6_row wsX6_newRow := goodIn_r _ [37, 32, 33, 51, 52, 53, 54, 55, 56, 57, 58, 59, 60, 61, 62, 63, 64, 65, 66, 67, 68, 69, 70, 71, 72, 73, 74, 75, 76, 77, 78, 79, 80] (by decide +kernel) (by decide +kernel)
set_option maxRecDepth 20000 in
theorem gX6_row_X6_newRow : GoodIn wsX6_row (wsV RX6 127 RX6 yX6_newRow wsX6_newRow) := goodIn_app (goodIn_of _ (by decide +kernel)) ggX6_row_X6_newRow
set_option maxRecDepth 20000 in
theorem ggX6_row_X6_changed : GoodIn wsX6_row wsX6_changed := goodIn_r _ [41, 2, 42, 43, 44, 6, 45, 31, 32, 33, 46, 47, 48, 49, 50, 23, 24, 25, 26, 27, 28, 29, 30, 51, 52, 53, 54, 55, 56, 57, 58, 59, 60, 61, 62, 63, 64, 65, 66, 67, 68, 69, 70, 71, 72, 73, 74, 75, 76, 77, 78, 79, 80] (by decide +kernel) (by decide +kernel)
set_option maxRecDepth 20000 in
theorem gX6_row_X6_changed : GoodIn wsX6_row (wsV RX6 122 RX6 yX6_changed wsX6_changed) := goodIn_app (goodIn_of _ (by decide +kernel)) ggX6_row_X6_changed
theorem dX6_row_0 : decode cX6_row 0 = .ok (.aload_n 0, 1) := by decide +kernel
theorem dX6_row_1 : decode cX6_row 1 = .ok (.iload_n 1, 1) := by decide +kernel
theorem dX6_row_2 : decode cX6_row 2 = .ok (.iload_n 2, 1) := by decide +kernel
theorem dX6_row_3 : decode cX6_row 3 = .ok (.iconst 2, 1) := by decide +kernel
theorem dX6_row_4 : decode cX6_row 4 = .ok (.invokevirtual 118, 3) := by decide +kernel
theorem dX6_row_7 : decode cX6_row 7 = .ok (.ifCond .eq 21, 3) := by decide +kernel
theorem dX6_row_10 : decode cX6_row 10 = .ok (.iload_n 3, 1) := by decide +kernel
theorem dX6_row_11 : decode cX6_row 11 = .ok (.bipush (-3), 2) := by decide +kernel
theorem dX6_row_13 : decode cX6_row 13 = .ok (.if_icmp .eq 17, 3) := by decide +kernel
theorem dX6_row_16 : decode cX6_row 16 = .ok (.iload_n 3, 1) := by decide +kernel
theorem dX6_row_17 : decode cX6_row 17 = .ok (.i2l, 1) := by decide +kernel
theorem dX6_row_18 : decode cX6_row 18 = .ok (.lconst 0, 1) := by decide +kernel
theorem dX6_row_19 : decode cX6_row 19 = .ok (.ldc2_w 125, 3) := by decide +kernel
theorem dX6_row_22 : decode cX6_row 22 = .ok (.invokestatic 77, 3) := by decide +kernel
theorem dX6_row_25 : decode cX6_row 25 = .ok (.ifCond .ne 5, 3) := by decide +kernel
theorem dX6_row_28 : decode cX6_row 28 = .ok (.iconst (-1), 1) := by decide +kernel
theorem dX6_row_29 : decode cX6_row 29 = .ok (.ireturn, 1) := by decide +kernel
theorem dX6_row_30 : decode cX6_row 30 = .ok (.aload_n 0, 1) := by decide +kernel
theorem dX6_row_31 : decode cX6_row 31 = .ok (.aload_n 0, 1) := by decide +kernel
theorem dX6_row_32 : decode cX6_row 32 = .ok (.getfield 104, 3) := by decide +kernel
theorem dX6_row_35 : decode cX6_row 35 = .ok (.bipush 41, 2) := by decide +kernel
theorem dX6_row_37 : decode cX6_row 37 = .ok (.invokevirtual 107, 3) := by decide +kernel
theorem dX6_row_40 : decode cX6_row 40 = .ok (.aload_n 0, 1) := by decide +kernel
theorem dX6_row_41 : decode cX6_row 41 = .ok (.bipush 8, 2) := by decide +kernel
theorem dX6_row_43 : decode cX6_row 43 = .ok (.iload_n 1, 1) := by decide +kernel
theorem dX6_row_44 : decode cX6_row 44 = .ok (.imul, 1) := by decide +kernel
theorem dX6_row_45 : decode cX6_row 45 = .ok (.iload_n 2, 1) := by decide +kernel
theorem dX6_row_46 : decode cX6_row 46 = .ok (.iadd, 1) := by decide +kernel
theorem dX6_row_47 : decode cX6_row 47 = .ok (.iload_n 3, 1) := by decide +kernel
theorem dX6_row_48 : decode cX6_row 48 = .ok (.invokevirtual 127, 3) := by decide +kernel
theorem dX6_row_51 : decode cX6_row 51 = .ok (.aload_n 0, 1) := by decide +kernel
theorem dX6_row_52 : decode cX6_row 52 = .ok (.bipush 8, 2) := by decide +kernel
theorem dX6_row_54 : decode cX6_row 54 = .ok (.iload_n 1, 1) := by decide +kernel
theorem dX6_row_55 : decode cX6_row 55 = .ok (.imul, 1) := by decide +kernel
theorem dX6_row_56 : decode cX6_row 56 = .ok (.iload_n 2, 1) := by decide +kernel
theorem dX6_row_57 : decode cX6_row 57 = .ok (.iadd, 1) := by decide +kernel
theorem dX6_row_58 : decode cX6_row 58 = .ok (.invokevirtual 122, 3) := by decide +kernel
theorem dX6_row_61 : decode cX6_row 61 = .ok (.ireturn, 1) := by decide +kernel
set_option maxRecDepth 20000 in
theorem ggX6_four_X6_in : GoodIn wsX6_four wsX6_in := goodIn_r _ [5] (by decide +kernel) (by decide +kernel)
set_option maxRecDepth 20000 in
theorem gX6_four_X6_in : GoodIn wsX6_four (va_wsS RX6 77 yX6_in wsX6_in) := goodIn_app (goodIn_of _ (by decide +kernel)) ggX6_four_X6_in
theorem dX6_four_0 : decode cX6_four 0 = .ok (.lload_n 0, 1) := by decide +kernel
theorem dX6_four_1 : decode cX6_four 1 = .ok (.lconst 0, 1) := by decide +kernel
theorem dX6_four_2 : decode cX6_four 2 = .ok (.ldc2_w 130, 3) := by decide +kernel
theorem dX6_four_5 : decode cX6_four 5 = .ok (.invokestatic 77, 3) := by decide +kernel
theorem dX6_four_8 : decode cX6_four 8 = .ok (.ireturn, 1) := by decide +kernel
set_option maxRecDepth 20000 in
theorem ggX6_eight_X6_in : GoodIn wsX6_eight wsX6_in := goodIn_r _ [5] (by decide +kernel) (by decide +kernel)
set_option maxRecDepth 20000 in
theorem gX6_eight_X6_in : GoodIn wsX6_eight (va_wsS RX6 77 yX6_in wsX6_in) := goodIn_app (goodIn_of _ (by decide +kernel)) ggX6_eight_X6_in
theorem dX6_eight_0 : decode cX6_eight 0 = .ok (.lload_n 0, 1) := by decide +kernel
theorem dX6_eight_1 : decode cX6_eight 1 = .ok (.lconst 0, 1) := by decide +kernel
theorem dX6_eight_2 : decode cX6_eight 2 = .ok (.ldc2_w 132, 3) := by decide +kernel
theorem dX6_eight_5 : decode cX6_eight 5 = .ok (.invokestatic 77, 3) := by decide +kernel
theorem dX6_eight_8 : decode cX6_eight 8 = .ok (.ireturn, 1) := by decide +kernel
set_option maxRecDepth 20000 in
theorem ggX6_isAct_X6_four : GoodIn wsX6_isAct wsX6_four := goodIn_r _ [5, 6, 7, 8, 4, 9] (by decide +kernel) (by decide +kernel)
set_option maxRecDepth 20000 in
theorem gX6_isAct_X6_four : GoodIn wsX6_isAct (va_wsS RX6 134 yX6_four wsX6_four) := goodIn_app (goodIn_of _ (by decide +kernel)) ggX6_isAct_X6_four
set_option maxRecDepth 20000 in
theorem ggX6_isAct_X6_eight : GoodIn wsX6_isAct wsX6_eight := goodIn_r _ [12, 13, 7, 8, 4, 9] (by decide +kernel) (by decide +kernel)
set_option maxRecDepth 20000 in
theorem gX6_isAct_X6_eight : GoodIn wsX6_isAct (va_wsS RX6 138 yX6_eight wsX6_eight) := goodIn_app (goodIn_of _ (by decide +kernel)) ggX6_isAct_X6_eight
set_option maxRecDepth 20000 in
theorem ggX6_isAct_X6_in : GoodIn wsX6_isAct wsX6_in := goodIn_r _ [9] (by decide +kernel) (by decide +kernel)
set_option maxRecDepth 20000 in
theorem gX6_isAct_X6_in : GoodIn wsX6_isAct (va_wsS RX6 77 yX6_in wsX6_in) := goodIn_app (goodIn_of _ (by decide +kernel)) ggX6_isAct_X6_in
theorem dX6_isAct_0 : decode cX6_isAct 0 = .ok (.iload_n 0, 1) := by decide +kernel
theorem dX6_isAct_1 : decode cX6_isAct 1 = .ok (.tableswitch 339 0 16 #[83, 89, 89, 89, 119, 149, 119, 149, 179, 218, 149, 257, 89, 89, 305, 314, 83], 83) := by decide +kernel
theorem dX6_isAct_84 : decode cX6_isAct 84 = .ok (.iload_n 1, 1) := by decide +kernel
theorem dX6_isAct_85 : decode cX6_isAct 85 = .ok (.i2l, 1) := by decide +kernel
theorem dX6_isAct_86 : decode cX6_isAct 86 = .ok (.invokestatic 134, 3) := by decide +kernel
theorem dX6_isAct_89 : decode cX6_isAct 89 = .ok (.ireturn, 1) := by decide +kernel
theorem dX6_isAct_90 : decode cX6_isAct 90 = .ok (.iload_n 1, 1) := by decide +kernel
theorem dX6_isAct_91 : decode cX6_isAct 91 = .ok (.i2l, 1) := by decide +kernel
theorem dX6_isAct_92 : decode cX6_isAct 92 = .ok (.invokestatic 134, 3) := by decide +kernel
theorem dX6_isAct_95 : decode cX6_isAct 95 = .ok (.ifCond .eq 23, 3) := by decide +kernel
theorem dX6_isAct_98 : decode cX6_isAct 98 = .ok (.lload_n 2, 1) := by decide +kernel
theorem dX6_isAct_99 : decode cX6_isAct 99 = .ok (.invokestatic 134, 3) := by decide +kernel
theorem dX6_isAct_102 : decode cX6_isAct 102 = .ok (.ifCond .eq 16, 3) := by decide +kernel
theorem dX6_isAct_105 : decode cX6_isAct 105 = .ok (.iload 4, 2) := by decide +kernel
theorem dX6_isAct_107 : decode cX6_isAct 107 = .ok (.i2l, 1) := by decide +kernel
theorem dX6_isAct_108 : decode cX6_isAct 108 = .ok (.invokestatic 134, 3) := by decide +kernel
theorem dX6_isAct_111 : decode cX6_isAct 111 = .ok (.ifCond .eq 7, 3) := by decide +kernel
theorem dX6_isAct_114 : decode cX6_isAct 114 = .ok (.iconst 1, 1) := by decide +kernel
theorem dX6_isAct_115 : decode cX6_isAct 115 = .ok (.goto 4, 3) := by decide +kernel
theorem dX6_isAct_118 : decode cX6_isAct 118 = .ok (.iconst 0, 1) := by decide +kernel
theorem dX6_isAct_119 : decode cX6_isAct 119 = .ok (.ireturn, 1) := by decide +kernel
theorem dX6_isAct_120 : decode cX6_isAct 120 = .ok (.iload_n 1, 1) := by decide +kernel
theorem dX6_isAct_121 : decode cX6_isAct 121 = .ok (.i2l, 1) := by decide +kernel
theorem dX6_isAct_122 : decode cX6_isAct 122 = .ok (.invokestatic 134, 3) := by decide +kernel
theorem dX6_isAct_125 : decode cX6_isAct 125 = .ok (.ifCond .eq 23, 3) := by decide +kernel
theorem dX6_isAct_128 : decode cX6_isAct 128 = .ok (.lload_n 2, 1) := by decide +kernel
theorem dX6_isAct_129 : decode cX6_isAct 129 = .ok (.invokestatic 134, 3) := by decide +kernel
theorem dX6_isAct_132 : decode cX6_isAct 132 = .ok (.ifCond .eq 16, 3) := by decide +kernel
theorem dX6_isAct_135 : decode cX6_isAct 135 = .ok (.iload 4, 2) := by decide +kernel
theorem dX6_isAct_137 : decode cX6_isAct 137 = .ok (.i2l, 1) := by decide +kernel
theorem dX6_isAct_138 : decode cX6_isAct 138 = .ok (.invokestatic 138, 3) := by decide +kernel
theorem dX6_isAct_141 : decode cX6_isAct 141 = .ok (.ifCond .eq 7, 3) := by decide +kernel
theorem dX6_isAct_144 : decode cX6_isAct 144 = .ok (.iconst 1, 1) := by decide +kernel
theorem dX6_isAct_145 : decode cX6_isAct 145 = .ok (.goto 4, 3) := by decide +kernel
theorem dX6_isAct_148 : decode cX6_isAct 148 = .ok (.iconst 0, 1) := by decide +kernel
theorem dX6_isAct_149 : decode cX6_isAct 149 = .ok (.ireturn, 1) := by decide +kernel
theorem dX6_isAct_150 : decode cX6_isAct 150 = .ok (.iload_n 1, 1) := by decide +kernel
theorem dX6_isAct_151 : decode cX6_isAct 151 = .ok (.i2l, 1) := by decide +kernel
theorem dX6_isAct_152 : decode cX6_isAct 152 = .ok (.invokestatic 134, 3) := by decide +kernel
theorem dX6_isAct_155 : decode cX6_isAct 155 = .ok (.ifCond .eq 23, 3) := by decide +kernel
theorem dX6_isAct_158 : decode cX6_isAct 158 = .ok (.lload_n 2, 1) := by decide +kernel
theorem dX6_isAct_159 : decode cX6_isAct 159 = .ok (.invokestatic 138, 3) := by decide +kernel
theorem dX6_isAct_162 : decode cX6_isAct 162 = .ok (.ifCond .eq 16, 3) := by decide +kernel
theorem dX6_isAct_165 : decode cX6_isAct 165 = .ok (.iload 4, 2) := by decide +kernel
theorem dX6_isAct_167 : decode cX6_isAct 167 = .ok (.i2l, 1) := by decide +kernel
theorem dX6_isAct_168 : decode cX6_isAct 168 = .ok (.invokestatic 134, 3) := by decide +kernel
theorem dX6_isAct_171 : decode cX6_isAct 171 = .ok (.ifCond .eq 7, 3) := by decide +kernel
theorem dX6_isAct_174 : decode cX6_isAct 174 = .ok (.iconst 1, 1) := by decide +kernel
theorem dX6_isAct_175 : decode cX6_isAct 175 = .ok (.goto 4, 3) := by decide +kernel
theorem dX6_isAct_178 : decode cX6_isAct 178 = .ok (.iconst 0, 1) := by decide +kernel
theorem dX6_isAct_179 : decode cX6_isAct 179 = .ok (.ireturn, 1) := by decide +kernel
theorem dX6_isAct_180 : decode cX6_isAct 180 = .ok (.iload_n 1, 1) := by decide +kernel
theorem dX6_isAct_181 : decode cX6_isAct 181 = .ok (.i2l, 1) := by decide +kernel
theorem dX6_isAct_182 : decode cX6_isAct 182 = .ok (.invokestatic 134, 3) := by decide +kernel
theorem dX6_isAct_185 : decode cX6_isAct 185 = .ok (.ifCond .eq 32, 3) := by decide +kernel
theorem dX6_isAct_188 : decode cX6_isAct 188 = .ok (.lload_n 2, 1) := by decide +kernel
theorem dX6_isAct_189 : decode cX6_isAct 189 = .ok (.invokestatic 134, 3) := by decide +kernel
theorem dX6_isAct_192 : decode cX6_isAct 192 = .ok (.ifCond .eq 25, 3) := by decide +kernel
theorem dX6_isAct_195 : decode cX6_isAct 195 = .ok (.iload 4, 2) := by decide +kernel
theorem dX6_isAct_197 : decode cX6_isAct 197 = .ok (.i2l, 1) := by decide +kernel
theorem dX6_isAct_198 : decode cX6_isAct 198 = .ok (.invokestatic 138, 3) := by decide +kernel
theorem dX6_isAct_201 : decode cX6_isAct 201 = .ok (.ifCond .eq 16, 3) := by decide +kernel
theorem dX6_isAct_204 : decode cX6_isAct 204 = .ok (.iload 5, 2) := by decide +kernel
theorem dX6_isAct_206 : decode cX6_isAct 206 = .ok (.i2l, 1) := by decide +kernel
theorem dX6_isAct_207 : decode cX6_isAct 207 = .ok (.invokestatic 134, 3) := by decide +kernel
theorem dX6_isAct_210 : decode cX6_isAct 210 = .ok (.ifCond .eq 7, 3) := by decide +kernel
theorem dX6_isAct_213 : decode cX6_isAct 213 = .ok (.iconst 1, 1) := by decide +kernel
theorem dX6_isAct_214 : decode cX6_isAct 214 = .ok (.goto 4, 3) := by decide +kernel
theorem dX6_isAct_217 : decode cX6_isAct 217 = .ok (.iconst 0, 1) := by decide +kernel
theorem dX6_isAct_218 : decode cX6_isAct 218 = .ok (.ireturn, 1) := by decide +kernel
theorem dX6_isAct_219 : decode cX6_isAct 219 = .ok (.iload_n 1, 1) := by decide +kernel
theorem dX6_isAct_220 : decode cX6_isAct 220 = .ok (.i2l, 1) := by decide +kernel
theorem dX6_isAct_221 : decode cX6_isAct 221 = .ok (.invokestatic 134, 3) := by decide +kernel
theorem dX6_isAct_224 : decode cX6_isAct 224 = .ok (.ifCond .eq 32, 3) := by decide +kernel
theorem dX6_isAct_227 : decode cX6_isAct 227 = .ok (.lload_n 2, 1) := by decide +kernel
theorem dX6_isAct_228 : decode cX6_isAct 228 = .ok (.invokestatic 138, 3) := by decide +kernel
theorem dX6_isAct_231 : decode cX6_isAct 231 = .ok (.ifCond .eq 25, 3) := by decide +kernel
theorem dX6_isAct_234 : decode cX6_isAct 234 = .ok (.iload 4, 2) := by decide +kernel
theorem dX6_isAct_236 : decode cX6_isAct 236 = .ok (.i2l, 1) := by decide +kernel
theorem dX6_isAct_237 : decode cX6_isAct 237 = .ok (.invokestatic 134, 3) := by decide +kernel
theorem dX6_isAct_240 : decode cX6_isAct 240 = .ok (.ifCond .eq 16, 3) := by decide +kernel
theorem dX6_isAct_243 : decode cX6_isAct 243 = .ok (.iload 5, 2) := by decide +kernel
theorem dX6_isAct_245 : decode cX6_isAct 245 = .ok (.i2l, 1) := by decide +kernel
theorem dX6_isAct_246 : decode cX6_isAct 246 = .ok (.invokestatic 134, 3) := by decide +kernel
theorem dX6_isAct_249 : decode cX6_isAct 249 = .ok (.ifCond .eq 7, 3) := by decide +kernel
theorem dX6_isAct_252 : decode cX6_isAct 252 = .ok (.iconst 1, 1) := by decide +kernel
theorem dX6_isAct_253 : decode cX6_isAct 253 = .ok (.goto 4, 3) := by decide +kernel
theorem dX6_isAct_256 : decode cX6_isAct 256 = .ok (.iconst 0, 1) := by decide +kernel
theorem dX6_isAct_257 : decode cX6_isAct 257 = .ok (.ireturn, 1) := by decide +kernel
theorem dX6_isAct_258 : decode cX6_isAct 258 = .ok (.iload_n 1, 1) := by decide +kernel
theorem dX6_isAct_259 : decode cX6_isAct 259 = .ok (.i2l, 1) := by decide +kernel
theorem dX6_isAct_260 : decode cX6_isAct 260 = .ok (.invokestatic 134, 3) := by decide +kernel
theorem dX6_isAct_263 : decode cX6_isAct 263 = .ok (.ifCond .eq 41, 3) := by decide +kernel
theorem dX6_isAct_266 : decode cX6_isAct 266 = .ok (.lload_n 2, 1) := by decide +kernel
theorem dX6_isAct_267 : decode cX6_isAct 267 = .ok (.invokestatic 138, 3) := by decide +kernel
theorem dX6_isAct_270 : decode cX6_isAct 270 = .ok (.ifCond .eq 34, 3) := by decide +kernel
theorem dX6_isAct_273 : decode cX6_isAct 273 = .ok (.iload 4, 2) := by decide +kernel
theorem dX6_isAct_275 : decode cX6_isAct 275 = .ok (.i2l, 1) := by decide +kernel
theorem dX6_isAct_276 : decode cX6_isAct 276 = .ok (.invokestatic 134, 3) := by decide +kernel
theorem dX6_isAct_279 : decode cX6_isAct 279 = .ok (.ifCond .eq 25, 3) := by decide +kernel
theorem dX6_isAct_282 : decode cX6_isAct 282 = .ok (.iload 5, 2) := by decide +kernel
theorem dX6_isAct_284 : decode cX6_isAct 284 = .ok (.i2l, 1) := by decide +kernel
theorem dX6_isAct_285 : decode cX6_isAct 285 = .ok (.invokestatic 138, 3) := by decide +kernel
theorem dX6_isAct_288 : decode cX6_isAct 288 = .ok (.ifCond .eq 16, 3) := by decide +kernel
theorem dX6_isAct_291 : decode cX6_isAct 291 = .ok (.iload 6, 2) := by decide +kernel
theorem dX6_isAct_293 : decode cX6_isAct 293 = .ok (.i2l, 1) := by decide +kernel
theorem dX6_isAct_294 : decode cX6_isAct 294 = .ok (.invokestatic 134, 3) := by decide +kernel
theorem dX6_isAct_297 : decode cX6_isAct 297 = .ok (.ifCond .eq 7, 3) := by decide +kernel
theorem dX6_isAct_300 : decode cX6_isAct 300 = .ok (.iconst 1, 1) := by decide +kernel
theorem dX6_isAct_301 : decode cX6_isAct 301 = .ok (.goto 4, 3) := by decide +kernel
theorem dX6_isAct_304 : decode cX6_isAct 304 = .ok (.iconst 0, 1) := by decide +kernel
theorem dX6_isAct_305 : decode cX6_isAct 305 = .ok (.ireturn, 1) := by decide +kernel
theorem dX6_isAct_306 : decode cX6_isAct 306 = .ok (.lload_n 2, 1) := by decide +kernel
theorem dX6_isAct_307 : decode cX6_isAct 307 = .ok (.lconst 0, 1) := by decide +kernel
theorem dX6_isAct_308 : decode cX6_isAct 308 = .ok (.ldc2_w 141, 3) := by decide +kernel
theorem dX6_isAct_311 : decode cX6_isAct 311 = .ok (.invokestatic 77, 3) := by decide +kernel
theorem dX6_isAct_314 : decode cX6_isAct 314 = .ok (.ireturn, 1) := by decide +kernel
theorem dX6_isAct_315 : decode cX6_isAct 315 = .ok (.iload_n 1, 1) := by decide +kernel
theorem dX6_isAct_316 : decode cX6_isAct 316 = .ok (.i2l, 1) := by decide +kernel
theorem dX6_isAct_317 : decode cX6_isAct 317 = .ok (.invokestatic 134, 3) := by decide +kernel
theorem dX6_isAct_320 : decode cX6_isAct 320 = .ok (.ifCond .eq 18, 3) := by decide +kernel
theorem dX6_isAct_323 : decode cX6_isAct 323 = .ok (.lload_n 2, 1) := by decide +kernel
theorem dX6_isAct_324 : decode cX6_isAct 324 = .ok (.lconst 0, 1) := by decide +kernel
theorem dX6_isAct_325 : decode cX6_isAct 325 = .ok (.ldc2_w 141, 3) := by decide +kernel
theorem dX6_isAct_328 : decode cX6_isAct 328 = .ok (.invokestatic 77, 3) := by decide +kernel
theorem dX6_isAct_331 : decode cX6_isAct 331 = .ok (.ifCond .eq 7, 3) := by decide +kernel
theorem dX6_isAct_334 : decode cX6_isAct 334 = .ok (.iconst 1, 1) := by decide +kernel
theorem dX6_isAct_335 : decode cX6_isAct 335 = .ok (.goto 4, 3) := by decide +kernel
theorem dX6_isAct_338 : decode cX6_isAct 338 = .ok (.iconst 0, 1) := by decide +kernel
theorem dX6_isAct_339 : decode cX6_isAct 339 = .ok (.ireturn, 1) := by decide +kernel
theorem dX6_isAct_340 : decode cX6_isAct 340 = .ok (.iload_n 0, 1) := by decide +kernel
theorem dX6_isAct_341 : decode cX6_isAct 341 = .ok (.bipush 17, 2) := by decide +kernel
theorem dX6_isAct_343 : decode cX6_isAct 343 = .ok (.if_icmp .ne 7, 3) := by decide +kernel
theorem dX6_isAct_346 : decode cX6_isAct 346 = .ok (.iconst 1, 1) := by decide +kernel
theorem dX6_isAct_347 : decode cX6_isAct 347 = .ok (.goto 4, 3) := by decide +kernel
theorem dX6_isAct_350 : decode cX6_isAct 350 = .ok (.iconst 0, 1) := by decide +kernel
theorem dX6_isAct_351 : decode cX6_isAct 351 = .ok (.ireturn, 1) := by decide +kernel
set_option maxRecDepth 20000 in
theorem ggX6_act_X6_in : GoodIn wsX6_act wsX6_in := goodIn_r _ [12] (by decide +kernel) (by decide +kernel)
set_option maxRecDepth 20000 in
theorem gX6_act_X6_in : GoodIn wsX6_act (va_wsS RX6 77 yX6_in wsX6_in) := goodIn_app (goodIn_of _ (by decide +kernel)) ggX6_act_X6_in
set_option maxRecDepth 20000 in
theorem ggX6_act_X6_isAct : GoodIn wsX6_act wsX6_isAct := goodIn_r _ [15, 16, 17, 18, 11, 19, 20, 9, 10, 12, 21, 22, 23, 24] (by decide +kernel) (by decide +kernel)
set_option maxRecDepth 20000 in
theorem gX6_act_X6_isAct : GoodIn wsX6_act (va_wsS RX6 145 yX6_isAct wsX6_isAct) := goodIn_app (goodIn_of _ (by decide +kernel)) ggX6_act_X6_isAct
theorem dX6_act_0 : decode cX6_act 0 = .ok (.iload_n 1, 1) := by decide +kernel
theorem dX6_act_1 : decode cX6_act 1 = .ok (.i2l, 1) := by decide +kernel
theorem dX6_act_2 : decode cX6_act 2 = .ok (.lconst 0, 1) := by decide +kernel
theorem dX6_act_3 : decode cX6_act 3 = .ok (.ldc2_w 143, 3) := by decide +kernel
theorem dX6_act_6 : decode cX6_act 6 = .ok (.invokestatic 77, 3) := by decide +kernel
theorem dX6_act_9 : decode cX6_act 9 = .ok (.ifCond .eq 19, 3) := by decide +kernel
theorem dX6_act_12 : decode cX6_act 12 = .ok (.iload_n 2, 1) := by decide +kernel
theorem dX6_act_13 : decode cX6_act 13 = .ok (.iload_n 3, 1) := by decide +kernel
theorem dX6_act_14 : decode cX6_act 14 = .ok (.lload 4, 2) := by decide +kernel
theorem dX6_act_16 : decode cX6_act 16 = .ok (.iload 6, 2) := by decide +kernel
theorem dX6_act_18 : decode cX6_act 18 = .ok (.iload 7, 2) := by decide +kernel
theorem dX6_act_20 : decode cX6_act 20 = .ok (.iload 8, 2) := by decide +kernel
theorem dX6_act_22 : decode cX6_act 22 = .ok (.invokestatic 145, 3) := by decide +kernel
theorem dX6_act_25 : decode cX6_act 25 = .ok (.ifCond .ne 5, 3) := by decide +kernel
theorem dX6_act_28 : decode cX6_act 28 = .ok (.iconst (-1), 1) := by decide +kernel
theorem dX6_act_29 : decode cX6_act 29 = .ok (.ireturn, 1) := by decide +kernel
theorem dX6_act_30 : decode cX6_act 30 = .ok (.aload_n 0, 1) := by decide +kernel
theorem dX6_act_31 : decode cX6_act 31 = .ok (.getfield 31, 3) := by decide +kernel
theorem dX6_act_34 : decode cX6_act 34 = .ok (.iload_n 1, 1) := by decide +kernel
end
section
theorem dX6_act_35 : decode cX6_act 35 = .ok (.iaload, 1) := by decide +kernel
theorem dX6_act_36 : decode cX6_act 36 = .ok (.bipush 32, 2) := by decide +kernel
theorem dX6_act_38 : decode cX6_act 38 = .ok (.if_icmp .ne 6, 3) := by decide +kernel
theorem dX6_act_41 : decode cX6_act 41 = .ok (.bipush (-2), 2) := by decide +kernel
theorem dX6_act_43 : decode cX6_act 43 = .ok (.ireturn, 1) := by decide +kernel
theorem dX6_act_44 : decode cX6_act 44 = .ok (.bipush 32, 2) := by decide +kernel
theorem dX6_act_46 : decode cX6_act 46 = .ok (.iload_n 1, 1) := by decide +kernel
theorem dX6_act_47 : decode cX6_act 47 = .ok (.imul, 1) := by decide +kernel
theorem dX6_act_48 : decode cX6_act 48 = .ok (.aload_n 0, 1) := by decide +kernel
theorem dX6_act_49 : decode cX6_act 49 = .ok (.getfield 31, 3) := by decide +kernel
theorem dX6_act_52 : decode cX6_act 52 = .ok (.iload_n 1, 1) := by decide +kernel
theorem dX6_act_53 : decode cX6_act 53 = .ok (.iaload, 1) := by decide +kernel
theorem dX6_act_54 : decode cX6_act 54 = .ok (.iadd, 1) := by decide +kernel
theorem dX6_act_55 : decode cX6_act 55 = .ok (.istore 9, 2) := by decide +kernel
theorem dX6_act_57 : decode cX6_act 57 = .ok (.aload_n 0, 1) := by decide +kernel
theorem dX6_act_58 : decode cX6_act 58 = .ok (.getfield 34, 3) := by decide +kernel
theorem dX6_act_61 : decode cX6_act 61 = .ok (.iload 9, 2) := by decide +kernel
theorem dX6_act_63 : decode cX6_act 63 = .ok (.iload_n 2, 1) := by decide +kernel
theorem dX6_act_64 : decode cX6_act 64 = .ok (.iastore, 1) := by decide +kernel
theorem dX6_act_65 : decode cX6_act 65 = .ok (.aload_n 0, 1) := by decide +kernel
theorem dX6_act_66 : decode cX6_act 66 = .ok (.getfield 37, 3) := by decide +kernel
theorem dX6_act_69 : decode cX6_act 69 = .ok (.iload 9, 2) := by decide +kernel
theorem dX6_act_71 : decode cX6_act 71 = .ok (.iload_n 3, 1) := by decide +kernel
theorem dX6_act_72 : decode cX6_act 72 = .ok (.iastore, 1) := by decide +kernel
theorem dX6_act_73 : decode cX6_act 73 = .ok (.aload_n 0, 1) := by decide +kernel
theorem dX6_act_74 : decode cX6_act 74 = .ok (.getfield 40, 3) := by decide +kernel
theorem dX6_act_77 : decode cX6_act 77 = .ok (.iload 9, 2) := by decide +kernel
theorem dX6_act_79 : decode cX6_act 79 = .ok (.lload 4, 2) := by decide +kernel
theorem dX6_act_81 : decode cX6_act 81 = .ok (.lastore, 1) := by decide +kernel
theorem dX6_act_82 : decode cX6_act 82 = .ok (.aload_n 0, 1) := by decide +kernel
theorem dX6_act_83 : decode cX6_act 83 = .ok (.getfield 43, 3) := by decide +kernel
theorem dX6_act_86 : decode cX6_act 86 = .ok (.iload 9, 2) := by decide +kernel
theorem dX6_act_88 : decode cX6_act 88 = .ok (.iload 6, 2) := by decide +kernel
theorem dX6_act_90 : decode cX6_act 90 = .ok (.iastore, 1) := by decide +kernel
theorem dX6_act_91 : decode cX6_act 91 = .ok (.aload_n 0, 1) := by decide +kernel
theorem dX6_act_92 : decode cX6_act 92 = .ok (.getfield 46, 3) := by decide +kernel
theorem dX6_act_95 : decode cX6_act 95 = .ok (.iload 9, 2) := by decide +kernel
theorem dX6_act_97 : decode cX6_act 97 = .ok (.iload 7, 2) := by decide +kernel
theorem dX6_act_99 : decode cX6_act 99 = .ok (.iastore, 1) := by decide +kernel
theorem dX6_act_100 : decode cX6_act 100 = .ok (.aload_n 0, 1) := by decide +kernel
theorem dX6_act_101 : decode cX6_act 101 = .ok (.getfield 49, 3) := by decide +kernel
theorem dX6_act_104 : decode cX6_act 104 = .ok (.iload 9, 2) := by decide +kernel
theorem dX6_act_106 : decode cX6_act 106 = .ok (.iload 8, 2) := by decide +kernel
theorem dX6_act_108 : decode cX6_act 108 = .ok (.iastore, 1) := by decide +kernel
theorem dX6_act_109 : decode cX6_act 109 = .ok (.aload_n 0, 1) := by decide +kernel
theorem dX6_act_110 : decode cX6_act 110 = .ok (.getfield 31, 3) := by decide +kernel
theorem dX6_act_113 : decode cX6_act 113 = .ok (.iload_n 1, 1) := by decide +kernel
theorem dX6_act_114 : decode cX6_act 114 = .ok (.dup2, 1) := by decide +kernel
theorem dX6_act_115 : decode cX6_act 115 = .ok (.iaload, 1) := by decide +kernel
theorem dX6_act_116 : decode cX6_act 116 = .ok (.iconst 1, 1) := by decide +kernel
theorem dX6_act_117 : decode cX6_act 117 = .ok (.iadd, 1) := by decide +kernel
theorem dX6_act_118 : decode cX6_act 118 = .ok (.iastore, 1) := by decide +kernel
theorem dX6_act_119 : decode cX6_act 119 = .ok (.aload_n 0, 1) := by decide +kernel
theorem dX6_act_120 : decode cX6_act 120 = .ok (.getfield 31, 3) := by decide +kernel
theorem dX6_act_123 : decode cX6_act 123 = .ok (.iload_n 1, 1) := by decide +kernel
theorem dX6_act_124 : decode cX6_act 124 = .ok (.iaload, 1) := by decide +kernel
theorem dX6_act_125 : decode cX6_act 125 = .ok (.iconst 1, 1) := by decide +kernel
theorem dX6_act_126 : decode cX6_act 126 = .ok (.isub, 1) := by decide +kernel
theorem dX6_act_127 : decode cX6_act 127 = .ok (.ireturn, 1) := by decide +kernel
set_option maxRecDepth 20000 in
theorem ggX6_clear_X6_in : GoodIn wsX6_clear wsX6_in := goodIn_r _ [6] (by decide +kernel) (by decide +kernel)
set_option maxRecDepth 20000 in
theorem gX6_clear_X6_in : GoodIn wsX6_clear (va_wsS RX6 77 yX6_in wsX6_in) := goodIn_app (goodIn_of _ (by decide +kernel)) ggX6_clear_X6_in
theorem dX6_clear_0 : decode cX6_clear 0 = .ok (.iload_n 1, 1) := by decide +kernel
theorem dX6_clear_1 : decode cX6_clear 1 = .ok (.i2l, 1) := by decide +kernel
theorem dX6_clear_2 : decode cX6_clear 2 = .ok (.lconst 0, 1) := by decide +kernel
theorem dX6_clear_3 : decode cX6_clear 3 = .ok (.ldc2_w 143, 3) := by decide +kernel
theorem dX6_clear_6 : decode cX6_clear 6 = .ok (.invokestatic 77, 3) := by decide +kernel
theorem dX6_clear_9 : decode cX6_clear 9 = .ok (.ifCond .ne 5, 3) := by decide +kernel
theorem dX6_clear_12 : decode cX6_clear 12 = .ok (.iconst (-1), 1) := by decide +kernel
theorem dX6_clear_13 : decode cX6_clear 13 = .ok (.ireturn, 1) := by decide +kernel
theorem dX6_clear_14 : decode cX6_clear 14 = .ok (.aload_n 0, 1) := by decide +kernel
theorem dX6_clear_15 : decode cX6_clear 15 = .ok (.getfield 31, 3) := by decide +kernel
theorem dX6_clear_18 : decode cX6_clear 18 = .ok (.iload_n 1, 1) := by decide +kernel
theorem dX6_clear_19 : decode cX6_clear 19 = .ok (.iaload, 1) := by decide +kernel
theorem dX6_clear_20 : decode cX6_clear 20 = .ok (.istore_n 2, 1) := by decide +kernel
theorem dX6_clear_21 : decode cX6_clear 21 = .ok (.aload_n 0, 1) := by decide +kernel
theorem dX6_clear_22 : decode cX6_clear 22 = .ok (.getfield 31, 3) := by decide +kernel
theorem dX6_clear_25 : decode cX6_clear 25 = .ok (.iload_n 1, 1) := by decide +kernel
theorem dX6_clear_26 : decode cX6_clear 26 = .ok (.iconst 0, 1) := by decide +kernel
theorem dX6_clear_27 : decode cX6_clear 27 = .ok (.iastore, 1) := by decide +kernel
theorem dX6_clear_28 : decode cX6_clear 28 = .ok (.iload_n 2, 1) := by decide +kernel
theorem dX6_clear_29 : decode cX6_clear 29 = .ok (.ireturn, 1) := by decide +kernel
theorem dX6_load_0 : decode cX6_load 0 = .ok (.aload_n 0, 1) := by decide +kernel
theorem dX6_load_1 : decode cX6_load 1 = .ok (.getfield 65, 3) := by decide +kernel
theorem dX6_load_4 : decode cX6_load 4 = .ok (.iload_n 1, 1) := by decide +kernel
theorem dX6_load_5 : decode cX6_load 5 = .ok (.baload, 1) := by decide +kernel
theorem dX6_load_6 : decode cX6_load 6 = .ok (.ifCond .ne 40, 3) := by decide +kernel
theorem dX6_load_9 : decode cX6_load 9 = .ok (.aload_n 0, 1) := by decide +kernel
theorem dX6_load_10 : decode cX6_load 10 = .ok (.getfield 65, 3) := by decide +kernel
theorem dX6_load_13 : decode cX6_load 13 = .ok (.iload_n 1, 1) := by decide +kernel
theorem dX6_load_14 : decode cX6_load 14 = .ok (.iconst 1, 1) := by decide +kernel
theorem dX6_load_15 : decode cX6_load 15 = .ok (.bastore, 1) := by decide +kernel
theorem dX6_load_16 : decode cX6_load 16 = .ok (.aload_n 0, 1) := by decide +kernel
theorem dX6_load_17 : decode cX6_load 17 = .ok (.dup, 1) := by decide +kernel
theorem dX6_load_18 : decode cX6_load 18 = .ok (.getfield 149, 3) := by decide +kernel
theorem dX6_load_21 : decode cX6_load 21 = .ok (.aload_n 0, 1) := by decide +kernel
theorem dX6_load_22 : decode cX6_load 22 = .ok (.getfield 24, 3) := by decide +kernel
theorem dX6_load_25 : decode cX6_load 25 = .ok (.iload_n 1, 1) := by decide +kernel
theorem dX6_load_26 : decode cX6_load 26 = .ok (.baload, 1) := by decide +kernel
theorem dX6_load_27 : decode cX6_load 27 = .ok (.ifCond .eq 7, 3) := by decide +kernel
theorem dX6_load_30 : decode cX6_load 30 = .ok (.iconst 0, 1) := by decide +kernel
theorem dX6_load_31 : decode cX6_load 31 = .ok (.goto 4, 3) := by decide +kernel
theorem dX6_load_34 : decode cX6_load 34 = .ok (.iconst 1, 1) := by decide +kernel
theorem dX6_load_35 : decode cX6_load 35 = .ok (.iadd, 1) := by decide +kernel
theorem dX6_load_36 : decode cX6_load 36 = .ok (.putfield 149, 3) := by decide +kernel
theorem dX6_load_39 : decode cX6_load 39 = .ok (.aload_n 0, 1) := by decide +kernel
theorem dX6_load_40 : decode cX6_load 40 = .ok (.getfield 24, 3) := by decide +kernel
theorem dX6_load_43 : decode cX6_load 43 = .ok (.iload_n 1, 1) := by decide +kernel
theorem dX6_load_44 : decode cX6_load 44 = .ok (.iconst 1, 1) := by decide +kernel
theorem dX6_load_45 : decode cX6_load 45 = .ok (.bastore, 1) := by decide +kernel
theorem dX6_load_46 : decode cX6_load 46 = .ok (.return_, 1) := by decide +kernel
theorem dX6_touch_0 : decode cX6_touch 0 = .ok (.iconst 0, 1) := by decide +kernel
theorem dX6_touch_1 : decode cX6_touch 1 = .ok (.istore_n 3, 1) := by decide +kernel
theorem dX6_touch_2 : decode cX6_touch 2 = .ok (.iconst 0, 1) := by decide +kernel
theorem dX6_touch_3 : decode cX6_touch 3 = .ok (.istore 4, 2) := by decide +kernel
theorem dX6_touch_5 : decode cX6_touch 5 = .ok (.iload 4, 2) := by decide +kernel
theorem dX6_touch_7 : decode cX6_touch 7 = .ok (.aload_n 0, 1) := by decide +kernel
theorem dX6_touch_8 : decode cX6_touch 8 = .ok (.getfield 152, 3) := by decide +kernel
theorem dX6_touch_11 : decode cX6_touch 11 = .ok (.if_icmp .ge 39, 3) := by decide +kernel
theorem dX6_touch_14 : decode cX6_touch 14 = .ok (.iload_n 3, 1) := by decide +kernel
theorem dX6_touch_15 : decode cX6_touch 15 = .ok (.aload_n 0, 1) := by decide +kernel
theorem dX6_touch_16 : decode cX6_touch 16 = .ok (.getfield 56, 3) := by decide +kernel
theorem dX6_touch_19 : decode cX6_touch 19 = .ok (.iload 4, 2) := by decide +kernel
theorem dX6_touch_21 : decode cX6_touch 21 = .ok (.iaload, 1) := by decide +kernel
theorem dX6_touch_22 : decode cX6_touch 22 = .ok (.iload_n 1, 1) := by decide +kernel
theorem dX6_touch_23 : decode cX6_touch 23 = .ok (.if_icmp .ne 18, 3) := by decide +kernel
theorem dX6_touch_26 : decode cX6_touch 26 = .ok (.aload_n 0, 1) := by decide +kernel
theorem dX6_touch_27 : decode cX6_touch 27 = .ok (.getfield 59, 3) := by decide +kernel
theorem dX6_touch_30 : decode cX6_touch 30 = .ok (.iload 4, 2) := by decide +kernel
theorem dX6_touch_32 : decode cX6_touch 32 = .ok (.iaload, 1) := by decide +kernel
theorem dX6_touch_33 : decode cX6_touch 33 = .ok (.iload_n 2, 1) := by decide +kernel
theorem dX6_touch_34 : decode cX6_touch 34 = .ok (.if_icmp .ne 7, 3) := by decide +kernel
theorem dX6_touch_37 : decode cX6_touch 37 = .ok (.iconst 1, 1) := by decide +kernel
theorem dX6_touch_38 : decode cX6_touch 38 = .ok (.goto 4, 3) := by decide +kernel
theorem dX6_touch_41 : decode cX6_touch 41 = .ok (.iconst 0, 1) := by decide +kernel
theorem dX6_touch_42 : decode cX6_touch 42 = .ok (.ior, 1) := by decide +kernel
theorem dX6_touch_43 : decode cX6_touch 43 = .ok (.istore_n 3, 1) := by decide +kernel
theorem dX6_touch_44 : decode cX6_touch 44 = .ok (.iinc 4 1, 3) := by decide +kernel
theorem dX6_touch_47 : decode cX6_touch 47 = .ok (.goto (-42), 3) := by decide +kernel
theorem dX6_touch_50 : decode cX6_touch 50 = .ok (.iload_n 3, 1) := by decide +kernel
theorem dX6_touch_51 : decode cX6_touch 51 = .ok (.ifCond .ne 33, 3) := by decide +kernel
theorem dX6_touch_54 : decode cX6_touch 54 = .ok (.aload_n 0, 1) := by decide +kernel
theorem dX6_touch_55 : decode cX6_touch 55 = .ok (.getfield 56, 3) := by decide +kernel
theorem dX6_touch_58 : decode cX6_touch 58 = .ok (.aload_n 0, 1) := by decide +kernel
theorem dX6_touch_59 : decode cX6_touch 59 = .ok (.getfield 152, 3) := by decide +kernel
theorem dX6_touch_62 : decode cX6_touch 62 = .ok (.iload_n 1, 1) := by decide +kernel
theorem dX6_touch_63 : decode cX6_touch 63 = .ok (.iastore, 1) := by decide +kernel
theorem dX6_touch_64 : decode cX6_touch 64 = .ok (.aload_n 0, 1) := by decide +kernel
theorem dX6_touch_65 : decode cX6_touch 65 = .ok (.getfield 59, 3) := by decide +kernel
theorem dX6_touch_68 : decode cX6_touch 68 = .ok (.aload_n 0, 1) := by decide +kernel
theorem dX6_touch_69 : decode cX6_touch 69 = .ok (.getfield 152, 3) := by decide +kernel
theorem dX6_touch_72 : decode cX6_touch 72 = .ok (.iload_n 2, 1) := by decide +kernel
theorem dX6_touch_73 : decode cX6_touch 73 = .ok (.iastore, 1) := by decide +kernel
theorem dX6_touch_74 : decode cX6_touch 74 = .ok (.aload_n 0, 1) := by decide +kernel
theorem dX6_touch_75 : decode cX6_touch 75 = .ok (.dup, 1) := by decide +kernel
theorem dX6_touch_76 : decode cX6_touch 76 = .ok (.getfield 152, 3) := by decide +kernel
theorem dX6_touch_79 : decode cX6_touch 79 = .ok (.iconst 1, 1) := by decide +kernel
theorem dX6_touch_80 : decode cX6_touch 80 = .ok (.iadd, 1) := by decide +kernel
theorem dX6_touch_81 : decode cX6_touch 81 = .ok (.putfield 152, 3) := by decide +kernel
theorem dX6_touch_84 : decode cX6_touch 84 = .ok (.return_, 1) := by decide +kernel
set_option maxRecDepth 20000 in
theorem ggX6_leafOf_X6_load : GoodIn wsX6_leafOf wsX6_load := goodIn_r _ [8, 9, 10, 11, 18, 19, 20, 21, 22, 23, 24, 25, 26, 27, 28, 29, 30, 31, 32, 33, 34, 35, 36, 37, 38, 39, 40, 41, 42, 43, 44, 45, 46, 47] (by decide +kernel) (by decide +kernel)
set_option maxRecDepth 20000 in
theorem gX6_leafOf_X6_load : GoodIn wsX6_leafOf (wsV RX6 158 RX6 yX6_load wsX6_load) := goodIn_app (goodIn_of _ (by decide +kernel)) ggX6_leafOf_X6_load
set_option maxRecDepth 20000 in
theorem ggX6_leafOf_X6_fieldsOf : GoodIn wsX6_leafOf wsX6_fieldsOf := goodIn_r _ [14] (by decide +kernel) (by decide +kernel)
set_option maxRecDepth 20000 in
theorem gX6_leafOf_X6_fieldsOf : GoodIn wsX6_leafOf (va_wsS RX6 85 yX6_fieldsOf wsX6_fieldsOf) := goodIn_app (goodIn_of _ (by decide +kernel)) ggX6_leafOf_X6_fieldsOf
set_option maxRecDepth 20000 in
theorem ggX6_leafOf_X6_sortOf : GoodIn wsX6_leafOf wsX6_sortOf := goodIn_r _ [17] (by decide +kernel) (by decide +kernel)
set_option maxRecDepth 20000 in
theorem gX6_leafOf_X6_sortOf : GoodIn wsX6_leafOf (va_wsS RX6 89 yX6_sortOf wsX6_sortOf) := goodIn_app (goodIn_of _ (by decide +kernel)) ggX6_leafOf_X6_sortOf
theorem dX6_leafOf_0 : decode cX6_leafOf 0 = .ok (.aload_n 0, 1) := by decide +kernel
theorem dX6_leafOf_1 : decode cX6_leafOf 1 = .ok (.getfield 68, 3) := by decide +kernel
theorem dX6_leafOf_4 : decode cX6_leafOf 4 = .ok (.iload_n 1, 1) := by decide +kernel
theorem dX6_leafOf_5 : decode cX6_leafOf 5 = .ok (.iaload, 1) := by decide +kernel
theorem dX6_leafOf_6 : decode cX6_leafOf 6 = .ok (.istore 5, 2) := by decide +kernel
theorem dX6_leafOf_8 : decode cX6_leafOf 8 = .ok (.iload 5, 2) := by decide +kernel
theorem dX6_leafOf_10 : decode cX6_leafOf 10 = .ok (.ifCond .ge 10, 3) := by decide +kernel
theorem dX6_leafOf_13 : decode cX6_leafOf 13 = .ok (.aload_n 0, 1) := by decide +kernel
theorem dX6_leafOf_14 : decode cX6_leafOf 14 = .ok (.iconst 1, 1) := by decide +kernel
theorem dX6_leafOf_15 : decode cX6_leafOf 15 = .ok (.putfield 155, 3) := by decide +kernel
theorem dX6_leafOf_18 : decode cX6_leafOf 18 = .ok (.iconst (-1), 1) := by decide +kernel
theorem dX6_leafOf_19 : decode cX6_leafOf 19 = .ok (.ireturn, 1) := by decide +kernel
theorem dX6_leafOf_20 : decode cX6_leafOf 20 = .ok (.aload_n 0, 1) := by decide +kernel
theorem dX6_leafOf_21 : decode cX6_leafOf 21 = .ok (.iload 5, 2) := by decide +kernel
theorem dX6_leafOf_23 : decode cX6_leafOf 23 = .ok (.invokevirtual 158, 3) := by decide +kernel
theorem dX6_leafOf_26 : decode cX6_leafOf 26 = .ok (.lload_n 2, 1) := by decide +kernel
theorem dX6_leafOf_27 : decode cX6_leafOf 27 = .ok (.aload_n 0, 1) := by decide +kernel
theorem dX6_leafOf_28 : decode cX6_leafOf 28 = .ok (.getfield 7, 3) := by decide +kernel
theorem dX6_leafOf_31 : decode cX6_leafOf 31 = .ok (.iload 5, 2) := by decide +kernel
theorem dX6_leafOf_33 : decode cX6_leafOf 33 = .ok (.iaload, 1) := by decide +kernel
theorem dX6_leafOf_34 : decode cX6_leafOf 34 = .ok (.invokestatic 85, 3) := by decide +kernel
theorem dX6_leafOf_37 : decode cX6_leafOf 37 = .ok (.i2l, 1) := by decide +kernel
theorem dX6_leafOf_38 : decode cX6_leafOf 38 = .ok (.lcmp, 1) := by decide +kernel
theorem dX6_leafOf_39 : decode cX6_leafOf 39 = .ok (.ifCond .lt 10, 3) := by decide +kernel
theorem dX6_leafOf_42 : decode cX6_leafOf 42 = .ok (.aload_n 0, 1) := by decide +kernel
theorem dX6_leafOf_43 : decode cX6_leafOf 43 = .ok (.iconst 3, 1) := by decide +kernel
theorem dX6_leafOf_44 : decode cX6_leafOf 44 = .ok (.putfield 155, 3) := by decide +kernel
theorem dX6_leafOf_47 : decode cX6_leafOf 47 = .ok (.iconst (-1), 1) := by decide +kernel
theorem dX6_leafOf_48 : decode cX6_leafOf 48 = .ok (.ireturn, 1) := by decide +kernel
theorem dX6_leafOf_49 : decode cX6_leafOf 49 = .ok (.aload_n 0, 1) := by decide +kernel
theorem dX6_leafOf_50 : decode cX6_leafOf 50 = .ok (.getfield 7, 3) := by decide +kernel
theorem dX6_leafOf_53 : decode cX6_leafOf 53 = .ok (.iload 5, 2) := by decide +kernel
theorem dX6_leafOf_55 : decode cX6_leafOf 55 = .ok (.iaload, 1) := by decide +kernel
theorem dX6_leafOf_56 : decode cX6_leafOf 56 = .ok (.lload_n 2, 1) := by decide +kernel
theorem dX6_leafOf_57 : decode cX6_leafOf 57 = .ok (.l2i, 1) := by decide +kernel
theorem dX6_leafOf_58 : decode cX6_leafOf 58 = .ok (.invokestatic 89, 3) := by decide +kernel
theorem dX6_leafOf_61 : decode cX6_leafOf 61 = .ok (.iload 4, 2) := by decide +kernel
theorem dX6_leafOf_63 : decode cX6_leafOf 63 = .ok (.if_icmp .eq 10, 3) := by decide +kernel
theorem dX6_leafOf_66 : decode cX6_leafOf 66 = .ok (.aload_n 0, 1) := by decide +kernel
theorem dX6_leafOf_67 : decode cX6_leafOf 67 = .ok (.iconst 2, 1) := by decide +kernel
theorem dX6_leafOf_68 : decode cX6_leafOf 68 = .ok (.putfield 155, 3) := by decide +kernel
theorem dX6_leafOf_71 : decode cX6_leafOf 71 = .ok (.iconst (-1), 1) := by decide +kernel
theorem dX6_leafOf_72 : decode cX6_leafOf 72 = .ok (.ireturn, 1) := by decide +kernel
theorem dX6_leafOf_73 : decode cX6_leafOf 73 = .ok (.bipush 8, 2) := by decide +kernel
theorem dX6_leafOf_75 : decode cX6_leafOf 75 = .ok (.iload 5, 2) := by decide +kernel
theorem dX6_leafOf_77 : decode cX6_leafOf 77 = .ok (.imul, 1) := by decide +kernel
theorem dX6_leafOf_78 : decode cX6_leafOf 78 = .ok (.lload_n 2, 1) := by decide +kernel
theorem dX6_leafOf_79 : decode cX6_leafOf 79 = .ok (.l2i, 1) := by decide +kernel
theorem dX6_leafOf_80 : decode cX6_leafOf 80 = .ok (.iadd, 1) := by decide +kernel
theorem dX6_leafOf_81 : decode cX6_leafOf 81 = .ok (.ireturn, 1) := by decide +kernel
set_option maxRecDepth 20000 in
theorem ggX6_readLeaf_X6_leafOf : GoodIn wsX6_readLeaf wsX6_leafOf := goodIn_r _ [5, 6, 7, 8, 9, 10, 11, 4, 12, 13, 14, 15, 16, 17, 18, 19, 20, 21, 29, 30, 31, 32, 33, 34, 35, 36, 37, 38, 39, 40, 41, 42, 43, 44, 45, 46, 47, 48, 49, 50, 51, 52, 53, 54, 55, 56, 57, 58] (by decide +kernel) (by decide +kernel)
set_option maxRecDepth 20000 in
theorem gX6_readLeaf_X6_leafOf : GoodIn wsX6_readLeaf (wsV RX6 162 RX6 yX6_leafOf wsX6_leafOf) := goodIn_app (goodIn_of _ (by decide +kernel)) ggX6_readLeaf_X6_leafOf
set_option maxRecDepth 20000 in
theorem ggX6_readLeaf_X6_touch : GoodIn wsX6_readLeaf wsX6_touch := goodIn_r _ [25, 26, 27, 28, 29, 30, 31, 32, 33, 34, 35, 36, 37, 38, 39, 40, 41, 42, 43, 44, 45, 46, 47, 48, 49, 50, 51, 52, 53, 54, 55, 56, 57, 58] (by decide +kernel) (by decide +kernel)
set_option maxRecDepth 20000 in
theorem gX6_readLeaf_X6_touch : GoodIn wsX6_readLeaf (wsV RX6 166 RX6 yX6_touch wsX6_touch) := goodIn_app (goodIn_of _ (by decide +kernel)) ggX6_readLeaf_X6_touch
theorem dX6_readLeaf_0 : decode cX6_readLeaf 0 = .ok (.aload_n 0, 1) := by decide +kernel
theorem dX6_readLeaf_1 : decode cX6_readLeaf 1 = .ok (.iload_n 1, 1) := by decide +kernel
theorem dX6_readLeaf_2 : decode cX6_readLeaf 2 = .ok (.lload_n 2, 1) := by decide +kernel
theorem dX6_readLeaf_3 : decode cX6_readLeaf 3 = .ok (.iload 4, 2) := by decide +kernel
theorem dX6_readLeaf_5 : decode cX6_readLeaf 5 = .ok (.invokevirtual 162, 3) := by decide +kernel
theorem dX6_readLeaf_8 : decode cX6_readLeaf 8 = .ok (.istore 5, 2) := by decide +kernel
theorem dX6_readLeaf_10 : decode cX6_readLeaf 10 = .ok (.iload 5, 2) := by decide +kernel
theorem dX6_readLeaf_12 : decode cX6_readLeaf 12 = .ok (.ifCond .lt 10, 3) := by decide +kernel
theorem dX6_readLeaf_15 : decode cX6_readLeaf 15 = .ok (.aload_n 0, 1) := by decide +kernel
theorem dX6_readLeaf_16 : decode cX6_readLeaf 16 = .ok (.iload 5, 2) := by decide +kernel
theorem dX6_readLeaf_18 : decode cX6_readLeaf 18 = .ok (.iconst 0, 1) := by decide +kernel
theorem dX6_readLeaf_19 : decode cX6_readLeaf 19 = .ok (.invokevirtual 166, 3) := by decide +kernel
theorem dX6_readLeaf_22 : decode cX6_readLeaf 22 = .ok (.iload 5, 2) := by decide +kernel
theorem dX6_readLeaf_24 : decode cX6_readLeaf 24 = .ok (.ireturn, 1) := by decide +kernel
theorem dX6_at_0 : decode cX6_at 0 = .ok (.sipush 7872, 3) := by decide +kernel
theorem dX6_at_3 : decode cX6_at 3 = .ok (.iload_n 0, 1) := by decide +kernel
theorem dX6_at_4 : decode cX6_at 4 = .ok (.iadd, 1) := by decide +kernel
theorem dX6_at_5 : decode cX6_at 5 = .ok (.ireturn, 1) := by decide +kernel
set_option maxRecDepth 20000 in
theorem ggX6_itemOf_X6_at : GoodIn wsX6_itemOf wsX6_at := goodIn_r _ [6] (by decide +kernel) (by decide +kernel)
set_option maxRecDepth 20000 in
theorem gX6_itemOf_X6_at : GoodIn wsX6_itemOf (va_wsS RX6 169 yX6_at wsX6_at) := goodIn_app (goodIn_of _ (by decide +kernel)) ggX6_itemOf_X6_at
set_option maxRecDepth 20000 in
theorem ggX6_itemOf_X6_in : GoodIn wsX6_itemOf wsX6_in := goodIn_r _ [9] (by decide +kernel) (by decide +kernel)
set_option maxRecDepth 20000 in
theorem gX6_itemOf_X6_in : GoodIn wsX6_itemOf (va_wsS RX6 77 yX6_in wsX6_in) := goodIn_app (goodIn_of _ (by decide +kernel)) ggX6_itemOf_X6_in
theorem dX6_itemOf_0 : decode cX6_itemOf 0 = .ok (.iload_n 1, 1) := by decide +kernel
theorem dX6_itemOf_1 : decode cX6_itemOf 1 = .ok (.ifCond .ge 5, 3) := by decide +kernel
theorem dX6_itemOf_4 : decode cX6_itemOf 4 = .ok (.iconst (-1), 1) := by decide +kernel
theorem dX6_itemOf_5 : decode cX6_itemOf 5 = .ok (.ireturn, 1) := by decide +kernel
theorem dX6_itemOf_6 : decode cX6_itemOf 6 = .ok (.aload_n 0, 1) := by decide +kernel
theorem dX6_itemOf_7 : decode cX6_itemOf 7 = .ok (.getfield 17, 3) := by decide +kernel
theorem dX6_itemOf_10 : decode cX6_itemOf 10 = .ok (.iload_n 1, 1) := by decide +kernel
theorem dX6_itemOf_11 : decode cX6_itemOf 11 = .ok (.invokestatic 169, 3) := by decide +kernel
theorem dX6_itemOf_14 : decode cX6_itemOf 14 = .ok (.iaload, 1) := by decide +kernel
theorem dX6_itemOf_15 : decode cX6_itemOf 15 = .ok (.bipush (-3), 2) := by decide +kernel
theorem dX6_itemOf_17 : decode cX6_itemOf 17 = .ok (.if_icmp .ne 10, 3) := by decide +kernel
theorem dX6_itemOf_20 : decode cX6_itemOf 20 = .ok (.aload_n 0, 1) := by decide +kernel
theorem dX6_itemOf_21 : decode cX6_itemOf 21 = .ok (.iconst 1, 1) := by decide +kernel
theorem dX6_itemOf_22 : decode cX6_itemOf 22 = .ok (.putfield 155, 3) := by decide +kernel
theorem dX6_itemOf_25 : decode cX6_itemOf 25 = .ok (.iconst (-1), 1) := by decide +kernel
theorem dX6_itemOf_26 : decode cX6_itemOf 26 = .ok (.ireturn, 1) := by decide +kernel
theorem dX6_itemOf_27 : decode cX6_itemOf 27 = .ok (.lload_n 2, 1) := by decide +kernel
theorem dX6_itemOf_28 : decode cX6_itemOf 28 = .ok (.lconst 0, 1) := by decide +kernel
theorem dX6_itemOf_29 : decode cX6_itemOf 29 = .ok (.aload_n 0, 1) := by decide +kernel
theorem dX6_itemOf_30 : decode cX6_itemOf 30 = .ok (.getfield 17, 3) := by decide +kernel
theorem dX6_itemOf_33 : decode cX6_itemOf 33 = .ok (.iload_n 1, 1) := by decide +kernel
theorem dX6_itemOf_34 : decode cX6_itemOf 34 = .ok (.invokestatic 169, 3) := by decide +kernel
theorem dX6_itemOf_37 : decode cX6_itemOf 37 = .ok (.iaload, 1) := by decide +kernel
theorem dX6_itemOf_38 : decode cX6_itemOf 38 = .ok (.i2l, 1) := by decide +kernel
theorem dX6_itemOf_39 : decode cX6_itemOf 39 = .ok (.lconst 1, 1) := by decide +kernel
theorem dX6_itemOf_40 : decode cX6_itemOf 40 = .ok (.lsub, 1) := by decide +kernel
theorem dX6_itemOf_41 : decode cX6_itemOf 41 = .ok (.invokestatic 77, 3) := by decide +kernel
theorem dX6_itemOf_44 : decode cX6_itemOf 44 = .ok (.ifCond .ne 10, 3) := by decide +kernel
theorem dX6_itemOf_47 : decode cX6_itemOf 47 = .ok (.aload_n 0, 1) := by decide +kernel
theorem dX6_itemOf_48 : decode cX6_itemOf 48 = .ok (.iconst 3, 1) := by decide +kernel
theorem dX6_itemOf_49 : decode cX6_itemOf 49 = .ok (.putfield 155, 3) := by decide +kernel
theorem dX6_itemOf_52 : decode cX6_itemOf 52 = .ok (.iconst (-1), 1) := by decide +kernel
theorem dX6_itemOf_53 : decode cX6_itemOf 53 = .ok (.ireturn, 1) := by decide +kernel
theorem dX6_itemOf_54 : decode cX6_itemOf 54 = .ok (.bipush 8, 2) := by decide +kernel
theorem dX6_itemOf_56 : decode cX6_itemOf 56 = .ok (.iload_n 1, 1) := by decide +kernel
theorem dX6_itemOf_57 : decode cX6_itemOf 57 = .ok (.invokestatic 169, 3) := by decide +kernel
theorem dX6_itemOf_60 : decode cX6_itemOf 60 = .ok (.imul, 1) := by decide +kernel
theorem dX6_itemOf_61 : decode cX6_itemOf 61 = .ok (.lload_n 2, 1) := by decide +kernel
theorem dX6_itemOf_62 : decode cX6_itemOf 62 = .ok (.l2i, 1) := by decide +kernel
theorem dX6_itemOf_63 : decode cX6_itemOf 63 = .ok (.iadd, 1) := by decide +kernel
theorem dX6_itemOf_64 : decode cX6_itemOf 64 = .ok (.ireturn, 1) := by decide +kernel
set_option maxRecDepth 20000 in
theorem ggX6_rowActs_X6_readLeaf : GoodIn wsX6_rowActs wsX6_readLeaf := goodIn_r _ [15, 16, 17, 18, 14, 19, 20, 9, 21, 22, 23, 24, 25, 26, 27, 28, 29, 30, 31, 32, 33, 34, 35, 36, 37, 38, 39, 40, 41, 61, 62, 63, 64, 65, 66, 67, 68, 69, 70, 71, 72, 73, 74, 75, 76, 77, 78, 79, 80, 81, 82, 83, 84, 85, 86, 87, 88, 89, 90] (by decide +kernel) (by decide +kernel)
set_option maxRecDepth 20000 in
theorem gX6_rowActs_X6_readLeaf : GoodIn wsX6_rowActs (wsV RX6 172 RX6 yX6_readLeaf wsX6_readLeaf) := goodIn_app (goodIn_of _ (by decide +kernel)) ggX6_rowActs_X6_readLeaf
set_option maxRecDepth 20000 in
theorem ggX6_rowActs_X6_itemOf : GoodIn wsX6_rowActs wsX6_itemOf := goodIn_r _ [45, 46, 9, 47, 48, 14, 49, 50, 51, 52, 61, 62, 63, 64, 65, 66, 67, 68, 69, 70, 71, 72, 73, 74, 75, 76, 77, 78, 79, 80, 81, 82, 83, 84, 85, 86, 87, 88, 89, 90] (by decide +kernel) (by decide +kernel)
set_option maxRecDepth 20000 in
theorem gX6_rowActs_X6_itemOf : GoodIn wsX6_rowActs (wsV RX6 175 RX6 yX6_itemOf wsX6_itemOf) := goodIn_app (goodIn_of _ (by decide +kernel)) ggX6_rowActs_X6_itemOf
set_option maxRecDepth 20000 in
theorem ggX6_rowActs_X6_touch : GoodIn wsX6_rowActs wsX6_touch := goodIn_r _ [38, 39, 40, 41, 61, 62, 63, 64, 65, 66, 67, 68, 69, 70, 71, 72, 73, 74, 75, 76, 77, 78, 79, 80, 81, 82, 83, 84, 85, 86, 87, 88, 89, 90] (by decide +kernel) (by decide +kernel)
set_option maxRecDepth 20000 in
theorem gX6_rowActs_X6_touch : GoodIn wsX6_rowActs (wsV RX6 166 RX6 yX6_touch wsX6_touch) := goodIn_app (goodIn_of _ (by decide +kernel)) ggX6_rowActs_X6_touch
set_option maxRecDepth 20000 in
theorem ggX6_rowActs_X6_leafOf : GoodIn wsX6_rowActs wsX6_leafOf := goodIn_r _ [19, 20, 9, 21, 22, 23, 24, 14, 25, 26, 27, 28, 29, 30, 31, 32, 33, 34, 61, 62, 63, 64, 65, 66, 67, 68, 69, 70, 71, 72, 73, 74, 75, 76, 77, 78, 79, 80, 81, 82, 83, 84, 85, 86, 87, 88, 89, 90] (by decide +kernel) (by decide +kernel)
set_option maxRecDepth 20000 in
theorem gX6_rowActs_X6_leafOf : GoodIn wsX6_rowActs (wsV RX6 162 RX6 yX6_leafOf wsX6_leafOf) := goodIn_app (goodIn_of _ (by decide +kernel)) ggX6_rowActs_X6_leafOf
set_option maxRecDepth 20000 in
theorem ggX6_rowActs_X6_newRow : GoodIn wsX6_rowActs wsX6_newRow := goodIn_r _ [56, 46, 7, 61, 62, 63, 64, 65, 66, 67, 68, 69, 70, 71, 72, 73, 74, 75, 76, 77, 78, 79, 80, 81, 82, 83, 84, 85, 86, 87, 88, 89, 90] (by decide +kernel) (by decide +kernel)
set_option maxRecDepth 20000 in
theorem gX6_rowActs_X6_newRow : GoodIn wsX6_rowActs (wsV RX6 127 RX6 yX6_newRow wsX6_newRow) := goodIn_app (goodIn_of _ (by decide +kernel)) ggX6_rowActs_X6_newRow
set_option maxRecDepth 20000 in
theorem ggX6_rowActs_X6_shift : GoodIn wsX6_rowActs wsX6_shift := goodIn_r _ [60, 46, 9, 7, 11, 12, 13, 14, 15, 16, 17, 18, 19, 20, 21, 22, 23, 24, 25, 26, 27, 28, 29, 30, 31, 32, 33, 34, 35, 36, 37, 38, 39, 40, 41, 47, 48, 49, 61, 62, 63, 64, 65, 66, 67, 68, 69, 70, 71, 72, 73, 74, 75, 76, 77, 78, 79, 80, 81, 82, 83, 84, 85, 86, 87, 88, 89, 90] (by decide +kernel) (by decide +kernel)
set_option maxRecDepth 20000 in
theorem gX6_rowActs_X6_shift : GoodIn wsX6_rowActs (wsV RX6 179 RX6 yX6_shift wsX6_shift) := goodIn_app (goodIn_of _ (by decide +kernel)) ggX6_rowActs_X6_shift
theorem dX6_rowActs_0 : decode cX6_rowActs 0 = .ok (.aload_n 0, 1) := by decide +kernel
theorem dX6_rowActs_1 : decode cX6_rowActs 1 = .ok (.getfield 37, 3) := by decide +kernel
theorem dX6_rowActs_4 : decode cX6_rowActs 4 = .ok (.iload_n 1, 1) := by decide +kernel
theorem dX6_rowActs_5 : decode cX6_rowActs 5 = .ok (.iaload, 1) := by decide +kernel
theorem dX6_rowActs_6 : decode cX6_rowActs 6 = .ok (.istore_n 2, 1) := by decide +kernel
theorem dX6_rowActs_7 : decode cX6_rowActs 7 = .ok (.aload_n 0, 1) := by decide +kernel
theorem dX6_rowActs_8 : decode cX6_rowActs 8 = .ok (.getfield 40, 3) := by decide +kernel
theorem dX6_rowActs_11 : decode cX6_rowActs 11 = .ok (.iload_n 1, 1) := by decide +kernel
theorem dX6_rowActs_12 : decode cX6_rowActs 12 = .ok (.laload, 1) := by decide +kernel
theorem dX6_rowActs_13 : decode cX6_rowActs 13 = .ok (.lstore_n 3, 1) := by decide +kernel
theorem dX6_rowActs_14 : decode cX6_rowActs 14 = .ok (.aload_n 0, 1) := by decide +kernel
theorem dX6_rowActs_15 : decode cX6_rowActs 15 = .ok (.getfield 43, 3) := by decide +kernel
theorem dX6_rowActs_18 : decode cX6_rowActs 18 = .ok (.iload_n 1, 1) := by decide +kernel
theorem dX6_rowActs_19 : decode cX6_rowActs 19 = .ok (.iaload, 1) := by decide +kernel
theorem dX6_rowActs_20 : decode cX6_rowActs 20 = .ok (.istore 5, 2) := by decide +kernel
theorem dX6_rowActs_22 : decode cX6_rowActs 22 = .ok (.aload_n 0, 1) := by decide +kernel
theorem dX6_rowActs_23 : decode cX6_rowActs 23 = .ok (.getfield 46, 3) := by decide +kernel
theorem dX6_rowActs_26 : decode cX6_rowActs 26 = .ok (.iload_n 1, 1) := by decide +kernel
theorem dX6_rowActs_27 : decode cX6_rowActs 27 = .ok (.iaload, 1) := by decide +kernel
theorem dX6_rowActs_28 : decode cX6_rowActs 28 = .ok (.istore 6, 2) := by decide +kernel
theorem dX6_rowActs_30 : decode cX6_rowActs 30 = .ok (.aload_n 0, 1) := by decide +kernel
theorem dX6_rowActs_31 : decode cX6_rowActs 31 = .ok (.getfield 34, 3) := by decide +kernel
theorem dX6_rowActs_34 : decode cX6_rowActs 34 = .ok (.iload_n 1, 1) := by decide +kernel
theorem dX6_rowActs_35 : decode cX6_rowActs 35 = .ok (.iaload, 1) := by decide +kernel
theorem dX6_rowActs_36 : decode cX6_rowActs 36 = .ok (.bipush 8, 2) := by decide +kernel
theorem dX6_rowActs_38 : decode cX6_rowActs 38 = .ok (.if_icmp .ne 57, 3) := by decide +kernel
theorem dX6_rowActs_41 : decode cX6_rowActs 41 = .ok (.aload_n 0, 1) := by decide +kernel
theorem dX6_rowActs_42 : decode cX6_rowActs 42 = .ok (.aload_n 0, 1) := by decide +kernel
theorem dX6_rowActs_43 : decode cX6_rowActs 43 = .ok (.lload_n 3, 1) := by decide +kernel
theorem dX6_rowActs_44 : decode cX6_rowActs 44 = .ok (.l2i, 1) := by decide +kernel
theorem dX6_rowActs_45 : decode cX6_rowActs 45 = .ok (.iload 5, 2) := by decide +kernel
theorem dX6_rowActs_47 : decode cX6_rowActs 47 = .ok (.i2l, 1) := by decide +kernel
theorem dX6_rowActs_48 : decode cX6_rowActs 48 = .ok (.iconst 2, 1) := by decide +kernel
theorem dX6_rowActs_49 : decode cX6_rowActs 49 = .ok (.invokevirtual 172, 3) := by decide +kernel
theorem dX6_rowActs_52 : decode cX6_rowActs 52 = .ok (.aload_n 0, 1) := by decide +kernel
theorem dX6_rowActs_53 : decode cX6_rowActs 53 = .ok (.getfield 71, 3) := by decide +kernel
theorem dX6_rowActs_56 : decode cX6_rowActs 56 = .ok (.iload 6, 2) := by decide +kernel
theorem dX6_rowActs_58 : decode cX6_rowActs 58 = .ok (.laload, 1) := by decide +kernel
theorem dX6_rowActs_59 : decode cX6_rowActs 59 = .ok (.invokevirtual 175, 3) := by decide +kernel
theorem dX6_rowActs_62 : decode cX6_rowActs 62 = .ok (.istore 7, 2) := by decide +kernel
theorem dX6_rowActs_64 : decode cX6_rowActs 64 = .ok (.aload_n 0, 1) := by decide +kernel
theorem dX6_rowActs_65 : decode cX6_rowActs 65 = .ok (.getfield 71, 3) := by decide +kernel
theorem dX6_rowActs_68 : decode cX6_rowActs 68 = .ok (.iload_n 2, 1) := by decide +kernel
theorem dX6_rowActs_69 : decode cX6_rowActs 69 = .ok (.iload 7, 2) := by decide +kernel
theorem dX6_rowActs_71 : decode cX6_rowActs 71 = .ok (.ifCond .ge 12, 3) := by decide +kernel
theorem dX6_rowActs_74 : decode cX6_rowActs 74 = .ok (.aload_n 0, 1) := by decide +kernel
theorem dX6_rowActs_75 : decode cX6_rowActs 75 = .ok (.getfield 71, 3) := by decide +kernel
theorem dX6_rowActs_78 : decode cX6_rowActs 78 = .ok (.iload_n 2, 1) := by decide +kernel
theorem dX6_rowActs_79 : decode cX6_rowActs 79 = .ok (.laload, 1) := by decide +kernel
theorem dX6_rowActs_80 : decode cX6_rowActs 80 = .ok (.goto 11, 3) := by decide +kernel
theorem dX6_rowActs_83 : decode cX6_rowActs 83 = .ok (.aload_n 0, 1) := by decide +kernel
theorem dX6_rowActs_84 : decode cX6_rowActs 84 = .ok (.getfield 21, 3) := by decide +kernel
theorem dX6_rowActs_87 : decode cX6_rowActs 87 = .ok (.iload 7, 2) := by decide +kernel
theorem dX6_rowActs_89 : decode cX6_rowActs 89 = .ok (.iaload, 1) := by decide +kernel
theorem dX6_rowActs_90 : decode cX6_rowActs 90 = .ok (.i2l, 1) := by decide +kernel
theorem dX6_rowActs_91 : decode cX6_rowActs 91 = .ok (.lastore, 1) := by decide +kernel
theorem dX6_rowActs_92 : decode cX6_rowActs 92 = .ok (.goto 179, 3) := by decide +kernel
theorem dX6_rowActs_95 : decode cX6_rowActs 95 = .ok (.aload_n 0, 1) := by decide +kernel
theorem dX6_rowActs_96 : decode cX6_rowActs 96 = .ok (.getfield 34, 3) := by decide +kernel
theorem dX6_rowActs_99 : decode cX6_rowActs 99 = .ok (.iload_n 1, 1) := by decide +kernel
theorem dX6_rowActs_100 : decode cX6_rowActs 100 = .ok (.iaload, 1) := by decide +kernel
theorem dX6_rowActs_101 : decode cX6_rowActs 101 = .ok (.bipush 9, 2) := by decide +kernel
theorem dX6_rowActs_103 : decode cX6_rowActs 103 = .ok (.if_icmp .ne 57, 3) := by decide +kernel
theorem dX6_rowActs_106 : decode cX6_rowActs 106 = .ok (.aload_n 0, 1) := by decide +kernel
theorem dX6_rowActs_107 : decode cX6_rowActs 107 = .ok (.iload_n 2, 1) := by decide +kernel
theorem dX6_rowActs_108 : decode cX6_rowActs 108 = .ok (.lload_n 3, 1) := by decide +kernel
theorem dX6_rowActs_109 : decode cX6_rowActs 109 = .ok (.iconst 2, 1) := by decide +kernel
theorem dX6_rowActs_110 : decode cX6_rowActs 110 = .ok (.invokevirtual 172, 3) := by decide +kernel
theorem dX6_rowActs_113 : decode cX6_rowActs 113 = .ok (.istore 7, 2) := by decide +kernel
theorem dX6_rowActs_115 : decode cX6_rowActs 115 = .ok (.aload_n 0, 1) := by decide +kernel
theorem dX6_rowActs_116 : decode cX6_rowActs 116 = .ok (.iload 7, 2) := by decide +kernel
theorem dX6_rowActs_118 : decode cX6_rowActs 118 = .ok (.aload_n 0, 1) := by decide +kernel
theorem dX6_rowActs_119 : decode cX6_rowActs 119 = .ok (.getfield 71, 3) := by decide +kernel
theorem dX6_rowActs_122 : decode cX6_rowActs 122 = .ok (.iload 5, 2) := by decide +kernel
theorem dX6_rowActs_124 : decode cX6_rowActs 124 = .ok (.laload, 1) := by decide +kernel
theorem dX6_rowActs_125 : decode cX6_rowActs 125 = .ok (.invokevirtual 175, 3) := by decide +kernel
theorem dX6_rowActs_128 : decode cX6_rowActs 128 = .ok (.istore 8, 2) := by decide +kernel
theorem dX6_rowActs_130 : decode cX6_rowActs 130 = .ok (.iload 8, 2) := by decide +kernel
theorem dX6_rowActs_132 : decode cX6_rowActs 132 = .ok (.ifCond .lt 25, 3) := by decide +kernel
theorem dX6_rowActs_135 : decode cX6_rowActs 135 = .ok (.aload_n 0, 1) := by decide +kernel
theorem dX6_rowActs_136 : decode cX6_rowActs 136 = .ok (.getfield 21, 3) := by decide +kernel
theorem dX6_rowActs_139 : decode cX6_rowActs 139 = .ok (.iload 8, 2) := by decide +kernel
theorem dX6_rowActs_141 : decode cX6_rowActs 141 = .ok (.aload_n 0, 1) := by decide +kernel
theorem dX6_rowActs_142 : decode cX6_rowActs 142 = .ok (.getfield 71, 3) := by decide +kernel
theorem dX6_rowActs_145 : decode cX6_rowActs 145 = .ok (.iload 6, 2) := by decide +kernel
theorem dX6_rowActs_147 : decode cX6_rowActs 147 = .ok (.laload, 1) := by decide +kernel
theorem dX6_rowActs_148 : decode cX6_rowActs 148 = .ok (.l2i, 1) := by decide +kernel
theorem dX6_rowActs_149 : decode cX6_rowActs 149 = .ok (.iastore, 1) := by decide +kernel
theorem dX6_rowActs_150 : decode cX6_rowActs 150 = .ok (.aload_n 0, 1) := by decide +kernel
theorem dX6_rowActs_151 : decode cX6_rowActs 151 = .ok (.iload 7, 2) := by decide +kernel
theorem dX6_rowActs_153 : decode cX6_rowActs 153 = .ok (.iconst 1, 1) := by decide +kernel
theorem dX6_rowActs_154 : decode cX6_rowActs 154 = .ok (.invokevirtual 166, 3) := by decide +kernel
theorem dX6_rowActs_157 : decode cX6_rowActs 157 = .ok (.goto 114, 3) := by decide +kernel
theorem dX6_rowActs_160 : decode cX6_rowActs 160 = .ok (.aload_n 0, 1) := by decide +kernel
theorem dX6_rowActs_161 : decode cX6_rowActs 161 = .ok (.getfield 34, 3) := by decide +kernel
theorem dX6_rowActs_164 : decode cX6_rowActs 164 = .ok (.iload_n 1, 1) := by decide +kernel
theorem dX6_rowActs_165 : decode cX6_rowActs 165 = .ok (.iaload, 1) := by decide +kernel
theorem dX6_rowActs_166 : decode cX6_rowActs 166 = .ok (.bipush 10, 2) := by decide +kernel
theorem dX6_rowActs_168 : decode cX6_rowActs 168 = .ok (.if_icmp .ne 82, 3) := by decide +kernel
theorem dX6_rowActs_171 : decode cX6_rowActs 171 = .ok (.aload_n 0, 1) := by decide +kernel
theorem dX6_rowActs_172 : decode cX6_rowActs 172 = .ok (.iload_n 2, 1) := by decide +kernel
theorem dX6_rowActs_173 : decode cX6_rowActs 173 = .ok (.lload_n 3, 1) := by decide +kernel
theorem dX6_rowActs_174 : decode cX6_rowActs 174 = .ok (.iconst 2, 1) := by decide +kernel
theorem dX6_rowActs_175 : decode cX6_rowActs 175 = .ok (.invokevirtual 162, 3) := by decide +kernel
theorem dX6_rowActs_178 : decode cX6_rowActs 178 = .ok (.istore 7, 2) := by decide +kernel
theorem dX6_rowActs_180 : decode cX6_rowActs 180 = .ok (.aload_n 0, 1) := by decide +kernel
theorem dX6_rowActs_181 : decode cX6_rowActs 181 = .ok (.getfield 71, 3) := by decide +kernel
theorem dX6_rowActs_184 : decode cX6_rowActs 184 = .ok (.iload 5, 2) := by decide +kernel
theorem dX6_rowActs_186 : decode cX6_rowActs 186 = .ok (.laload, 1) := by decide +kernel
theorem dX6_rowActs_187 : decode cX6_rowActs 187 = .ok (.lstore 8, 2) := by decide +kernel
theorem dX6_rowActs_189 : decode cX6_rowActs 189 = .ok (.iload 7, 2) := by decide +kernel
theorem dX6_rowActs_191 : decode cX6_rowActs 191 = .ok (.ifCond .lt 33, 3) := by decide +kernel
theorem dX6_rowActs_194 : decode cX6_rowActs 194 = .ok (.aload_n 0, 1) := by decide +kernel
theorem dX6_rowActs_195 : decode cX6_rowActs 195 = .ok (.lload 8, 2) := by decide +kernel
theorem dX6_rowActs_197 : decode cX6_rowActs 197 = .ok (.lconst 0, 1) := by decide +kernel
theorem dX6_rowActs_198 : decode cX6_rowActs 198 = .ok (.lcmp, 1) := by decide +kernel
theorem dX6_rowActs_199 : decode cX6_rowActs 199 = .ok (.ifCond .ge 7, 3) := by decide +kernel
theorem dX6_rowActs_202 : decode cX6_rowActs 202 = .ok (.iconst 4, 1) := by decide +kernel
theorem dX6_rowActs_203 : decode cX6_rowActs 203 = .ok (.goto 18, 3) := by decide +kernel
theorem dX6_rowActs_206 : decode cX6_rowActs 206 = .ok (.lload 8, 2) := by decide +kernel
theorem dX6_rowActs_208 : decode cX6_rowActs 208 = .ok (.ldc2_w 125, 3) := by decide +kernel
theorem dX6_rowActs_211 : decode cX6_rowActs 211 = .ok (.lcmp, 1) := by decide +kernel
theorem dX6_rowActs_212 : decode cX6_rowActs 212 = .ok (.ifCond .le 8, 3) := by decide +kernel
theorem dX6_rowActs_215 : decode cX6_rowActs 215 = .ok (.bipush 8, 2) := by decide +kernel
theorem dX6_rowActs_217 : decode cX6_rowActs 217 = .ok (.goto 4, 3) := by decide +kernel
theorem dX6_rowActs_220 : decode cX6_rowActs 220 = .ok (.iconst 0, 1) := by decide +kernel
theorem dX6_rowActs_221 : decode cX6_rowActs 221 = .ok (.putfield 155, 3) := by decide +kernel
theorem dX6_rowActs_224 : decode cX6_rowActs 224 = .ok (.aload_n 0, 1) := by decide +kernel
theorem dX6_rowActs_225 : decode cX6_rowActs 225 = .ok (.getfield 155, 3) := by decide +kernel
theorem dX6_rowActs_228 : decode cX6_rowActs 228 = .ok (.ifCond .ne 19, 3) := by decide +kernel
theorem dX6_rowActs_231 : decode cX6_rowActs 231 = .ok (.aload_n 0, 1) := by decide +kernel
theorem dX6_rowActs_232 : decode cX6_rowActs 232 = .ok (.iload 7, 2) := by decide +kernel
theorem dX6_rowActs_234 : decode cX6_rowActs 234 = .ok (.lload 8, 2) := by decide +kernel
theorem dX6_rowActs_236 : decode cX6_rowActs 236 = .ok (.l2i, 1) := by decide +kernel
theorem dX6_rowActs_237 : decode cX6_rowActs 237 = .ok (.invokevirtual 127, 3) := by decide +kernel
theorem dX6_rowActs_240 : decode cX6_rowActs 240 = .ok (.aload_n 0, 1) := by decide +kernel
theorem dX6_rowActs_241 : decode cX6_rowActs 241 = .ok (.iload 7, 2) := by decide +kernel
theorem dX6_rowActs_243 : decode cX6_rowActs 243 = .ok (.iconst 1, 1) := by decide +kernel
theorem dX6_rowActs_244 : decode cX6_rowActs 244 = .ok (.invokevirtual 166, 3) := by decide +kernel
theorem dX6_rowActs_247 : decode cX6_rowActs 247 = .ok (.goto 24, 3) := by decide +kernel
theorem dX6_rowActs_250 : decode cX6_rowActs 250 = .ok (.aload_n 0, 1) := by decide +kernel
theorem dX6_rowActs_251 : decode cX6_rowActs 251 = .ok (.iload_n 2, 1) := by decide +kernel
theorem dX6_rowActs_252 : decode cX6_rowActs 252 = .ok (.lload_n 3, 1) := by decide +kernel
theorem dX6_rowActs_253 : decode cX6_rowActs 253 = .ok (.iload 5, 2) := by decide +kernel
theorem dX6_rowActs_255 : decode cX6_rowActs 255 = .ok (.iload 6, 2) := by decide +kernel
theorem dX6_rowActs_257 : decode cX6_rowActs 257 = .ok (.aload_n 0, 1) := by decide +kernel
theorem dX6_rowActs_258 : decode cX6_rowActs 258 = .ok (.getfield 71, 3) := by decide +kernel
theorem dX6_rowActs_261 : decode cX6_rowActs 261 = .ok (.aload_n 0, 1) := by decide +kernel
theorem dX6_rowActs_262 : decode cX6_rowActs 262 = .ok (.getfield 49, 3) := by decide +kernel
theorem dX6_rowActs_265 : decode cX6_rowActs 265 = .ok (.iload_n 1, 1) := by decide +kernel
theorem dX6_rowActs_266 : decode cX6_rowActs 266 = .ok (.iaload, 1) := by decide +kernel
theorem dX6_rowActs_267 : decode cX6_rowActs 267 = .ok (.laload, 1) := by decide +kernel
theorem dX6_rowActs_268 : decode cX6_rowActs 268 = .ok (.invokevirtual 179, 3) := by decide +kernel
theorem dX6_rowActs_271 : decode cX6_rowActs 271 = .ok (.return_, 1) := by decide +kernel
set_option maxRecDepth 20000 in
theorem ggX6_shift_X6_readLeaf : GoodIn wsX6_shift wsX6_readLeaf := goodIn_r _ [8, 9, 10, 11, 7, 12, 13, 2, 14, 15, 16, 17, 18, 19, 20, 21, 22, 23, 24, 25, 26, 27, 28, 29, 30, 31, 32, 33, 34, 38, 39, 40, 41, 42, 43, 44, 45, 46, 47, 48, 49, 50, 51, 52, 53, 54, 55, 56, 57, 58, 59, 60, 61, 62, 63, 64, 65, 66, 67] (by decide +kernel) (by decide +kernel)
set_option maxRecDepth 20000 in
theorem gX6_shift_X6_readLeaf : GoodIn wsX6_shift (wsV RX6 172 RX6 yX6_readLeaf wsX6_readLeaf) := goodIn_app (goodIn_of _ (by decide +kernel)) ggX6_shift_X6_readLeaf
set_option maxRecDepth 20000 in
theorem ggX6_shift_X6_at : GoodIn wsX6_shift wsX6_at := goodIn_r _ [37] (by decide +kernel) (by decide +kernel)
set_option maxRecDepth 20000 in
theorem gX6_shift_X6_at : GoodIn wsX6_shift (va_wsS RX6 169 yX6_at wsX6_at) := goodIn_app (goodIn_of _ (by decide +kernel)) ggX6_shift_X6_at
set_option maxRecDepth 20000 in
theorem ggX6_shift_X6_touch : GoodIn wsX6_shift wsX6_touch := goodIn_r _ [31, 32, 33, 34, 38, 39, 40, 41, 42, 43, 44, 45, 46, 47, 48, 49, 50, 51, 52, 53, 54, 55, 56, 57, 58, 59, 60, 61, 62, 63, 64, 65, 66, 67] (by decide +kernel) (by decide +kernel)
set_option maxRecDepth 20000 in
theorem gX6_shift_X6_touch : GoodIn wsX6_shift (wsV RX6 166 RX6 yX6_touch wsX6_touch) := goodIn_app (goodIn_of _ (by decide +kernel)) ggX6_shift_X6_touch
theorem dX6_shift_0 : decode cX6_shift 0 = .ok (.aload_n 0, 1) := by decide +kernel
theorem dX6_shift_1 : decode cX6_shift 1 = .ok (.iload_n 1, 1) := by decide +kernel
theorem dX6_shift_2 : decode cX6_shift 2 = .ok (.lload_n 2, 1) := by decide +kernel
theorem dX6_shift_3 : decode cX6_shift 3 = .ok (.iconst 2, 1) := by decide +kernel
theorem dX6_shift_4 : decode cX6_shift 4 = .ok (.invokevirtual 172, 3) := by decide +kernel
theorem dX6_shift_7 : decode cX6_shift 7 = .ok (.istore 8, 2) := by decide +kernel
theorem dX6_shift_9 : decode cX6_shift 9 = .ok (.iload 8, 2) := by decide +kernel
theorem dX6_shift_11 : decode cX6_shift 11 = .ok (.ifCond .ge 7, 3) := by decide +kernel
theorem dX6_shift_14 : decode cX6_shift 14 = .ok (.iconst (-1), 1) := by decide +kernel
theorem dX6_shift_15 : decode cX6_shift 15 = .ok (.goto 13, 3) := by decide +kernel
theorem dX6_shift_18 : decode cX6_shift 18 = .ok (.aload_n 0, 1) := by decide +kernel
theorem dX6_shift_19 : decode cX6_shift 19 = .ok (.iload 4, 2) := by decide +kernel
theorem dX6_shift_21 : decode cX6_shift 21 = .ok (.iload 5, 2) := by decide +kernel
theorem dX6_shift_23 : decode cX6_shift 23 = .ok (.i2l, 1) := by decide +kernel
theorem dX6_shift_24 : decode cX6_shift 24 = .ok (.iconst 2, 1) := by decide +kernel
theorem dX6_shift_25 : decode cX6_shift 25 = .ok (.invokevirtual 172, 3) := by decide +kernel
theorem dX6_shift_28 : decode cX6_shift 28 = .ok (.istore 9, 2) := by decide +kernel
theorem dX6_shift_30 : decode cX6_shift 30 = .ok (.iload 9, 2) := by decide +kernel
theorem dX6_shift_32 : decode cX6_shift 32 = .ok (.ifCond .ge 4, 3) := by decide +kernel
theorem dX6_shift_35 : decode cX6_shift 35 = .ok (.return_, 1) := by decide +kernel
theorem dX6_shift_36 : decode cX6_shift 36 = .ok (.aload_n 0, 1) := by decide +kernel
theorem dX6_shift_37 : decode cX6_shift 37 = .ok (.getfield 17, 3) := by decide +kernel
theorem dX6_shift_40 : decode cX6_shift 40 = .ok (.iload 8, 2) := by decide +kernel
theorem dX6_shift_42 : decode cX6_shift 42 = .ok (.invokestatic 169, 3) := by decide +kernel
theorem dX6_shift_45 : decode cX6_shift 45 = .ok (.iaload, 1) := by decide +kernel
theorem dX6_shift_46 : decode cX6_shift 46 = .ok (.istore 10, 2) := by decide +kernel
theorem dX6_shift_48 : decode cX6_shift 48 = .ok (.aload_n 0, 1) := by decide +kernel
theorem dX6_shift_49 : decode cX6_shift 49 = .ok (.getfield 17, 3) := by decide +kernel
theorem dX6_shift_52 : decode cX6_shift 52 = .ok (.iload 9, 2) := by decide +kernel
theorem dX6_shift_54 : decode cX6_shift 54 = .ok (.invokestatic 169, 3) := by decide +kernel
theorem dX6_shift_57 : decode cX6_shift 57 = .ok (.iaload, 1) := by decide +kernel
theorem dX6_shift_58 : decode cX6_shift 58 = .ok (.istore 11, 2) := by decide +kernel
theorem dX6_shift_60 : decode cX6_shift 60 = .ok (.iload 10, 2) := by decide +kernel
theorem dX6_shift_62 : decode cX6_shift 62 = .ok (.bipush (-3), 2) := by decide +kernel
theorem dX6_shift_64 : decode cX6_shift 64 = .ok (.if_icmp .eq 10, 3) := by decide +kernel
theorem dX6_shift_67 : decode cX6_shift 67 = .ok (.iload 11, 2) := by decide +kernel
theorem dX6_shift_69 : decode cX6_shift 69 = .ok (.bipush (-3), 2) := by decide +kernel
theorem dX6_shift_71 : decode cX6_shift 71 = .ok (.if_icmp .ne 9, 3) := by decide +kernel
theorem dX6_shift_74 : decode cX6_shift 74 = .ok (.aload_n 0, 1) := by decide +kernel
theorem dX6_shift_75 : decode cX6_shift 75 = .ok (.iconst 1, 1) := by decide +kernel
theorem dX6_shift_76 : decode cX6_shift 76 = .ok (.putfield 155, 3) := by decide +kernel
theorem dX6_shift_79 : decode cX6_shift 79 = .ok (.return_, 1) := by decide +kernel
theorem dX6_shift_80 : decode cX6_shift 80 = .ok (.lload 6, 2) := by decide +kernel
theorem dX6_shift_82 : decode cX6_shift 82 = .ok (.lconst 0, 1) := by decide +kernel
theorem dX6_shift_83 : decode cX6_shift 83 = .ok (.lcmp, 1) := by decide +kernel
theorem dX6_shift_84 : decode cX6_shift 84 = .ok (.ifCond .lt 21, 3) := by decide +kernel
theorem dX6_shift_87 : decode cX6_shift 87 = .ok (.lload 6, 2) := by decide +kernel
theorem dX6_shift_89 : decode cX6_shift 89 = .ok (.iload 10, 2) := by decide +kernel
theorem dX6_shift_91 : decode cX6_shift 91 = .ok (.i2l, 1) := by decide +kernel
theorem dX6_shift_92 : decode cX6_shift 92 = .ok (.lcmp, 1) := by decide +kernel
theorem dX6_shift_93 : decode cX6_shift 93 = .ok (.ifCond .gt 12, 3) := by decide +kernel
theorem dX6_shift_96 : decode cX6_shift 96 = .ok (.lload 6, 2) := by decide +kernel
theorem dX6_shift_98 : decode cX6_shift 98 = .ok (.iload 11, 2) := by decide +kernel
theorem dX6_shift_100 : decode cX6_shift 100 = .ok (.i2l, 1) := by decide +kernel
theorem dX6_shift_101 : decode cX6_shift 101 = .ok (.lcmp, 1) := by decide +kernel
theorem dX6_shift_102 : decode cX6_shift 102 = .ok (.ifCond .le 9, 3) := by decide +kernel
theorem dX6_shift_105 : decode cX6_shift 105 = .ok (.aload_n 0, 1) := by decide +kernel
theorem dX6_shift_106 : decode cX6_shift 106 = .ok (.iconst 3, 1) := by decide +kernel
theorem dX6_shift_107 : decode cX6_shift 107 = .ok (.putfield 155, 3) := by decide +kernel
theorem dX6_shift_110 : decode cX6_shift 110 = .ok (.return_, 1) := by decide +kernel
theorem dX6_shift_111 : decode cX6_shift 111 = .ok (.iconst 0, 1) := by decide +kernel
theorem dX6_shift_112 : decode cX6_shift 112 = .ok (.istore 12, 2) := by decide +kernel
theorem dX6_shift_114 : decode cX6_shift 114 = .ok (.iload 12, 2) := by decide +kernel
theorem dX6_shift_116 : decode cX6_shift 116 = .ok (.i2l, 1) := by decide +kernel
theorem dX6_shift_117 : decode cX6_shift 117 = .ok (.lload 6, 2) := by decide +kernel
theorem dX6_shift_119 : decode cX6_shift 119 = .ok (.lcmp, 1) := by decide +kernel
theorem dX6_shift_120 : decode cX6_shift 120 = .ok (.ifCond .ge 41, 3) := by decide +kernel
theorem dX6_shift_123 : decode cX6_shift 123 = .ok (.aload_n 0, 1) := by decide +kernel
theorem dX6_shift_124 : decode cX6_shift 124 = .ok (.getfield 21, 3) := by decide +kernel
theorem dX6_shift_127 : decode cX6_shift 127 = .ok (.bipush 8, 2) := by decide +kernel
theorem dX6_shift_129 : decode cX6_shift 129 = .ok (.iload 9, 2) := by decide +kernel
theorem dX6_shift_131 : decode cX6_shift 131 = .ok (.invokestatic 169, 3) := by decide +kernel
theorem dX6_shift_134 : decode cX6_shift 134 = .ok (.imul, 1) := by decide +kernel
theorem dX6_shift_135 : decode cX6_shift 135 = .ok (.iload 12, 2) := by decide +kernel
theorem dX6_shift_137 : decode cX6_shift 137 = .ok (.iadd, 1) := by decide +kernel
theorem dX6_shift_138 : decode cX6_shift 138 = .ok (.aload_n 0, 1) := by decide +kernel
theorem dX6_shift_139 : decode cX6_shift 139 = .ok (.getfield 21, 3) := by decide +kernel
theorem dX6_shift_142 : decode cX6_shift 142 = .ok (.bipush 8, 2) := by decide +kernel
theorem dX6_shift_144 : decode cX6_shift 144 = .ok (.iload 8, 2) := by decide +kernel
theorem dX6_shift_146 : decode cX6_shift 146 = .ok (.invokestatic 169, 3) := by decide +kernel
theorem dX6_shift_149 : decode cX6_shift 149 = .ok (.imul, 1) := by decide +kernel
theorem dX6_shift_150 : decode cX6_shift 150 = .ok (.iload 12, 2) := by decide +kernel
theorem dX6_shift_152 : decode cX6_shift 152 = .ok (.iadd, 1) := by decide +kernel
theorem dX6_shift_153 : decode cX6_shift 153 = .ok (.iaload, 1) := by decide +kernel
theorem dX6_shift_154 : decode cX6_shift 154 = .ok (.iastore, 1) := by decide +kernel
theorem dX6_shift_155 : decode cX6_shift 155 = .ok (.iinc 12 1, 3) := by decide +kernel
theorem dX6_shift_158 : decode cX6_shift 158 = .ok (.goto (-44), 3) := by decide +kernel
theorem dX6_shift_161 : decode cX6_shift 161 = .ok (.aload_n 0, 1) := by decide +kernel
theorem dX6_shift_162 : decode cX6_shift 162 = .ok (.iload 9, 2) := by decide +kernel
theorem dX6_shift_164 : decode cX6_shift 164 = .ok (.iconst 1, 1) := by decide +kernel
theorem dX6_shift_165 : decode cX6_shift 165 = .ok (.invokevirtual 166, 3) := by decide +kernel
theorem dX6_shift_168 : decode cX6_shift 168 = .ok (.return_, 1) := by decide +kernel
set_option maxRecDepth 20000 in
theorem ggX6_like_X6_load : GoodIn wsX6_like wsX6_load := goodIn_r _ [6, 7, 8, 9, 30, 31, 32, 33, 34, 35, 36, 37, 38, 39, 40, 41, 42, 43, 44, 45, 46, 47, 48, 49, 50, 51, 52, 53, 54, 55, 56, 57, 58, 59] (by decide +kernel) (by decide +kernel)
set_option maxRecDepth 20000 in
theorem gX6_like_X6_load : GoodIn wsX6_like (wsV RX6 158 RX6 yX6_load wsX6_load) := goodIn_app (goodIn_of _ (by decide +kernel)) ggX6_like_X6_load
set_option maxRecDepth 20000 in
theorem ggX6_like_X6_fieldsOf : GoodIn wsX6_like wsX6_fieldsOf := goodIn_r _ [12] (by decide +kernel) (by decide +kernel)
set_option maxRecDepth 20000 in
theorem gX6_like_X6_fieldsOf : GoodIn wsX6_like (va_wsS RX6 85 yX6_fieldsOf wsX6_fieldsOf) := goodIn_app (goodIn_of _ (by decide +kernel)) ggX6_like_X6_fieldsOf
set_option maxRecDepth 20000 in
theorem ggX6_like_X6_touch : GoodIn wsX6_like wsX6_touch := goodIn_r _ [16, 17, 18, 19, 30, 31, 32, 33, 34, 35, 36, 37, 38, 39, 40, 41, 42, 43, 44, 45, 46, 47, 48, 49, 50, 51, 52, 53, 54, 55, 56, 57, 58, 59] (by decide +kernel) (by decide +kernel)
set_option maxRecDepth 20000 in
theorem gX6_like_X6_touch : GoodIn wsX6_like (wsV RX6 166 RX6 yX6_touch wsX6_touch) := goodIn_app (goodIn_of _ (by decide +kernel)) ggX6_like_X6_touch
set_option maxRecDepth 20000 in
theorem ggX6_like_X6_at : GoodIn wsX6_like wsX6_at := goodIn_r _ [22] (by decide +kernel) (by decide +kernel)
set_option maxRecDepth 20000 in
theorem gX6_like_X6_at : GoodIn wsX6_like (va_wsS RX6 169 yX6_at wsX6_at) := goodIn_app (goodIn_of _ (by decide +kernel)) ggX6_like_X6_at
set_option maxRecDepth 20000 in
theorem ggX6_like_X6_areAlike : GoodIn wsX6_like wsX6_areAlike := goodIn_r _ [26, 27, 28, 29, 30, 31, 32, 33, 34, 35, 36, 37, 38, 39, 40, 41, 42, 43, 44, 45, 46, 47, 48, 49, 50, 51, 52, 53, 54, 55, 56, 57, 58, 59] (by decide +kernel) (by decide +kernel)
set_option maxRecDepth 20000 in
theorem gX6_like_X6_areAlike : GoodIn wsX6_like (wsV RX6 111 RX6 yX6_areAlike wsX6_areAlike) := goodIn_app (goodIn_of _ (by decide +kernel)) ggX6_like_X6_areAlike
theorem dX6_like_0 : decode cX6_like 0 = .ok (.iload_n 1, 1) := by decide +kernel
theorem dX6_like_1 : decode cX6_like 1 = .ok (.iload_n 2, 1) := by decide +kernel
theorem dX6_like_2 : decode cX6_like 2 = .ok (.if_icmp .ne 5, 3) := by decide +kernel
theorem dX6_like_5 : decode cX6_like 5 = .ok (.iconst 1, 1) := by decide +kernel
theorem dX6_like_6 : decode cX6_like 6 = .ok (.ireturn, 1) := by decide +kernel
theorem dX6_like_7 : decode cX6_like 7 = .ok (.iload_n 1, 1) := by decide +kernel
theorem dX6_like_8 : decode cX6_like 8 = .ok (.ifCond .lt 22, 3) := by decide +kernel
theorem dX6_like_11 : decode cX6_like 11 = .ok (.iload_n 2, 1) := by decide +kernel
theorem dX6_like_12 : decode cX6_like 12 = .ok (.ifCond .lt 18, 3) := by decide +kernel
theorem dX6_like_15 : decode cX6_like 15 = .ok (.aload_n 0, 1) := by decide +kernel
theorem dX6_like_16 : decode cX6_like 16 = .ok (.getfield 7, 3) := by decide +kernel
theorem dX6_like_19 : decode cX6_like 19 = .ok (.iload_n 1, 1) := by decide +kernel
theorem dX6_like_20 : decode cX6_like 20 = .ok (.iaload, 1) := by decide +kernel
theorem dX6_like_21 : decode cX6_like 21 = .ok (.aload_n 0, 1) := by decide +kernel
theorem dX6_like_22 : decode cX6_like 22 = .ok (.getfield 7, 3) := by decide +kernel
theorem dX6_like_25 : decode cX6_like 25 = .ok (.iload_n 2, 1) := by decide +kernel
theorem dX6_like_26 : decode cX6_like 26 = .ok (.iaload, 1) := by decide +kernel
theorem dX6_like_27 : decode cX6_like 27 = .ok (.if_icmp .eq 5, 3) := by decide +kernel
theorem dX6_like_30 : decode cX6_like 30 = .ok (.iconst 0, 1) := by decide +kernel
theorem dX6_like_31 : decode cX6_like 31 = .ok (.ireturn, 1) := by decide +kernel
theorem dX6_like_32 : decode cX6_like 32 = .ok (.aload_n 0, 1) := by decide +kernel
theorem dX6_like_33 : decode cX6_like 33 = .ok (.iload_n 1, 1) := by decide +kernel
theorem dX6_like_34 : decode cX6_like 34 = .ok (.invokevirtual 158, 3) := by decide +kernel
theorem dX6_like_37 : decode cX6_like 37 = .ok (.aload_n 0, 1) := by decide +kernel
theorem dX6_like_38 : decode cX6_like 38 = .ok (.iload_n 2, 1) := by decide +kernel
theorem dX6_like_39 : decode cX6_like 39 = .ok (.invokevirtual 158, 3) := by decide +kernel
theorem dX6_like_42 : decode cX6_like 42 = .ok (.iconst 1, 1) := by decide +kernel
theorem dX6_like_43 : decode cX6_like 43 = .ok (.istore_n 3, 1) := by decide +kernel
theorem dX6_like_44 : decode cX6_like 44 = .ok (.iconst 0, 1) := by decide +kernel
theorem dX6_like_45 : decode cX6_like 45 = .ok (.istore 4, 2) := by decide +kernel
theorem dX6_like_47 : decode cX6_like 47 = .ok (.iload 4, 2) := by decide +kernel
theorem dX6_like_49 : decode cX6_like 49 = .ok (.aload_n 0, 1) := by decide +kernel
theorem dX6_like_50 : decode cX6_like 50 = .ok (.getfield 7, 3) := by decide +kernel
theorem dX6_like_53 : decode cX6_like 53 = .ok (.iload_n 1, 1) := by decide +kernel
theorem dX6_like_54 : decode cX6_like 54 = .ok (.iaload, 1) := by decide +kernel
theorem dX6_like_55 : decode cX6_like 55 = .ok (.invokestatic 85, 3) := by decide +kernel
theorem dX6_like_58 : decode cX6_like 58 = .ok (.if_icmp .ge 62, 3) := by decide +kernel
theorem dX6_like_61 : decode cX6_like 61 = .ok (.iload_n 3, 1) := by decide +kernel
theorem dX6_like_62 : decode cX6_like 62 = .ok (.ifCond .eq 58, 3) := by decide +kernel
theorem dX6_like_65 : decode cX6_like 65 = .ok (.aload_n 0, 1) := by decide +kernel
theorem dX6_like_66 : decode cX6_like 66 = .ok (.bipush 8, 2) := by decide +kernel
theorem dX6_like_68 : decode cX6_like 68 = .ok (.iload_n 1, 1) := by decide +kernel
theorem dX6_like_69 : decode cX6_like 69 = .ok (.imul, 1) := by decide +kernel
theorem dX6_like_70 : decode cX6_like 70 = .ok (.iload 4, 2) := by decide +kernel
theorem dX6_like_72 : decode cX6_like 72 = .ok (.iadd, 1) := by decide +kernel
theorem dX6_like_73 : decode cX6_like 73 = .ok (.iconst 0, 1) := by decide +kernel
theorem dX6_like_74 : decode cX6_like 74 = .ok (.invokevirtual 166, 3) := by decide +kernel
theorem dX6_like_77 : decode cX6_like 77 = .ok (.aload_n 0, 1) := by decide +kernel
theorem dX6_like_78 : decode cX6_like 78 = .ok (.bipush 8, 2) := by decide +kernel
theorem dX6_like_80 : decode cX6_like 80 = .ok (.iload_n 2, 1) := by decide +kernel
theorem dX6_like_81 : decode cX6_like 81 = .ok (.imul, 1) := by decide +kernel
theorem dX6_like_82 : decode cX6_like 82 = .ok (.iload 4, 2) := by decide +kernel
theorem dX6_like_84 : decode cX6_like 84 = .ok (.iadd, 1) := by decide +kernel
theorem dX6_like_85 : decode cX6_like 85 = .ok (.iconst 0, 1) := by decide +kernel
theorem dX6_like_86 : decode cX6_like 86 = .ok (.invokevirtual 166, 3) := by decide +kernel
theorem dX6_like_89 : decode cX6_like 89 = .ok (.aload_n 0, 1) := by decide +kernel
theorem dX6_like_90 : decode cX6_like 90 = .ok (.bipush 8, 2) := by decide +kernel
theorem dX6_like_92 : decode cX6_like 92 = .ok (.iload_n 1, 1) := by decide +kernel
theorem dX6_like_93 : decode cX6_like 93 = .ok (.imul, 1) := by decide +kernel
theorem dX6_like_94 : decode cX6_like 94 = .ok (.iload 4, 2) := by decide +kernel
theorem dX6_like_96 : decode cX6_like 96 = .ok (.iadd, 1) := by decide +kernel
theorem dX6_like_97 : decode cX6_like 97 = .ok (.invokestatic 169, 3) := by decide +kernel
theorem dX6_like_100 : decode cX6_like 100 = .ok (.bipush 8, 2) := by decide +kernel
theorem dX6_like_102 : decode cX6_like 102 = .ok (.iload_n 2, 1) := by decide +kernel
theorem dX6_like_103 : decode cX6_like 103 = .ok (.imul, 1) := by decide +kernel
theorem dX6_like_104 : decode cX6_like 104 = .ok (.iload 4, 2) := by decide +kernel
theorem dX6_like_106 : decode cX6_like 106 = .ok (.iadd, 1) := by decide +kernel
theorem dX6_like_107 : decode cX6_like 107 = .ok (.invokestatic 169, 3) := by decide +kernel
theorem dX6_like_110 : decode cX6_like 110 = .ok (.invokevirtual 111, 3) := by decide +kernel
theorem dX6_like_113 : decode cX6_like 113 = .ok (.istore_n 3, 1) := by decide +kernel
theorem dX6_like_114 : decode cX6_like 114 = .ok (.iinc 4 1, 3) := by decide +kernel
theorem dX6_like_117 : decode cX6_like 117 = .ok (.goto (-70), 3) := by decide +kernel
theorem dX6_like_120 : decode cX6_like 120 = .ok (.iload_n 3, 1) := by decide +kernel
theorem dX6_like_121 : decode cX6_like 121 = .ok (.ireturn, 1) := by decide +kernel
set_option maxRecDepth 20000 in
theorem ggX6_fieldActs_X6_readLeaf : GoodIn wsX6_fieldActs wsX6_readLeaf := goodIn_r _ [12, 13, 14, 15, 11, 16, 7, 17, 18, 19, 20, 21, 22, 23, 24, 25, 26, 27, 28, 29, 30, 31, 32, 33, 34, 35, 36, 37, 38, 52, 53, 54, 55, 56, 57, 58, 59, 60, 61, 62, 63, 64, 65, 66, 67, 68, 69, 70, 71, 72, 73, 74, 75, 76, 77, 78, 79, 80, 81] (by decide +kernel) (by decide +kernel)
set_option maxRecDepth 20000 in
theorem gX6_fieldActs_X6_readLeaf : GoodIn wsX6_fieldActs (wsV RX6 172 RX6 yX6_readLeaf wsX6_readLeaf) := goodIn_app (goodIn_of _ (by decide +kernel)) ggX6_fieldActs_X6_readLeaf
set_option maxRecDepth 20000 in
theorem ggX6_fieldActs_X6_at : GoodIn wsX6_fieldActs wsX6_at := goodIn_r _ [41] (by decide +kernel) (by decide +kernel)
set_option maxRecDepth 20000 in
theorem gX6_fieldActs_X6_at : GoodIn wsX6_fieldActs (va_wsS RX6 169 yX6_at wsX6_at) := goodIn_app (goodIn_of _ (by decide +kernel)) ggX6_fieldActs_X6_at
set_option maxRecDepth 20000 in
theorem ggX6_fieldActs_X6_leafOf : GoodIn wsX6_fieldActs wsX6_leafOf := goodIn_r _ [16, 7, 17, 18, 19, 20, 21, 11, 22, 23, 24, 25, 26, 27, 28, 29, 30, 31, 52, 53, 54, 55, 56, 57, 58, 59, 60, 61, 62, 63, 64, 65, 66, 67, 68, 69, 70, 71, 72, 73, 74, 75, 76, 77, 78, 79, 80, 81] (by decide +kernel) (by decide +kernel)
set_option maxRecDepth 20000 in
theorem gX6_fieldActs_X6_leafOf : GoodIn wsX6_fieldActs (wsV RX6 162 RX6 yX6_leafOf wsX6_leafOf) := goodIn_app (goodIn_of _ (by decide +kernel)) ggX6_fieldActs_X6_leafOf
set_option maxRecDepth 20000 in
theorem ggX6_fieldActs_X6_touch : GoodIn wsX6_fieldActs wsX6_touch := goodIn_r _ [35, 36, 37, 38, 52, 53, 54, 55, 56, 57, 58, 59, 60, 61, 62, 63, 64, 65, 66, 67, 68, 69, 70, 71, 72, 73, 74, 75, 76, 77, 78, 79, 80, 81] (by decide +kernel) (by decide +kernel)
set_option maxRecDepth 20000 in
theorem gX6_fieldActs_X6_touch : GoodIn wsX6_fieldActs (wsV RX6 166 RX6 yX6_touch wsX6_touch) := goodIn_app (goodIn_of _ (by decide +kernel)) ggX6_fieldActs_X6_touch
set_option maxRecDepth 20000 in
theorem ggX6_fieldActs_X6_like : GoodIn wsX6_fieldActs wsX6_like := goodIn_r _ [45, 18, 19, 20, 21, 11, 22, 23, 24, 25, 26, 27, 28, 32, 33, 34, 35, 36, 37, 38, 39, 40, 41, 46, 47, 48, 49, 6, 50, 51, 52, 53, 54, 55, 56, 57, 58, 59, 60, 61, 62, 63, 64, 65, 66, 67, 68, 69, 70, 71, 72, 73, 74, 75, 76, 77, 78, 79, 80, 81] (by decide +kernel) (by decide +kernel)
set_option maxRecDepth 20000 in
theorem gX6_fieldActs_X6_like : GoodIn wsX6_fieldActs (wsV RX6 183 RX6 yX6_like wsX6_like) := goodIn_app (goodIn_of _ (by decide +kernel)) ggX6_fieldActs_X6_like
theorem dX6_fieldActs_0 : decode cX6_fieldActs 0 = .ok (.aload_n 0, 1) := by decide +kernel
theorem dX6_fieldActs_1 : decode cX6_fieldActs 1 = .ok (.getfield 37, 3) := by decide +kernel
theorem dX6_fieldActs_4 : decode cX6_fieldActs 4 = .ok (.iload_n 1, 1) := by decide +kernel
theorem dX6_fieldActs_5 : decode cX6_fieldActs 5 = .ok (.iaload, 1) := by decide +kernel
theorem dX6_fieldActs_6 : decode cX6_fieldActs 6 = .ok (.istore_n 2, 1) := by decide +kernel
theorem dX6_fieldActs_7 : decode cX6_fieldActs 7 = .ok (.aload_n 0, 1) := by decide +kernel
theorem dX6_fieldActs_8 : decode cX6_fieldActs 8 = .ok (.getfield 40, 3) := by decide +kernel
theorem dX6_fieldActs_11 : decode cX6_fieldActs 11 = .ok (.iload_n 1, 1) := by decide +kernel
theorem dX6_fieldActs_12 : decode cX6_fieldActs 12 = .ok (.laload, 1) := by decide +kernel
theorem dX6_fieldActs_13 : decode cX6_fieldActs 13 = .ok (.lstore_n 3, 1) := by decide +kernel
theorem dX6_fieldActs_14 : decode cX6_fieldActs 14 = .ok (.aload_n 0, 1) := by decide +kernel
theorem dX6_fieldActs_15 : decode cX6_fieldActs 15 = .ok (.getfield 43, 3) := by decide +kernel
theorem dX6_fieldActs_18 : decode cX6_fieldActs 18 = .ok (.iload_n 1, 1) := by decide +kernel
theorem dX6_fieldActs_19 : decode cX6_fieldActs 19 = .ok (.iaload, 1) := by decide +kernel
theorem dX6_fieldActs_20 : decode cX6_fieldActs 20 = .ok (.istore 5, 2) := by decide +kernel
theorem dX6_fieldActs_22 : decode cX6_fieldActs 22 = .ok (.aload_n 0, 1) := by decide +kernel
theorem dX6_fieldActs_23 : decode cX6_fieldActs 23 = .ok (.getfield 34, 3) := by decide +kernel
theorem dX6_fieldActs_26 : decode cX6_fieldActs 26 = .ok (.iload_n 1, 1) := by decide +kernel
theorem dX6_fieldActs_27 : decode cX6_fieldActs 27 = .ok (.iaload, 1) := by decide +kernel
theorem dX6_fieldActs_28 : decode cX6_fieldActs 28 = .ok (.tableswitch 257 4 12 #[52, 97, 138, 184, 257, 257, 257, 257, 226], 52) := by decide +kernel
theorem dX6_fieldActs_80 : decode cX6_fieldActs 80 = .ok (.aload_n 0, 1) := by decide +kernel
theorem dX6_fieldActs_81 : decode cX6_fieldActs 81 = .ok (.lload_n 3, 1) := by decide +kernel
theorem dX6_fieldActs_82 : decode cX6_fieldActs 82 = .ok (.l2i, 1) := by decide +kernel
theorem dX6_fieldActs_83 : decode cX6_fieldActs 83 = .ok (.iload 5, 2) := by decide +kernel
theorem dX6_fieldActs_85 : decode cX6_fieldActs 85 = .ok (.i2l, 1) := by decide +kernel
theorem dX6_fieldActs_86 : decode cX6_fieldActs 86 = .ok (.iconst 0, 1) := by decide +kernel
theorem dX6_fieldActs_87 : decode cX6_fieldActs 87 = .ok (.invokevirtual 172, 3) := by decide +kernel
theorem dX6_fieldActs_90 : decode cX6_fieldActs 90 = .ok (.istore 6, 2) := by decide +kernel
theorem dX6_fieldActs_92 : decode cX6_fieldActs 92 = .ok (.aload_n 0, 1) := by decide +kernel
theorem dX6_fieldActs_93 : decode cX6_fieldActs 93 = .ok (.getfield 71, 3) := by decide +kernel
theorem dX6_fieldActs_96 : decode cX6_fieldActs 96 = .ok (.iload_n 2, 1) := by decide +kernel
theorem dX6_fieldActs_97 : decode cX6_fieldActs 97 = .ok (.iload 6, 2) := by decide +kernel
theorem dX6_fieldActs_99 : decode cX6_fieldActs 99 = .ok (.ifCond .ge 12, 3) := by decide +kernel
theorem dX6_fieldActs_102 : decode cX6_fieldActs 102 = .ok (.aload_n 0, 1) := by decide +kernel
theorem dX6_fieldActs_103 : decode cX6_fieldActs 103 = .ok (.getfield 71, 3) := by decide +kernel
theorem dX6_fieldActs_106 : decode cX6_fieldActs 106 = .ok (.iload_n 2, 1) := by decide +kernel
theorem dX6_fieldActs_107 : decode cX6_fieldActs 107 = .ok (.laload, 1) := by decide +kernel
theorem dX6_fieldActs_108 : decode cX6_fieldActs 108 = .ok (.goto 13, 3) := by decide +kernel
theorem dX6_fieldActs_111 : decode cX6_fieldActs 111 = .ok (.aload_n 0, 1) := by decide +kernel
theorem dX6_fieldActs_112 : decode cX6_fieldActs 112 = .ok (.getfield 13, 3) := by decide +kernel
theorem dX6_fieldActs_115 : decode cX6_fieldActs 115 = .ok (.iload 6, 2) := by decide +kernel
theorem dX6_fieldActs_117 : decode cX6_fieldActs 117 = .ok (.invokestatic 169, 3) := by decide +kernel
theorem dX6_fieldActs_120 : decode cX6_fieldActs 120 = .ok (.laload, 1) := by decide +kernel
theorem dX6_fieldActs_121 : decode cX6_fieldActs 121 = .ok (.lastore, 1) := by decide +kernel
theorem dX6_fieldActs_122 : decode cX6_fieldActs 122 = .ok (.goto 195, 3) := by decide +kernel
theorem dX6_fieldActs_125 : decode cX6_fieldActs 125 = .ok (.aload_n 0, 1) := by decide +kernel
theorem dX6_fieldActs_126 : decode cX6_fieldActs 126 = .ok (.iload_n 2, 1) := by decide +kernel
theorem dX6_fieldActs_127 : decode cX6_fieldActs 127 = .ok (.lload_n 3, 1) := by decide +kernel
theorem dX6_fieldActs_128 : decode cX6_fieldActs 128 = .ok (.iconst 0, 1) := by decide +kernel
theorem dX6_fieldActs_129 : decode cX6_fieldActs 129 = .ok (.invokevirtual 162, 3) := by decide +kernel
theorem dX6_fieldActs_132 : decode cX6_fieldActs 132 = .ok (.istore 6, 2) := by decide +kernel
theorem dX6_fieldActs_134 : decode cX6_fieldActs 134 = .ok (.iload 6, 2) := by decide +kernel
theorem dX6_fieldActs_136 : decode cX6_fieldActs 136 = .ok (.ifCond .lt 181, 3) := by decide +kernel
theorem dX6_fieldActs_139 : decode cX6_fieldActs 139 = .ok (.aload_n 0, 1) := by decide +kernel
theorem dX6_fieldActs_140 : decode cX6_fieldActs 140 = .ok (.getfield 13, 3) := by decide +kernel
theorem dX6_fieldActs_143 : decode cX6_fieldActs 143 = .ok (.iload 6, 2) := by decide +kernel
theorem dX6_fieldActs_145 : decode cX6_fieldActs 145 = .ok (.invokestatic 169, 3) := by decide +kernel
theorem dX6_fieldActs_148 : decode cX6_fieldActs 148 = .ok (.aload_n 0, 1) := by decide +kernel
theorem dX6_fieldActs_149 : decode cX6_fieldActs 149 = .ok (.getfield 71, 3) := by decide +kernel
theorem dX6_fieldActs_152 : decode cX6_fieldActs 152 = .ok (.iload 5, 2) := by decide +kernel
theorem dX6_fieldActs_154 : decode cX6_fieldActs 154 = .ok (.laload, 1) := by decide +kernel
theorem dX6_fieldActs_155 : decode cX6_fieldActs 155 = .ok (.lastore, 1) := by decide +kernel
theorem dX6_fieldActs_156 : decode cX6_fieldActs 156 = .ok (.aload_n 0, 1) := by decide +kernel
theorem dX6_fieldActs_157 : decode cX6_fieldActs 157 = .ok (.iload 6, 2) := by decide +kernel
theorem dX6_fieldActs_159 : decode cX6_fieldActs 159 = .ok (.iconst 1, 1) := by decide +kernel
theorem dX6_fieldActs_160 : decode cX6_fieldActs 160 = .ok (.invokevirtual 166, 3) := by decide +kernel
theorem dX6_fieldActs_163 : decode cX6_fieldActs 163 = .ok (.goto 154, 3) := by decide +kernel
theorem dX6_fieldActs_166 : decode cX6_fieldActs 166 = .ok (.aload_n 0, 1) := by decide +kernel
theorem dX6_fieldActs_167 : decode cX6_fieldActs 167 = .ok (.lload_n 3, 1) := by decide +kernel
theorem dX6_fieldActs_168 : decode cX6_fieldActs 168 = .ok (.l2i, 1) := by decide +kernel
theorem dX6_fieldActs_169 : decode cX6_fieldActs 169 = .ok (.iload 5, 2) := by decide +kernel
theorem dX6_fieldActs_171 : decode cX6_fieldActs 171 = .ok (.i2l, 1) := by decide +kernel
theorem dX6_fieldActs_172 : decode cX6_fieldActs 172 = .ok (.iconst 1, 1) := by decide +kernel
theorem dX6_fieldActs_173 : decode cX6_fieldActs 173 = .ok (.invokevirtual 172, 3) := by decide +kernel
theorem dX6_fieldActs_176 : decode cX6_fieldActs 176 = .ok (.istore 6, 2) := by decide +kernel
theorem dX6_fieldActs_178 : decode cX6_fieldActs 178 = .ok (.aload_n 0, 1) := by decide +kernel
theorem dX6_fieldActs_179 : decode cX6_fieldActs 179 = .ok (.getfield 68, 3) := by decide +kernel
theorem dX6_fieldActs_182 : decode cX6_fieldActs 182 = .ok (.iload_n 2, 1) := by decide +kernel
theorem dX6_fieldActs_183 : decode cX6_fieldActs 183 = .ok (.iload 6, 2) := by decide +kernel
theorem dX6_fieldActs_185 : decode cX6_fieldActs 185 = .ok (.ifCond .ge 12, 3) := by decide +kernel
theorem dX6_fieldActs_188 : decode cX6_fieldActs 188 = .ok (.aload_n 0, 1) := by decide +kernel
theorem dX6_fieldActs_189 : decode cX6_fieldActs 189 = .ok (.getfield 68, 3) := by decide +kernel
theorem dX6_fieldActs_192 : decode cX6_fieldActs 192 = .ok (.iload_n 2, 1) := by decide +kernel
theorem dX6_fieldActs_193 : decode cX6_fieldActs 193 = .ok (.iaload, 1) := by decide +kernel
theorem dX6_fieldActs_194 : decode cX6_fieldActs 194 = .ok (.goto 14, 3) := by decide +kernel
theorem dX6_fieldActs_197 : decode cX6_fieldActs 197 = .ok (.aload_n 0, 1) := by decide +kernel
theorem dX6_fieldActs_198 : decode cX6_fieldActs 198 = .ok (.getfield 13, 3) := by decide +kernel
theorem dX6_fieldActs_201 : decode cX6_fieldActs 201 = .ok (.iload 6, 2) := by decide +kernel
theorem dX6_fieldActs_203 : decode cX6_fieldActs 203 = .ok (.invokestatic 169, 3) := by decide +kernel
theorem dX6_fieldActs_206 : decode cX6_fieldActs 206 = .ok (.laload, 1) := by decide +kernel
theorem dX6_fieldActs_207 : decode cX6_fieldActs 207 = .ok (.l2i, 1) := by decide +kernel
theorem dX6_fieldActs_208 : decode cX6_fieldActs 208 = .ok (.iastore, 1) := by decide +kernel
theorem dX6_fieldActs_209 : decode cX6_fieldActs 209 = .ok (.goto 108, 3) := by decide +kernel
theorem dX6_fieldActs_212 : decode cX6_fieldActs 212 = .ok (.aload_n 0, 1) := by decide +kernel
theorem dX6_fieldActs_213 : decode cX6_fieldActs 213 = .ok (.iload_n 2, 1) := by decide +kernel
theorem dX6_fieldActs_214 : decode cX6_fieldActs 214 = .ok (.lload_n 3, 1) := by decide +kernel
theorem dX6_fieldActs_215 : decode cX6_fieldActs 215 = .ok (.iconst 1, 1) := by decide +kernel
theorem dX6_fieldActs_216 : decode cX6_fieldActs 216 = .ok (.invokevirtual 162, 3) := by decide +kernel
theorem dX6_fieldActs_219 : decode cX6_fieldActs 219 = .ok (.istore 6, 2) := by decide +kernel
theorem dX6_fieldActs_221 : decode cX6_fieldActs 221 = .ok (.iload 6, 2) := by decide +kernel
theorem dX6_fieldActs_223 : decode cX6_fieldActs 223 = .ok (.ifCond .lt 94, 3) := by decide +kernel
theorem dX6_fieldActs_226 : decode cX6_fieldActs 226 = .ok (.aload_n 0, 1) := by decide +kernel
theorem dX6_fieldActs_227 : decode cX6_fieldActs 227 = .ok (.getfield 13, 3) := by decide +kernel
theorem dX6_fieldActs_230 : decode cX6_fieldActs 230 = .ok (.iload 6, 2) := by decide +kernel
theorem dX6_fieldActs_232 : decode cX6_fieldActs 232 = .ok (.invokestatic 169, 3) := by decide +kernel
theorem dX6_fieldActs_235 : decode cX6_fieldActs 235 = .ok (.aload_n 0, 1) := by decide +kernel
theorem dX6_fieldActs_236 : decode cX6_fieldActs 236 = .ok (.getfield 68, 3) := by decide +kernel
theorem dX6_fieldActs_239 : decode cX6_fieldActs 239 = .ok (.iload 5, 2) := by decide +kernel
theorem dX6_fieldActs_241 : decode cX6_fieldActs 241 = .ok (.iaload, 1) := by decide +kernel
theorem dX6_fieldActs_242 : decode cX6_fieldActs 242 = .ok (.i2l, 1) := by decide +kernel
theorem dX6_fieldActs_243 : decode cX6_fieldActs 243 = .ok (.lastore, 1) := by decide +kernel
theorem dX6_fieldActs_244 : decode cX6_fieldActs 244 = .ok (.aload_n 0, 1) := by decide +kernel
theorem dX6_fieldActs_245 : decode cX6_fieldActs 245 = .ok (.iload 6, 2) := by decide +kernel
theorem dX6_fieldActs_247 : decode cX6_fieldActs 247 = .ok (.iconst 1, 1) := by decide +kernel
theorem dX6_fieldActs_248 : decode cX6_fieldActs 248 = .ok (.invokevirtual 166, 3) := by decide +kernel
theorem dX6_fieldActs_251 : decode cX6_fieldActs 251 = .ok (.goto 66, 3) := by decide +kernel
theorem dX6_fieldActs_254 : decode cX6_fieldActs 254 = .ok (.aload_n 0, 1) := by decide +kernel
theorem dX6_fieldActs_255 : decode cX6_fieldActs 255 = .ok (.getfield 71, 3) := by decide +kernel
theorem dX6_fieldActs_258 : decode cX6_fieldActs 258 = .ok (.iload_n 2, 1) := by decide +kernel
theorem dX6_fieldActs_259 : decode cX6_fieldActs 259 = .ok (.aload_n 0, 1) := by decide +kernel
theorem dX6_fieldActs_260 : decode cX6_fieldActs 260 = .ok (.getfield 68, 3) := by decide +kernel
theorem dX6_fieldActs_263 : decode cX6_fieldActs 263 = .ok (.lload_n 3, 1) := by decide +kernel
theorem dX6_fieldActs_264 : decode cX6_fieldActs 264 = .ok (.l2i, 1) := by decide +kernel
theorem dX6_fieldActs_265 : decode cX6_fieldActs 265 = .ok (.iaload, 1) := by decide +kernel
theorem dX6_fieldActs_266 : decode cX6_fieldActs 266 = .ok (.aload_n 0, 1) := by decide +kernel
theorem dX6_fieldActs_267 : decode cX6_fieldActs 267 = .ok (.getfield 68, 3) := by decide +kernel
theorem dX6_fieldActs_270 : decode cX6_fieldActs 270 = .ok (.iload 5, 2) := by decide +kernel
theorem dX6_fieldActs_272 : decode cX6_fieldActs 272 = .ok (.iaload, 1) := by decide +kernel
theorem dX6_fieldActs_273 : decode cX6_fieldActs 273 = .ok (.if_icmp .ne 7, 3) := by decide +kernel
theorem dX6_fieldActs_276 : decode cX6_fieldActs 276 = .ok (.lconst 1, 1) := by decide +kernel
theorem dX6_fieldActs_277 : decode cX6_fieldActs 277 = .ok (.goto 4, 3) := by decide +kernel
theorem dX6_fieldActs_280 : decode cX6_fieldActs 280 = .ok (.lconst 0, 1) := by decide +kernel
theorem dX6_fieldActs_281 : decode cX6_fieldActs 281 = .ok (.lastore, 1) := by decide +kernel
theorem dX6_fieldActs_282 : decode cX6_fieldActs 282 = .ok (.goto 35, 3) := by decide +kernel
theorem dX6_fieldActs_285 : decode cX6_fieldActs 285 = .ok (.aload_n 0, 1) := by decide +kernel
theorem dX6_fieldActs_286 : decode cX6_fieldActs 286 = .ok (.getfield 71, 3) := by decide +kernel
theorem dX6_fieldActs_289 : decode cX6_fieldActs 289 = .ok (.iload_n 2, 1) := by decide +kernel
theorem dX6_fieldActs_290 : decode cX6_fieldActs 290 = .ok (.aload_n 0, 1) := by decide +kernel
theorem dX6_fieldActs_291 : decode cX6_fieldActs 291 = .ok (.aload_n 0, 1) := by decide +kernel
theorem dX6_fieldActs_292 : decode cX6_fieldActs 292 = .ok (.getfield 68, 3) := by decide +kernel
theorem dX6_fieldActs_295 : decode cX6_fieldActs 295 = .ok (.lload_n 3, 1) := by decide +kernel
theorem dX6_fieldActs_296 : decode cX6_fieldActs 296 = .ok (.l2i, 1) := by decide +kernel
theorem dX6_fieldActs_297 : decode cX6_fieldActs 297 = .ok (.iaload, 1) := by decide +kernel
theorem dX6_fieldActs_298 : decode cX6_fieldActs 298 = .ok (.aload_n 0, 1) := by decide +kernel
theorem dX6_fieldActs_299 : decode cX6_fieldActs 299 = .ok (.getfield 68, 3) := by decide +kernel
theorem dX6_fieldActs_302 : decode cX6_fieldActs 302 = .ok (.iload 5, 2) := by decide +kernel
theorem dX6_fieldActs_304 : decode cX6_fieldActs 304 = .ok (.iaload, 1) := by decide +kernel
theorem dX6_fieldActs_305 : decode cX6_fieldActs 305 = .ok (.invokevirtual 183, 3) := by decide +kernel
theorem dX6_fieldActs_308 : decode cX6_fieldActs 308 = .ok (.ifCond .eq 7, 3) := by decide +kernel
theorem dX6_fieldActs_311 : decode cX6_fieldActs 311 = .ok (.lconst 1, 1) := by decide +kernel
theorem dX6_fieldActs_312 : decode cX6_fieldActs 312 = .ok (.goto 4, 3) := by decide +kernel
theorem dX6_fieldActs_315 : decode cX6_fieldActs 315 = .ok (.lconst 0, 1) := by decide +kernel
theorem dX6_fieldActs_316 : decode cX6_fieldActs 316 = .ok (.lastore, 1) := by decide +kernel
theorem dX6_fieldActs_317 : decode cX6_fieldActs 317 = .ok (.return_, 1) := by decide +kernel
set_option maxRecDepth 20000 in
theorem ggX6_does_X6_rowActs : GoodIn wsX6_does wsX6_rowActs := goodIn_r _ [12, 1, 4, 5, 13, 2, 3, 14, 15, 6, 16, 17, 18, 19, 11, 20, 21, 22, 23, 24, 25, 26, 27, 28, 29, 30, 31, 32, 33, 34, 35, 36, 37, 38, 39, 40, 41, 42, 43, 44, 45, 46, 47, 48, 49, 50, 51, 52, 53, 54, 55, 56, 57, 58, 59, 60, 61, 62, 63, 64, 65, 79, 80, 81, 82, 83, 84, 85, 86, 87, 88, 89, 90, 91, 92, 93, 94, 95, 96, 97, 98, 99, 100, 101, 102, 103, 104, 105, 106, 107, 108] (by decide +kernel) (by decide +kernel)
set_option maxRecDepth 20000 in
theorem gX6_does_X6_rowActs : GoodIn wsX6_does (wsV RX6 190 RX6 yX6_rowActs wsX6_rowActs) := goodIn_app (goodIn_of _ (by decide +kernel)) ggX6_does_X6_rowActs
set_option maxRecDepth 20000 in
theorem ggX6_does_X6_fieldActs : GoodIn wsX6_does wsX6_fieldActs := goodIn_r _ [69, 1, 4, 5, 2, 3, 70, 25, 17, 18, 19, 11, 20, 21, 22, 23, 24, 6, 26, 27, 28, 29, 30, 31, 32, 33, 34, 35, 36, 37, 38, 39, 40, 41, 42, 43, 44, 45, 46, 52, 53, 54, 71, 72, 73, 74, 75, 76, 77, 78, 51, 14, 79, 80, 81, 82, 83, 84, 85, 86, 87, 88, 89, 90, 91, 92, 93, 94, 95, 96, 97, 98, 99, 100, 101, 102, 103, 104, 105, 106, 107, 108] (by decide +kernel) (by decide +kernel)
set_option maxRecDepth 20000 in
theorem gX6_does_X6_fieldActs : GoodIn wsX6_does (wsV RX6 193 RX6 yX6_fieldActs wsX6_fieldActs) := goodIn_app (goodIn_of _ (by decide +kernel)) ggX6_does_X6_fieldActs
theorem dX6_does_0 : decode cX6_does 0 = .ok (.aload_n 0, 1) := by decide +kernel
theorem dX6_does_1 : decode cX6_does 1 = .ok (.getfield 37, 3) := by decide +kernel
end
section
theorem dX6_does_4 : decode cX6_does 4 = .ok (.iload_n 1, 1) := by decide +kernel
theorem dX6_does_5 : decode cX6_does 5 = .ok (.iaload, 1) := by decide +kernel
theorem dX6_does_6 : decode cX6_does 6 = .ok (.istore_n 3, 1) := by decide +kernel
theorem dX6_does_7 : decode cX6_does 7 = .ok (.aload_n 0, 1) := by decide +kernel
theorem dX6_does_8 : decode cX6_does 8 = .ok (.getfield 34, 3) := by decide +kernel
theorem dX6_does_11 : decode cX6_does 11 = .ok (.iload_n 1, 1) := by decide +kernel
theorem dX6_does_12 : decode cX6_does 12 = .ok (.iaload, 1) := by decide +kernel
theorem dX6_does_13 : decode cX6_does 13 = .ok (.tableswitch 309 0 17 #[87, 103, 137, 171, 309, 309, 309, 309, 300, 300, 300, 300, 309, 309, 246, 254, 279, 292], 87) := by decide +kernel
theorem dX6_does_100 : decode cX6_does 100 = .ok (.aload_n 0, 1) := by decide +kernel
theorem dX6_does_101 : decode cX6_does 101 = .ok (.getfield 71, 3) := by decide +kernel
theorem dX6_does_104 : decode cX6_does 104 = .ok (.iload_n 3, 1) := by decide +kernel
theorem dX6_does_105 : decode cX6_does 105 = .ok (.aload_n 0, 1) := by decide +kernel
theorem dX6_does_106 : decode cX6_does 106 = .ok (.getfield 40, 3) := by decide +kernel
theorem dX6_does_109 : decode cX6_does 109 = .ok (.iload_n 1, 1) := by decide +kernel
theorem dX6_does_110 : decode cX6_does 110 = .ok (.laload, 1) := by decide +kernel
theorem dX6_does_111 : decode cX6_does 111 = .ok (.lastore, 1) := by decide +kernel
theorem dX6_does_112 : decode cX6_does 112 = .ok (.iload_n 2, 1) := by decide +kernel
theorem dX6_does_113 : decode cX6_does 113 = .ok (.iconst 1, 1) := by decide +kernel
theorem dX6_does_114 : decode cX6_does 114 = .ok (.iadd, 1) := by decide +kernel
theorem dX6_does_115 : decode cX6_does 115 = .ok (.ireturn, 1) := by decide +kernel
theorem dX6_does_116 : decode cX6_does 116 = .ok (.aload_n 0, 1) := by decide +kernel
theorem dX6_does_117 : decode cX6_does 117 = .ok (.getfield 71, 3) := by decide +kernel
theorem dX6_does_120 : decode cX6_does 120 = .ok (.iload_n 3, 1) := by decide +kernel
theorem dX6_does_121 : decode cX6_does 121 = .ok (.aload_n 0, 1) := by decide +kernel
theorem dX6_does_122 : decode cX6_does 122 = .ok (.getfield 71, 3) := by decide +kernel
theorem dX6_does_125 : decode cX6_does 125 = .ok (.aload_n 0, 1) := by decide +kernel
theorem dX6_does_126 : decode cX6_does 126 = .ok (.getfield 40, 3) := by decide +kernel
theorem dX6_does_129 : decode cX6_does 129 = .ok (.iload_n 1, 1) := by decide +kernel
theorem dX6_does_130 : decode cX6_does 130 = .ok (.laload, 1) := by decide +kernel
theorem dX6_does_131 : decode cX6_does 131 = .ok (.l2i, 1) := by decide +kernel
theorem dX6_does_132 : decode cX6_does 132 = .ok (.laload, 1) := by decide +kernel
theorem dX6_does_133 : decode cX6_does 133 = .ok (.aload_n 0, 1) := by decide +kernel
theorem dX6_does_134 : decode cX6_does 134 = .ok (.getfield 71, 3) := by decide +kernel
theorem dX6_does_137 : decode cX6_does 137 = .ok (.aload_n 0, 1) := by decide +kernel
theorem dX6_does_138 : decode cX6_does 138 = .ok (.getfield 43, 3) := by decide +kernel
theorem dX6_does_141 : decode cX6_does 141 = .ok (.iload_n 1, 1) := by decide +kernel
theorem dX6_does_142 : decode cX6_does 142 = .ok (.iaload, 1) := by decide +kernel
theorem dX6_does_143 : decode cX6_does 143 = .ok (.laload, 1) := by decide +kernel
theorem dX6_does_144 : decode cX6_does 144 = .ok (.ladd, 1) := by decide +kernel
theorem dX6_does_145 : decode cX6_does 145 = .ok (.lastore, 1) := by decide +kernel
theorem dX6_does_146 : decode cX6_does 146 = .ok (.iload_n 2, 1) := by decide +kernel
theorem dX6_does_147 : decode cX6_does 147 = .ok (.iconst 1, 1) := by decide +kernel
theorem dX6_does_148 : decode cX6_does 148 = .ok (.iadd, 1) := by decide +kernel
theorem dX6_does_149 : decode cX6_does 149 = .ok (.ireturn, 1) := by decide +kernel
theorem dX6_does_150 : decode cX6_does 150 = .ok (.aload_n 0, 1) := by decide +kernel
theorem dX6_does_151 : decode cX6_does 151 = .ok (.getfield 71, 3) := by decide +kernel
theorem dX6_does_154 : decode cX6_does 154 = .ok (.iload_n 3, 1) := by decide +kernel
theorem dX6_does_155 : decode cX6_does 155 = .ok (.aload_n 0, 1) := by decide +kernel
theorem dX6_does_156 : decode cX6_does 156 = .ok (.getfield 71, 3) := by decide +kernel
theorem dX6_does_159 : decode cX6_does 159 = .ok (.aload_n 0, 1) := by decide +kernel
theorem dX6_does_160 : decode cX6_does 160 = .ok (.getfield 40, 3) := by decide +kernel
theorem dX6_does_163 : decode cX6_does 163 = .ok (.iload_n 1, 1) := by decide +kernel
theorem dX6_does_164 : decode cX6_does 164 = .ok (.laload, 1) := by decide +kernel
theorem dX6_does_165 : decode cX6_does 165 = .ok (.l2i, 1) := by decide +kernel
theorem dX6_does_166 : decode cX6_does 166 = .ok (.laload, 1) := by decide +kernel
theorem dX6_does_167 : decode cX6_does 167 = .ok (.aload_n 0, 1) := by decide +kernel
theorem dX6_does_168 : decode cX6_does 168 = .ok (.getfield 71, 3) := by decide +kernel
theorem dX6_does_171 : decode cX6_does 171 = .ok (.aload_n 0, 1) := by decide +kernel
theorem dX6_does_172 : decode cX6_does 172 = .ok (.getfield 43, 3) := by decide +kernel
theorem dX6_does_175 : decode cX6_does 175 = .ok (.iload_n 1, 1) := by decide +kernel
theorem dX6_does_176 : decode cX6_does 176 = .ok (.iaload, 1) := by decide +kernel
theorem dX6_does_177 : decode cX6_does 177 = .ok (.laload, 1) := by decide +kernel
theorem dX6_does_178 : decode cX6_does 178 = .ok (.lsub, 1) := by decide +kernel
theorem dX6_does_179 : decode cX6_does 179 = .ok (.lastore, 1) := by decide +kernel
theorem dX6_does_180 : decode cX6_does 180 = .ok (.iload_n 2, 1) := by decide +kernel
theorem dX6_does_181 : decode cX6_does 181 = .ok (.iconst 1, 1) := by decide +kernel
theorem dX6_does_182 : decode cX6_does 182 = .ok (.iadd, 1) := by decide +kernel
theorem dX6_does_183 : decode cX6_does 183 = .ok (.ireturn, 1) := by decide +kernel
theorem dX6_does_184 : decode cX6_does 184 = .ok (.aload_n 0, 1) := by decide +kernel
theorem dX6_does_185 : decode cX6_does 185 = .ok (.aload_n 0, 1) := by decide +kernel
theorem dX6_does_186 : decode cX6_does 186 = .ok (.getfield 71, 3) := by decide +kernel
theorem dX6_does_189 : decode cX6_does 189 = .ok (.aload_n 0, 1) := by decide +kernel
theorem dX6_does_190 : decode cX6_does 190 = .ok (.getfield 43, 3) := by decide +kernel
theorem dX6_does_193 : decode cX6_does 193 = .ok (.iload_n 1, 1) := by decide +kernel
theorem dX6_does_194 : decode cX6_does 194 = .ok (.iaload, 1) := by decide +kernel
theorem dX6_does_195 : decode cX6_does 195 = .ok (.laload, 1) := by decide +kernel
theorem dX6_does_196 : decode cX6_does 196 = .ok (.lconst 0, 1) := by decide +kernel
theorem dX6_does_197 : decode cX6_does 197 = .ok (.lcmp, 1) := by decide +kernel
theorem dX6_does_198 : decode cX6_does 198 = .ok (.ifCond .ne 7, 3) := by decide +kernel
theorem dX6_does_201 : decode cX6_does 201 = .ok (.iconst 5, 1) := by decide +kernel
theorem dX6_does_202 : decode cX6_does 202 = .ok (.goto 4, 3) := by decide +kernel
theorem dX6_does_205 : decode cX6_does 205 = .ok (.iconst 0, 1) := by decide +kernel
theorem dX6_does_206 : decode cX6_does 206 = .ok (.putfield 155, 3) := by decide +kernel
theorem dX6_does_209 : decode cX6_does 209 = .ok (.aload_n 0, 1) := by decide +kernel
theorem dX6_does_210 : decode cX6_does 210 = .ok (.getfield 71, 3) := by decide +kernel
theorem dX6_does_213 : decode cX6_does 213 = .ok (.iload_n 3, 1) := by decide +kernel
theorem dX6_does_214 : decode cX6_does 214 = .ok (.aload_n 0, 1) := by decide +kernel
theorem dX6_does_215 : decode cX6_does 215 = .ok (.getfield 155, 3) := by decide +kernel
theorem dX6_does_218 : decode cX6_does 218 = .ok (.ifCond .le 12, 3) := by decide +kernel
theorem dX6_does_221 : decode cX6_does 221 = .ok (.aload_n 0, 1) := by decide +kernel
theorem dX6_does_222 : decode cX6_does 222 = .ok (.getfield 71, 3) := by decide +kernel
theorem dX6_does_225 : decode cX6_does 225 = .ok (.iload_n 3, 1) := by decide +kernel
theorem dX6_does_226 : decode cX6_does 226 = .ok (.laload, 1) := by decide +kernel
theorem dX6_does_227 : decode cX6_does 227 = .ok (.goto 27, 3) := by decide +kernel
theorem dX6_does_230 : decode cX6_does 230 = .ok (.aload_n 0, 1) := by decide +kernel
theorem dX6_does_231 : decode cX6_does 231 = .ok (.getfield 71, 3) := by decide +kernel
theorem dX6_does_234 : decode cX6_does 234 = .ok (.aload_n 0, 1) := by decide +kernel
theorem dX6_does_235 : decode cX6_does 235 = .ok (.getfield 40, 3) := by decide +kernel
theorem dX6_does_238 : decode cX6_does 238 = .ok (.iload_n 1, 1) := by decide +kernel
theorem dX6_does_239 : decode cX6_does 239 = .ok (.laload, 1) := by decide +kernel
theorem dX6_does_240 : decode cX6_does 240 = .ok (.l2i, 1) := by decide +kernel
theorem dX6_does_241 : decode cX6_does 241 = .ok (.laload, 1) := by decide +kernel
theorem dX6_does_242 : decode cX6_does 242 = .ok (.aload_n 0, 1) := by decide +kernel
theorem dX6_does_243 : decode cX6_does 243 = .ok (.getfield 71, 3) := by decide +kernel
theorem dX6_does_246 : decode cX6_does 246 = .ok (.aload_n 0, 1) := by decide +kernel
theorem dX6_does_247 : decode cX6_does 247 = .ok (.getfield 43, 3) := by decide +kernel
theorem dX6_does_250 : decode cX6_does 250 = .ok (.iload_n 1, 1) := by decide +kernel
theorem dX6_does_251 : decode cX6_does 251 = .ok (.iaload, 1) := by decide +kernel
theorem dX6_does_252 : decode cX6_does 252 = .ok (.laload, 1) := by decide +kernel
theorem dX6_does_253 : decode cX6_does 253 = .ok (.ldiv, 1) := by decide +kernel
theorem dX6_does_254 : decode cX6_does 254 = .ok (.lastore, 1) := by decide +kernel
theorem dX6_does_255 : decode cX6_does 255 = .ok (.iload_n 2, 1) := by decide +kernel
theorem dX6_does_256 : decode cX6_does 256 = .ok (.iconst 1, 1) := by decide +kernel
theorem dX6_does_257 : decode cX6_does 257 = .ok (.iadd, 1) := by decide +kernel
theorem dX6_does_258 : decode cX6_does 258 = .ok (.ireturn, 1) := by decide +kernel
theorem dX6_does_259 : decode cX6_does 259 = .ok (.aload_n 0, 1) := by decide +kernel
theorem dX6_does_260 : decode cX6_does 260 = .ok (.getfield 40, 3) := by decide +kernel
theorem dX6_does_263 : decode cX6_does 263 = .ok (.iload_n 1, 1) := by decide +kernel
theorem dX6_does_264 : decode cX6_does 264 = .ok (.laload, 1) := by decide +kernel
theorem dX6_does_265 : decode cX6_does 265 = .ok (.l2i, 1) := by decide +kernel
theorem dX6_does_266 : decode cX6_does 266 = .ok (.ireturn, 1) := by decide +kernel
theorem dX6_does_267 : decode cX6_does 267 = .ok (.aload_n 0, 1) := by decide +kernel
theorem dX6_does_268 : decode cX6_does 268 = .ok (.getfield 71, 3) := by decide +kernel
theorem dX6_does_271 : decode cX6_does 271 = .ok (.iload_n 3, 1) := by decide +kernel
theorem dX6_does_272 : decode cX6_does 272 = .ok (.laload, 1) := by decide +kernel
theorem dX6_does_273 : decode cX6_does 273 = .ok (.lconst 0, 1) := by decide +kernel
theorem dX6_does_274 : decode cX6_does 274 = .ok (.lcmp, 1) := by decide +kernel
theorem dX6_does_275 : decode cX6_does 275 = .ok (.ifCond .le 13, 3) := by decide +kernel
theorem dX6_does_278 : decode cX6_does 278 = .ok (.aload_n 0, 1) := by decide +kernel
theorem dX6_does_279 : decode cX6_does 279 = .ok (.getfield 40, 3) := by decide +kernel
theorem dX6_does_282 : decode cX6_does 282 = .ok (.iload_n 1, 1) := by decide +kernel
theorem dX6_does_283 : decode cX6_does 283 = .ok (.laload, 1) := by decide +kernel
theorem dX6_does_284 : decode cX6_does 284 = .ok (.l2i, 1) := by decide +kernel
theorem dX6_does_285 : decode cX6_does 285 = .ok (.goto 6, 3) := by decide +kernel
theorem dX6_does_288 : decode cX6_does 288 = .ok (.iload_n 2, 1) := by decide +kernel
theorem dX6_does_289 : decode cX6_does 289 = .ok (.iconst 1, 1) := by decide +kernel
theorem dX6_does_290 : decode cX6_does 290 = .ok (.iadd, 1) := by decide +kernel
theorem dX6_does_291 : decode cX6_does 291 = .ok (.ireturn, 1) := by decide +kernel
theorem dX6_does_292 : decode cX6_does 292 = .ok (.aload_n 0, 1) := by decide +kernel
theorem dX6_does_293 : decode cX6_does 293 = .ok (.aload_n 0, 1) := by decide +kernel
theorem dX6_does_294 : decode cX6_does 294 = .ok (.getfield 71, 3) := by decide +kernel
theorem dX6_does_297 : decode cX6_does 297 = .ok (.iload_n 3, 1) := by decide +kernel
theorem dX6_does_298 : decode cX6_does 298 = .ok (.laload, 1) := by decide +kernel
theorem dX6_does_299 : decode cX6_does 299 = .ok (.putfield 186, 3) := by decide +kernel
theorem dX6_does_302 : decode cX6_does 302 = .ok (.bipush 32, 2) := by decide +kernel
theorem dX6_does_304 : decode cX6_does 304 = .ok (.ireturn, 1) := by decide +kernel
theorem dX6_does_305 : decode cX6_does 305 = .ok (.aload_n 0, 1) := by decide +kernel
theorem dX6_does_306 : decode cX6_does 306 = .ok (.bipush 6, 2) := by decide +kernel
theorem dX6_does_308 : decode cX6_does 308 = .ok (.putfield 155, 3) := by decide +kernel
theorem dX6_does_311 : decode cX6_does 311 = .ok (.iload_n 2, 1) := by decide +kernel
theorem dX6_does_312 : decode cX6_does 312 = .ok (.ireturn, 1) := by decide +kernel
theorem dX6_does_313 : decode cX6_does 313 = .ok (.aload_n 0, 1) := by decide +kernel
theorem dX6_does_314 : decode cX6_does 314 = .ok (.iload_n 1, 1) := by decide +kernel
theorem dX6_does_315 : decode cX6_does 315 = .ok (.invokevirtual 190, 3) := by decide +kernel
theorem dX6_does_318 : decode cX6_does 318 = .ok (.iload_n 2, 1) := by decide +kernel
theorem dX6_does_319 : decode cX6_does 319 = .ok (.iconst 1, 1) := by decide +kernel
theorem dX6_does_320 : decode cX6_does 320 = .ok (.iadd, 1) := by decide +kernel
theorem dX6_does_321 : decode cX6_does 321 = .ok (.ireturn, 1) := by decide +kernel
theorem dX6_does_322 : decode cX6_does 322 = .ok (.aload_n 0, 1) := by decide +kernel
theorem dX6_does_323 : decode cX6_does 323 = .ok (.iload_n 1, 1) := by decide +kernel
theorem dX6_does_324 : decode cX6_does 324 = .ok (.invokevirtual 193, 3) := by decide +kernel
theorem dX6_does_327 : decode cX6_does 327 = .ok (.iload_n 2, 1) := by decide +kernel
theorem dX6_does_328 : decode cX6_does 328 = .ok (.iconst 1, 1) := by decide +kernel
theorem dX6_does_329 : decode cX6_does 329 = .ok (.iadd, 1) := by decide +kernel
theorem dX6_does_330 : decode cX6_does 330 = .ok (.ireturn, 1) := by decide +kernel
set_option maxRecDepth 20000 in
theorem ggX6_begin_X6_copyAll : GoodIn wsX6_begin wsX6_copyAll := goodIn_r _ [15, 16, 17, 18, 14, 19, 20, 21, 22, 23, 24, 25, 26, 27, 28, 29, 30, 31, 32, 33, 34, 35, 36, 37, 38, 39, 40, 41, 42, 43, 44, 45, 46, 47, 48, 49, 50, 51, 52] (by decide +kernel) (by decide +kernel)
set_option maxRecDepth 20000 in
theorem gX6_begin_X6_copyAll : GoodIn wsX6_begin (wsV RX6 107 RX6 yX6_copyAll wsX6_copyAll) := goodIn_app (goodIn_of _ (by decide +kernel)) ggX6_begin_X6_copyAll
theorem dX6_begin_0 : decode cX6_begin 0 = .ok (.aload_n 0, 1) := by decide +kernel
theorem dX6_begin_1 : decode cX6_begin 1 = .ok (.lconst 0, 1) := by decide +kernel
theorem dX6_begin_2 : decode cX6_begin 2 = .ok (.putfield 186, 3) := by decide +kernel
theorem dX6_begin_5 : decode cX6_begin 5 = .ok (.aload_n 0, 1) := by decide +kernel
theorem dX6_begin_6 : decode cX6_begin 6 = .ok (.bipush (-3), 2) := by decide +kernel
theorem dX6_begin_8 : decode cX6_begin 8 = .ok (.putfield 52, 3) := by decide +kernel
theorem dX6_begin_11 : decode cX6_begin 11 = .ok (.aload_n 0, 1) := by decide +kernel
theorem dX6_begin_12 : decode cX6_begin 12 = .ok (.iconst 0, 1) := by decide +kernel
theorem dX6_begin_13 : decode cX6_begin 13 = .ok (.putfield 152, 3) := by decide +kernel
theorem dX6_begin_16 : decode cX6_begin 16 = .ok (.aload_n 0, 1) := by decide +kernel
theorem dX6_begin_17 : decode cX6_begin 17 = .ok (.iconst 0, 1) := by decide +kernel
theorem dX6_begin_18 : decode cX6_begin 18 = .ok (.putfield 196, 3) := by decide +kernel
theorem dX6_begin_21 : decode cX6_begin 21 = .ok (.aload_n 0, 1) := by decide +kernel
theorem dX6_begin_22 : decode cX6_begin 22 = .ok (.iconst 0, 1) := by decide +kernel
theorem dX6_begin_23 : decode cX6_begin 23 = .ok (.putfield 199, 3) := by decide +kernel
theorem dX6_begin_26 : decode cX6_begin 26 = .ok (.aload_n 0, 1) := by decide +kernel
theorem dX6_begin_27 : decode cX6_begin 27 = .ok (.iconst 0, 1) := by decide +kernel
theorem dX6_begin_28 : decode cX6_begin 28 = .ok (.putfield 155, 3) := by decide +kernel
theorem dX6_begin_31 : decode cX6_begin 31 = .ok (.iconst 0, 1) := by decide +kernel
theorem dX6_begin_32 : decode cX6_begin 32 = .ok (.istore 4, 2) := by decide +kernel
theorem dX6_begin_34 : decode cX6_begin 34 = .ok (.iload 4, 2) := by decide +kernel
theorem dX6_begin_36 : decode cX6_begin 36 = .ok (.bipush 24, 2) := by decide +kernel
theorem dX6_begin_38 : decode cX6_begin 38 = .ok (.if_icmp .ge 17, 3) := by decide +kernel
theorem dX6_begin_41 : decode cX6_begin 41 = .ok (.aload_n 0, 1) := by decide +kernel
theorem dX6_begin_42 : decode cX6_begin 42 = .ok (.getfield 65, 3) := by decide +kernel
theorem dX6_begin_45 : decode cX6_begin 45 = .ok (.iload 4, 2) := by decide +kernel
theorem dX6_begin_47 : decode cX6_begin 47 = .ok (.iconst 0, 1) := by decide +kernel
theorem dX6_begin_48 : decode cX6_begin 48 = .ok (.bastore, 1) := by decide +kernel
theorem dX6_begin_49 : decode cX6_begin 49 = .ok (.iinc 4 1, 3) := by decide +kernel
theorem dX6_begin_52 : decode cX6_begin 52 = .ok (.goto (-18), 3) := by decide +kernel
theorem dX6_begin_55 : decode cX6_begin 55 = .ok (.iconst 0, 1) := by decide +kernel
theorem dX6_begin_56 : decode cX6_begin 56 = .ok (.istore 4, 2) := by decide +kernel
theorem dX6_begin_58 : decode cX6_begin 58 = .ok (.iload 4, 2) := by decide +kernel
theorem dX6_begin_60 : decode cX6_begin 60 = .ok (.iconst 4, 1) := by decide +kernel
theorem dX6_begin_61 : decode cX6_begin 61 = .ok (.if_icmp .ge 26, 3) := by decide +kernel
theorem dX6_begin_64 : decode cX6_begin 64 = .ok (.aload_n 0, 1) := by decide +kernel
theorem dX6_begin_65 : decode cX6_begin 65 = .ok (.getfield 68, 3) := by decide +kernel
theorem dX6_begin_68 : decode cX6_begin 68 = .ok (.iload 4, 2) := by decide +kernel
theorem dX6_begin_70 : decode cX6_begin 70 = .ok (.bipush (-3), 2) := by decide +kernel
theorem dX6_begin_72 : decode cX6_begin 72 = .ok (.iastore, 1) := by decide +kernel
theorem dX6_begin_73 : decode cX6_begin 73 = .ok (.aload_n 0, 1) := by decide +kernel
theorem dX6_begin_74 : decode cX6_begin 74 = .ok (.getfield 71, 3) := by decide +kernel
theorem dX6_begin_77 : decode cX6_begin 77 = .ok (.iload 4, 2) := by decide +kernel
theorem dX6_begin_79 : decode cX6_begin 79 = .ok (.lconst 0, 1) := by decide +kernel
theorem dX6_begin_80 : decode cX6_begin 80 = .ok (.lastore, 1) := by decide +kernel
theorem dX6_begin_81 : decode cX6_begin 81 = .ok (.iinc 4 1, 3) := by decide +kernel
theorem dX6_begin_84 : decode cX6_begin 84 = .ok (.goto (-26), 3) := by decide +kernel
theorem dX6_begin_87 : decode cX6_begin 87 = .ok (.aload_n 0, 1) := by decide +kernel
theorem dX6_begin_88 : decode cX6_begin 88 = .ok (.getfield 68, 3) := by decide +kernel
theorem dX6_begin_91 : decode cX6_begin 91 = .ok (.iconst 0, 1) := by decide +kernel
theorem dX6_begin_92 : decode cX6_begin 92 = .ok (.iload_n 1, 1) := by decide +kernel
theorem dX6_begin_93 : decode cX6_begin 93 = .ok (.iastore, 1) := by decide +kernel
theorem dX6_begin_94 : decode cX6_begin 94 = .ok (.aload_n 0, 1) := by decide +kernel
theorem dX6_begin_95 : decode cX6_begin 95 = .ok (.getfield 71, 3) := by decide +kernel
theorem dX6_begin_98 : decode cX6_begin 98 = .ok (.iconst 0, 1) := by decide +kernel
theorem dX6_begin_99 : decode cX6_begin 99 = .ok (.lload_n 2, 1) := by decide +kernel
theorem dX6_begin_100 : decode cX6_begin 100 = .ok (.lastore, 1) := by decide +kernel
theorem dX6_begin_101 : decode cX6_begin 101 = .ok (.aload_n 0, 1) := by decide +kernel
theorem dX6_begin_102 : decode cX6_begin 102 = .ok (.aload_n 0, 1) := by decide +kernel
theorem dX6_begin_103 : decode cX6_begin 103 = .ok (.getfield 104, 3) := by decide +kernel
theorem dX6_begin_106 : decode cX6_begin 106 = .ok (.bipush 41, 2) := by decide +kernel
theorem dX6_begin_108 : decode cX6_begin 108 = .ok (.invokevirtual 107, 3) := by decide +kernel
theorem dX6_begin_111 : decode cX6_begin 111 = .ok (.return_, 1) := by decide +kernel
set_option maxRecDepth 20000 in
theorem ggX6_call_X6_isObject : GoodIn wsX6_call wsX6_isObject := goodIn_r _ [16, 17, 18, 19, 15, 20, 113, 114, 115, 116, 117, 118, 119, 120, 121, 122, 123, 124, 125, 126, 127, 128, 129, 130, 131, 132, 133, 134, 135, 136, 137, 138, 139, 140, 141, 142] (by decide +kernel) (by decide +kernel)
set_option maxRecDepth 20000 in
theorem gX6_call_X6_isObject : GoodIn wsX6_call (wsV RX6 81 RX6 yX6_isObject wsX6_isObject) := goodIn_app (goodIn_of _ (by decide +kernel)) ggX6_call_X6_isObject
set_option maxRecDepth 20000 in
theorem ggX6_call_X6_in : GoodIn wsX6_call wsX6_in := goodIn_r _ [20] (by decide +kernel) (by decide +kernel)
set_option maxRecDepth 20000 in
theorem gX6_call_X6_in : GoodIn wsX6_call (va_wsS RX6 77 yX6_in wsX6_in) := goodIn_app (goodIn_of _ (by decide +kernel)) ggX6_call_X6_in
set_option maxRecDepth 20000 in
theorem ggX6_call_X6_begin : GoodIn wsX6_call wsX6_begin := goodIn_r _ [24, 8, 7, 25, 10, 6, 5, 26, 27, 28, 2, 29, 30, 31, 15, 32, 33, 34, 35, 36, 37, 38, 39, 113, 114, 115, 116, 117, 118, 119, 120, 121, 122, 123, 124, 125, 126, 127, 128, 129, 130, 131, 132, 133, 134, 135, 136, 137, 138, 139, 140, 141, 142] (by decide +kernel) (by decide +kernel)
set_option maxRecDepth 20000 in
theorem gX6_call_X6_begin : GoodIn wsX6_call (wsV RX6 205 RX6 yX6_begin wsX6_begin) := goodIn_app (goodIn_of _ (by decide +kernel)) ggX6_call_X6_begin
set_option maxRecDepth 20000 in
theorem ggX6_call_X6_does : GoodIn wsX6_call wsX6_does := goodIn_r _ [43, 44, 45, 28, 46, 47, 5, 8, 48, 49, 50, 15, 51, 52, 39, 53, 54, 55, 56, 57, 58, 59, 60, 61, 62, 27, 63, 64, 65, 66, 67, 26, 68, 69, 70, 71, 72, 73, 74, 75, 76, 77, 78, 79, 25, 80, 81, 82, 83, 84, 85, 38, 86, 87, 88, 18, 19, 20, 89, 90, 91, 92, 93, 94, 95, 96, 97, 98, 99, 100, 37, 101, 102, 103, 104, 105, 106, 107, 108, 113, 114, 115, 116, 117, 118, 119, 120, 121, 122, 123, 124, 125, 126, 127, 128, 129, 130, 131, 132, 133, 134, 135, 136, 137, 138, 139, 140, 141, 142] (by decide +kernel) (by decide +kernel)
set_option maxRecDepth 20000 in
theorem gX6_call_X6_does : GoodIn wsX6_call (wsV RX6 209 RX6 yX6_does wsX6_does) := goodIn_app (goodIn_of _ (by decide +kernel)) ggX6_call_X6_does
set_option maxRecDepth 20000 in
theorem ggX6_call_X6_at : GoodIn wsX6_call wsX6_at := goodIn_r _ [88] (by decide +kernel) (by decide +kernel)
set_option maxRecDepth 20000 in
theorem gX6_call_X6_at : GoodIn wsX6_call (va_wsS RX6 169 yX6_at wsX6_at) := goodIn_app (goodIn_of _ (by decide +kernel)) ggX6_call_X6_at
set_option maxRecDepth 20000 in
theorem ggX6_call_X6_areAlike : GoodIn wsX6_call wsX6_areAlike := goodIn_r _ [108, 37, 38, 39, 113, 114, 115, 116, 117, 118, 119, 120, 121, 122, 123, 124, 125, 126, 127, 128, 129, 130, 131, 132, 133, 134, 135, 136, 137, 138, 139, 140, 141, 142] (by decide +kernel) (by decide +kernel)
set_option maxRecDepth 20000 in
theorem gX6_call_X6_areAlike : GoodIn wsX6_call (wsV RX6 111 RX6 yX6_areAlike wsX6_areAlike) := goodIn_app (goodIn_of _ (by decide +kernel)) ggX6_call_X6_areAlike
set_option maxRecDepth 20000 in
theorem ggX6_call_X6_rises : GoodIn wsX6_call wsX6_rises := goodIn_r _ [112, 2, 69, 29, 30, 31, 15, 32, 33, 34, 35, 36, 37, 38, 39, 113, 114, 115, 116, 117, 118, 119, 120, 121, 122, 123, 124, 125, 126, 127, 128, 129, 130, 131, 132, 133, 134, 135, 136, 137, 138, 139, 140, 141, 142] (by decide +kernel) (by decide +kernel)
set_option maxRecDepth 20000 in
theorem gX6_call_X6_rises : GoodIn wsX6_call (wsV RX6 115 RX6 yX6_rises wsX6_rises) := goodIn_app (goodIn_of _ (by decide +kernel)) ggX6_call_X6_rises
theorem dX6_call_0 : decode cX6_call 0 = .ok (.aload_n 0, 1) := by decide +kernel
theorem dX6_call_1 : decode cX6_call 1 = .ok (.iload_n 1, 1) := by decide +kernel
theorem dX6_call_2 : decode cX6_call 2 = .ok (.invokevirtual 81, 3) := by decide +kernel
theorem dX6_call_5 : decode cX6_call 5 = .ok (.ifCond .eq 15, 3) := by decide +kernel
theorem dX6_call_8 : decode cX6_call 8 = .ok (.iload_n 2, 1) := by decide +kernel
theorem dX6_call_9 : decode cX6_call 9 = .ok (.i2l, 1) := by decide +kernel
theorem dX6_call_10 : decode cX6_call 10 = .ok (.lconst 0, 1) := by decide +kernel
theorem dX6_call_11 : decode cX6_call 11 = .ok (.ldc2_w 143, 3) := by decide +kernel
theorem dX6_call_14 : decode cX6_call 14 = .ok (.invokestatic 77, 3) := by decide +kernel
theorem dX6_call_17 : decode cX6_call 17 = .ok (.ifCond .ne 5, 3) := by decide +kernel
theorem dX6_call_20 : decode cX6_call 20 = .ok (.iconst (-1), 1) := by decide +kernel
theorem dX6_call_21 : decode cX6_call 21 = .ok (.ireturn, 1) := by decide +kernel
theorem dX6_call_22 : decode cX6_call 22 = .ok (.aload_n 0, 1) := by decide +kernel
theorem dX6_call_23 : decode cX6_call 23 = .ok (.getfield 104, 3) := by decide +kernel
theorem dX6_call_26 : decode cX6_call 26 = .ok (.bipush 40, 2) := by decide +kernel
theorem dX6_call_28 : decode cX6_call 28 = .ok (.if_icmp .ne 6, 3) := by decide +kernel
theorem dX6_call_31 : decode cX6_call 31 = .ok (.bipush (-2), 2) := by decide +kernel
theorem dX6_call_33 : decode cX6_call 33 = .ok (.ireturn, 1) := by decide +kernel
theorem dX6_call_34 : decode cX6_call 34 = .ok (.aload_n 0, 1) := by decide +kernel
theorem dX6_call_35 : decode cX6_call 35 = .ok (.dup, 1) := by decide +kernel
theorem dX6_call_36 : decode cX6_call 36 = .ok (.getfield 202, 3) := by decide +kernel
theorem dX6_call_39 : decode cX6_call 39 = .ok (.iconst 1, 1) := by decide +kernel
theorem dX6_call_40 : decode cX6_call 40 = .ok (.iadd, 1) := by decide +kernel
theorem dX6_call_41 : decode cX6_call 41 = .ok (.putfield 202, 3) := by decide +kernel
theorem dX6_call_44 : decode cX6_call 44 = .ok (.aload_n 0, 1) := by decide +kernel
theorem dX6_call_45 : decode cX6_call 45 = .ok (.iload_n 1, 1) := by decide +kernel
theorem dX6_call_46 : decode cX6_call 46 = .ok (.lload_n 3, 1) := by decide +kernel
theorem dX6_call_47 : decode cX6_call 47 = .ok (.invokevirtual 205, 3) := by decide +kernel
theorem dX6_call_50 : decode cX6_call 50 = .ok (.iconst 0, 1) := by decide +kernel
theorem dX6_call_51 : decode cX6_call 51 = .ok (.istore 5, 2) := by decide +kernel
theorem dX6_call_53 : decode cX6_call 53 = .ok (.iload 5, 2) := by decide +kernel
theorem dX6_call_55 : decode cX6_call 55 = .ok (.aload_n 0, 1) := by decide +kernel
theorem dX6_call_56 : decode cX6_call 56 = .ok (.getfield 31, 3) := by decide +kernel
theorem dX6_call_59 : decode cX6_call 59 = .ok (.iload_n 2, 1) := by decide +kernel
theorem dX6_call_60 : decode cX6_call 60 = .ok (.iaload, 1) := by decide +kernel
theorem dX6_call_61 : decode cX6_call 61 = .ok (.if_icmp .ge 79, 3) := by decide +kernel
theorem dX6_call_64 : decode cX6_call 64 = .ok (.aload_n 0, 1) := by decide +kernel
theorem dX6_call_65 : decode cX6_call 65 = .ok (.getfield 155, 3) := by decide +kernel
theorem dX6_call_68 : decode cX6_call 68 = .ok (.ifCond .ne 72, 3) := by decide +kernel
theorem dX6_call_71 : decode cX6_call 71 = .ok (.iload 5, 2) := by decide +kernel
theorem dX6_call_73 : decode cX6_call 73 = .ok (.istore 6, 2) := by decide +kernel
theorem dX6_call_75 : decode cX6_call 75 = .ok (.aload_n 0, 1) := by decide +kernel
theorem dX6_call_76 : decode cX6_call 76 = .ok (.getfield 199, 3) := by decide +kernel
theorem dX6_call_79 : decode cX6_call 79 = .ok (.sipush 200, 3) := by decide +kernel
theorem dX6_call_82 : decode cX6_call 82 = .ok (.if_icmp .ne 12, 3) := by decide +kernel
theorem dX6_call_85 : decode cX6_call 85 = .ok (.aload_n 0, 1) := by decide +kernel
theorem dX6_call_86 : decode cX6_call 86 = .ok (.bipush 7, 2) := by decide +kernel
theorem dX6_call_88 : decode cX6_call 88 = .ok (.putfield 155, 3) := by decide +kernel
theorem dX6_call_91 : decode cX6_call 91 = .ok (.goto 28, 3) := by decide +kernel
theorem dX6_call_94 : decode cX6_call 94 = .ok (.aload_n 0, 1) := by decide +kernel
theorem dX6_call_95 : decode cX6_call 95 = .ok (.dup, 1) := by decide +kernel
theorem dX6_call_96 : decode cX6_call 96 = .ok (.getfield 199, 3) := by decide +kernel
theorem dX6_call_99 : decode cX6_call 99 = .ok (.iconst 1, 1) := by decide +kernel
theorem dX6_call_100 : decode cX6_call 100 = .ok (.iadd, 1) := by decide +kernel
theorem dX6_call_101 : decode cX6_call 101 = .ok (.putfield 199, 3) := by decide +kernel
theorem dX6_call_104 : decode cX6_call 104 = .ok (.aload_n 0, 1) := by decide +kernel
theorem dX6_call_105 : decode cX6_call 105 = .ok (.bipush 32, 2) := by decide +kernel
theorem dX6_call_107 : decode cX6_call 107 = .ok (.iload_n 2, 1) := by decide +kernel
theorem dX6_call_108 : decode cX6_call 108 = .ok (.imul, 1) := by decide +kernel
theorem dX6_call_109 : decode cX6_call 109 = .ok (.iload 5, 2) := by decide +kernel
theorem dX6_call_111 : decode cX6_call 111 = .ok (.iadd, 1) := by decide +kernel
theorem dX6_call_112 : decode cX6_call 112 = .ok (.iload 5, 2) := by decide +kernel
theorem dX6_call_114 : decode cX6_call 114 = .ok (.invokevirtual 209, 3) := by decide +kernel
theorem dX6_call_117 : decode cX6_call 117 = .ok (.istore 5, 2) := by decide +kernel
theorem dX6_call_119 : decode cX6_call 119 = .ok (.aload_n 0, 1) := by decide +kernel
theorem dX6_call_120 : decode cX6_call 120 = .ok (.aload_n 0, 1) := by decide +kernel
theorem dX6_call_121 : decode cX6_call 121 = .ok (.getfield 155, 3) := by decide +kernel
theorem dX6_call_124 : decode cX6_call 124 = .ok (.ifCond .le 8, 3) := by decide +kernel
theorem dX6_call_127 : decode cX6_call 127 = .ok (.iload 6, 2) := by decide +kernel
theorem dX6_call_129 : decode cX6_call 129 = .ok (.goto 5, 3) := by decide +kernel
theorem dX6_call_132 : decode cX6_call 132 = .ok (.bipush (-3), 2) := by decide +kernel
theorem dX6_call_134 : decode cX6_call 134 = .ok (.putfield 52, 3) := by decide +kernel
theorem dX6_call_137 : decode cX6_call 137 = .ok (.goto (-84), 3) := by decide +kernel
theorem dX6_call_140 : decode cX6_call 140 = .ok (.aload_n 0, 1) := by decide +kernel
theorem dX6_call_141 : decode cX6_call 141 = .ok (.getfield 155, 3) := by decide +kernel
theorem dX6_call_144 : decode cX6_call 144 = .ok (.ifCond .le 13, 3) := by decide +kernel
theorem dX6_call_147 : decode cX6_call 147 = .ok (.aload_n 0, 1) := by decide +kernel
theorem dX6_call_148 : decode cX6_call 148 = .ok (.lconst 0, 1) := by decide +kernel
theorem dX6_call_149 : decode cX6_call 149 = .ok (.putfield 186, 3) := by decide +kernel
theorem dX6_call_152 : decode cX6_call 152 = .ok (.aload_n 0, 1) := by decide +kernel
theorem dX6_call_153 : decode cX6_call 153 = .ok (.getfield 155, 3) := by decide +kernel
theorem dX6_call_156 : decode cX6_call 156 = .ok (.ireturn, 1) := by decide +kernel
theorem dX6_call_157 : decode cX6_call 157 = .ok (.iconst 0, 1) := by decide +kernel
theorem dX6_call_158 : decode cX6_call 158 = .ok (.istore 6, 2) := by decide +kernel
theorem dX6_call_160 : decode cX6_call 160 = .ok (.iload 6, 2) := by decide +kernel
theorem dX6_call_162 : decode cX6_call 162 = .ok (.sipush 192, 3) := by decide +kernel
theorem dX6_call_165 : decode cX6_call 165 = .ok (.if_icmp .ge 64, 3) := by decide +kernel
theorem dX6_call_168 : decode cX6_call 168 = .ok (.aload_n 0, 1) := by decide +kernel
theorem dX6_call_169 : decode cX6_call 169 = .ok (.iload 6, 2) := by decide +kernel
theorem dX6_call_171 : decode cX6_call 171 = .ok (.invokestatic 169, 3) := by decide +kernel
theorem dX6_call_174 : decode cX6_call 174 = .ok (.sipush 192, 3) := by decide +kernel
theorem dX6_call_177 : decode cX6_call 177 = .ok (.aload_n 0, 1) := by decide +kernel
theorem dX6_call_178 : decode cX6_call 178 = .ok (.getfield 104, 3) := by decide +kernel
theorem dX6_call_181 : decode cX6_call 181 = .ok (.imul, 1) := by decide +kernel
theorem dX6_call_182 : decode cX6_call 182 = .ok (.iload 6, 2) := by decide +kernel
theorem dX6_call_184 : decode cX6_call 184 = .ok (.iadd, 1) := by decide +kernel
theorem dX6_call_185 : decode cX6_call 185 = .ok (.invokevirtual 111, 3) := by decide +kernel
theorem dX6_call_188 : decode cX6_call 188 = .ok (.ifCond .ne 35, 3) := by decide +kernel
theorem dX6_call_191 : decode cX6_call 191 = .ok (.aload_n 0, 1) := by decide +kernel
theorem dX6_call_192 : decode cX6_call 192 = .ok (.getfield 62, 3) := by decide +kernel
theorem dX6_call_195 : decode cX6_call 195 = .ok (.aload_n 0, 1) := by decide +kernel
theorem dX6_call_196 : decode cX6_call 196 = .ok (.getfield 196, 3) := by decide +kernel
theorem dX6_call_199 : decode cX6_call 199 = .ok (.iload 6, 2) := by decide +kernel
theorem dX6_call_201 : decode cX6_call 201 = .ok (.iastore, 1) := by decide +kernel
theorem dX6_call_202 : decode cX6_call 202 = .ok (.aload_n 0, 1) := by decide +kernel
theorem dX6_call_203 : decode cX6_call 203 = .ok (.dup, 1) := by decide +kernel
theorem dX6_call_204 : decode cX6_call 204 = .ok (.getfield 196, 3) := by decide +kernel
theorem dX6_call_207 : decode cX6_call 207 = .ok (.iconst 1, 1) := by decide +kernel
theorem dX6_call_208 : decode cX6_call 208 = .ok (.iadd, 1) := by decide +kernel
theorem dX6_call_209 : decode cX6_call 209 = .ok (.putfield 196, 3) := by decide +kernel
theorem dX6_call_212 : decode cX6_call 212 = .ok (.aload_n 0, 1) := by decide +kernel
theorem dX6_call_213 : decode cX6_call 213 = .ok (.getfield 28, 3) := by decide +kernel
theorem dX6_call_216 : decode cX6_call 216 = .ok (.iload 6, 2) := by decide +kernel
theorem dX6_call_218 : decode cX6_call 218 = .ok (.dup2, 1) := by decide +kernel
theorem dX6_call_219 : decode cX6_call 219 = .ok (.iaload, 1) := by decide +kernel
theorem dX6_call_220 : decode cX6_call 220 = .ok (.iconst 1, 1) := by decide +kernel
theorem dX6_call_221 : decode cX6_call 221 = .ok (.iadd, 1) := by decide +kernel
theorem dX6_call_222 : decode cX6_call 222 = .ok (.iastore, 1) := by decide +kernel
theorem dX6_call_223 : decode cX6_call 223 = .ok (.iinc 6 1, 3) := by decide +kernel
theorem dX6_call_226 : decode cX6_call 226 = .ok (.goto (-66), 3) := by decide +kernel
theorem dX6_call_229 : decode cX6_call 229 = .ok (.aload_n 0, 1) := by decide +kernel
theorem dX6_call_230 : decode cX6_call 230 = .ok (.getfield 196, 3) := by decide +kernel
theorem dX6_call_233 : decode cX6_call 233 = .ok (.ifCond .le 7, 3) := by decide +kernel
theorem dX6_call_236 : decode cX6_call 236 = .ok (.aload_n 0, 1) := by decide +kernel
theorem dX6_call_237 : decode cX6_call 237 = .ok (.invokevirtual 115, 3) := by decide +kernel
theorem dX6_call_240 : decode cX6_call 240 = .ok (.iconst 0, 1) := by decide +kernel
theorem dX6_call_241 : decode cX6_call 241 = .ok (.ireturn, 1) := by decide +kernel
theorem dX6_gave_0 : decode cX6_gave 0 = .ok (.aload_n 0, 1) := by decide +kernel
theorem dX6_gave_1 : decode cX6_gave 1 = .ok (.getfield 186, 3) := by decide +kernel
theorem dX6_gave_4 : decode cX6_gave 4 = .ok (.lreturn, 1) := by decide +kernel
theorem dX6_where_0 : decode cX6_where 0 = .ok (.aload_n 0, 1) := by decide +kernel
theorem dX6_where_1 : decode cX6_where 1 = .ok (.getfield 52, 3) := by decide +kernel
theorem dX6_where_4 : decode cX6_where 4 = .ok (.ireturn, 1) := by decide +kernel
set_option maxRecDepth 20000 in
theorem ggX6_touched_X6_in : GoodIn wsX6_touched wsX6_in := goodIn_r _ [7] (by decide +kernel) (by decide +kernel)
set_option maxRecDepth 20000 in
theorem gX6_touched_X6_in : GoodIn wsX6_touched (va_wsS RX6 77 yX6_in wsX6_in) := goodIn_app (goodIn_of _ (by decide +kernel)) ggX6_touched_X6_in
theorem dX6_touched_0 : decode cX6_touched 0 = .ok (.iload_n 1, 1) := by decide +kernel
theorem dX6_touched_1 : decode cX6_touched 1 = .ok (.ifCond .lt 13, 3) := by decide +kernel
theorem dX6_touched_4 : decode cX6_touched 4 = .ok (.iload_n 2, 1) := by decide +kernel
theorem dX6_touched_5 : decode cX6_touched 5 = .ok (.i2l, 1) := by decide +kernel
theorem dX6_touched_6 : decode cX6_touched 6 = .ok (.lconst 0, 1) := by decide +kernel
theorem dX6_touched_7 : decode cX6_touched 7 = .ok (.lconst 1, 1) := by decide +kernel
theorem dX6_touched_8 : decode cX6_touched 8 = .ok (.invokestatic 77, 3) := by decide +kernel
theorem dX6_touched_11 : decode cX6_touched 11 = .ok (.ifCond .ne 5, 3) := by decide +kernel
theorem dX6_touched_14 : decode cX6_touched 14 = .ok (.iconst (-1), 1) := by decide +kernel
theorem dX6_touched_15 : decode cX6_touched 15 = .ok (.ireturn, 1) := by decide +kernel
theorem dX6_touched_16 : decode cX6_touched 16 = .ok (.iload_n 1, 1) := by decide +kernel
theorem dX6_touched_17 : decode cX6_touched 17 = .ok (.aload_n 0, 1) := by decide +kernel
theorem dX6_touched_18 : decode cX6_touched 18 = .ok (.getfield 152, 3) := by decide +kernel
theorem dX6_touched_21 : decode cX6_touched 21 = .ok (.if_icmp .lt 8, 3) := by decide +kernel
theorem dX6_touched_24 : decode cX6_touched 24 = .ok (.bipush (-3), 2) := by decide +kernel
theorem dX6_touched_26 : decode cX6_touched 26 = .ok (.goto 22, 3) := by decide +kernel
theorem dX6_touched_29 : decode cX6_touched 29 = .ok (.iload_n 2, 1) := by decide +kernel
theorem dX6_touched_30 : decode cX6_touched 30 = .ok (.ifCond .ne 12, 3) := by decide +kernel
theorem dX6_touched_33 : decode cX6_touched 33 = .ok (.aload_n 0, 1) := by decide +kernel
theorem dX6_touched_34 : decode cX6_touched 34 = .ok (.getfield 56, 3) := by decide +kernel
theorem dX6_touched_37 : decode cX6_touched 37 = .ok (.iload_n 1, 1) := by decide +kernel
theorem dX6_touched_38 : decode cX6_touched 38 = .ok (.iaload, 1) := by decide +kernel
theorem dX6_touched_39 : decode cX6_touched 39 = .ok (.goto 9, 3) := by decide +kernel
theorem dX6_touched_42 : decode cX6_touched 42 = .ok (.aload_n 0, 1) := by decide +kernel
theorem dX6_touched_43 : decode cX6_touched 43 = .ok (.getfield 59, 3) := by decide +kernel
theorem dX6_touched_46 : decode cX6_touched 46 = .ok (.iload_n 1, 1) := by decide +kernel
theorem dX6_touched_47 : decode cX6_touched 47 = .ok (.iaload, 1) := by decide +kernel
theorem dX6_touched_48 : decode cX6_touched 48 = .ok (.ireturn, 1) := by decide +kernel
theorem dX6_written_0 : decode cX6_written 0 = .ok (.iload_n 1, 1) := by decide +kernel
theorem dX6_written_1 : decode cX6_written 1 = .ok (.ifCond .ge 7, 3) := by decide +kernel
theorem dX6_written_4 : decode cX6_written 4 = .ok (.iconst (-1), 1) := by decide +kernel
theorem dX6_written_5 : decode cX6_written 5 = .ok (.goto 22, 3) := by decide +kernel
theorem dX6_written_8 : decode cX6_written 8 = .ok (.iload_n 1, 1) := by decide +kernel
theorem dX6_written_9 : decode cX6_written 9 = .ok (.aload_n 0, 1) := by decide +kernel
theorem dX6_written_10 : decode cX6_written 10 = .ok (.getfield 196, 3) := by decide +kernel
theorem dX6_written_13 : decode cX6_written 13 = .ok (.if_icmp .lt 8, 3) := by decide +kernel
theorem dX6_written_16 : decode cX6_written 16 = .ok (.bipush (-3), 2) := by decide +kernel
theorem dX6_written_18 : decode cX6_written 18 = .ok (.goto 9, 3) := by decide +kernel
theorem dX6_written_21 : decode cX6_written 21 = .ok (.aload_n 0, 1) := by decide +kernel
theorem dX6_written_22 : decode cX6_written 22 = .ok (.getfield 62, 3) := by decide +kernel
theorem dX6_written_25 : decode cX6_written 25 = .ok (.iload_n 1, 1) := by decide +kernel
theorem dX6_written_26 : decode cX6_written 26 = .ok (.iaload, 1) := by decide +kernel
theorem dX6_written_27 : decode cX6_written 27 = .ok (.ireturn, 1) := by decide +kernel
set_option maxRecDepth 20000 in
theorem ggX6_loaded_X6_isObject : GoodIn wsX6_loaded wsX6_isObject := goodIn_r _ [6, 7, 8, 9, 5, 10, 11, 12, 13, 14, 15, 16, 17, 18, 19, 20, 21, 22, 23, 24, 25, 26, 27, 28, 29, 30, 31, 32, 33, 34, 35, 36, 37, 38, 39, 40] (by decide +kernel) (by decide +kernel)
set_option maxRecDepth 20000 in
theorem gX6_loaded_X6_isObject : GoodIn wsX6_loaded (wsV RX6 81 RX6 yX6_isObject wsX6_isObject) := goodIn_app (goodIn_of _ (by decide +kernel)) ggX6_loaded_X6_isObject
theorem dX6_loaded_0 : decode cX6_loaded 0 = .ok (.aload_n 0, 1) := by decide +kernel
theorem dX6_loaded_1 : decode cX6_loaded 1 = .ok (.iload_n 1, 1) := by decide +kernel
theorem dX6_loaded_2 : decode cX6_loaded 2 = .ok (.invokevirtual 81, 3) := by decide +kernel
theorem dX6_loaded_5 : decode cX6_loaded 5 = .ok (.ifCond .ne 7, 3) := by decide +kernel
theorem dX6_loaded_8 : decode cX6_loaded 8 = .ok (.iconst (-1), 1) := by decide +kernel
theorem dX6_loaded_9 : decode cX6_loaded 9 = .ok (.goto 17, 3) := by decide +kernel
theorem dX6_loaded_12 : decode cX6_loaded 12 = .ok (.aload_n 0, 1) := by decide +kernel
theorem dX6_loaded_13 : decode cX6_loaded 13 = .ok (.getfield 65, 3) := by decide +kernel
theorem dX6_loaded_16 : decode cX6_loaded 16 = .ok (.iload_n 1, 1) := by decide +kernel
theorem dX6_loaded_17 : decode cX6_loaded 17 = .ok (.baload, 1) := by decide +kernel
theorem dX6_loaded_18 : decode cX6_loaded 18 = .ok (.ifCond .eq 7, 3) := by decide +kernel
theorem dX6_loaded_21 : decode cX6_loaded 21 = .ok (.iconst 1, 1) := by decide +kernel
theorem dX6_loaded_22 : decode cX6_loaded 22 = .ok (.goto 4, 3) := by decide +kernel
theorem dX6_loaded_25 : decode cX6_loaded 25 = .ok (.iconst 0, 1) := by decide +kernel
theorem dX6_loaded_26 : decode cX6_loaded 26 = .ok (.ireturn, 1) := by decide +kernel
set_option maxRecDepth 20000 in
theorem ggX6_cached_X6_isObject : GoodIn wsX6_cached wsX6_isObject := goodIn_r _ [6, 7, 8, 9, 5, 10, 11, 12, 13, 14, 15, 16, 17, 18, 19, 20, 21, 22, 23, 24, 25, 26, 27, 28, 29, 30, 31, 32, 33, 34, 35, 36, 37, 38, 39, 40] (by decide +kernel) (by decide +kernel)
set_option maxRecDepth 20000 in
theorem gX6_cached_X6_isObject : GoodIn wsX6_cached (wsV RX6 81 RX6 yX6_isObject wsX6_isObject) := goodIn_app (goodIn_of _ (by decide +kernel)) ggX6_cached_X6_isObject
theorem dX6_cached_0 : decode cX6_cached 0 = .ok (.aload_n 0, 1) := by decide +kernel
theorem dX6_cached_1 : decode cX6_cached 1 = .ok (.iload_n 1, 1) := by decide +kernel
theorem dX6_cached_2 : decode cX6_cached 2 = .ok (.invokevirtual 81, 3) := by decide +kernel
theorem dX6_cached_5 : decode cX6_cached 5 = .ok (.ifCond .ne 7, 3) := by decide +kernel
theorem dX6_cached_8 : decode cX6_cached 8 = .ok (.iconst (-1), 1) := by decide +kernel
theorem dX6_cached_9 : decode cX6_cached 9 = .ok (.goto 17, 3) := by decide +kernel
theorem dX6_cached_12 : decode cX6_cached 12 = .ok (.aload_n 0, 1) := by decide +kernel
theorem dX6_cached_13 : decode cX6_cached 13 = .ok (.getfield 24, 3) := by decide +kernel
theorem dX6_cached_16 : decode cX6_cached 16 = .ok (.iload_n 1, 1) := by decide +kernel
theorem dX6_cached_17 : decode cX6_cached 17 = .ok (.baload, 1) := by decide +kernel
theorem dX6_cached_18 : decode cX6_cached 18 = .ok (.ifCond .eq 7, 3) := by decide +kernel
theorem dX6_cached_21 : decode cX6_cached 21 = .ok (.iconst 1, 1) := by decide +kernel
theorem dX6_cached_22 : decode cX6_cached 22 = .ok (.goto 4, 3) := by decide +kernel
theorem dX6_cached_25 : decode cX6_cached 25 = .ok (.iconst 0, 1) := by decide +kernel
theorem dX6_cached_26 : decode cX6_cached 26 = .ok (.ireturn, 1) := by decide +kernel
set_option maxRecDepth 20000 in
theorem ggX6_hint_X6_isObject : GoodIn wsX6_hint wsX6_isObject := goodIn_r _ [7, 8, 9, 10, 6, 11, 12, 13, 14, 15, 16, 17, 18, 19, 20, 21, 22, 23, 24, 25, 26, 27, 28, 29, 30, 31, 32, 33, 34, 35, 36, 37, 38, 39, 40, 41] (by decide +kernel) (by decide +kernel)
set_option maxRecDepth 20000 in
theorem gX6_hint_X6_isObject : GoodIn wsX6_hint (wsV RX6 81 RX6 yX6_isObject wsX6_isObject) := goodIn_app (goodIn_of _ (by decide +kernel)) ggX6_hint_X6_isObject
theorem dX6_hint_0 : decode cX6_hint 0 = .ok (.aload_n 0, 1) := by decide +kernel
theorem dX6_hint_1 : decode cX6_hint 1 = .ok (.iload_n 1, 1) := by decide +kernel
theorem dX6_hint_2 : decode cX6_hint 2 = .ok (.invokevirtual 81, 3) := by decide +kernel
theorem dX6_hint_5 : decode cX6_hint 5 = .ok (.ifCond .ne 5, 3) := by decide +kernel
theorem dX6_hint_8 : decode cX6_hint 8 = .ok (.iconst (-1), 1) := by decide +kernel
theorem dX6_hint_9 : decode cX6_hint 9 = .ok (.ireturn, 1) := by decide +kernel
theorem dX6_hint_10 : decode cX6_hint 10 = .ok (.aload_n 0, 1) := by decide +kernel
theorem dX6_hint_11 : decode cX6_hint 11 = .ok (.getfield 24, 3) := by decide +kernel
theorem dX6_hint_14 : decode cX6_hint 14 = .ok (.iload_n 1, 1) := by decide +kernel
theorem dX6_hint_15 : decode cX6_hint 15 = .ok (.baload, 1) := by decide +kernel
theorem dX6_hint_16 : decode cX6_hint 16 = .ok (.ifCond .eq 7, 3) := by decide +kernel
theorem dX6_hint_19 : decode cX6_hint 19 = .ok (.iconst 0, 1) := by decide +kernel
theorem dX6_hint_20 : decode cX6_hint 20 = .ok (.goto 4, 3) := by decide +kernel
theorem dX6_hint_23 : decode cX6_hint 23 = .ok (.iconst 1, 1) := by decide +kernel
theorem dX6_hint_24 : decode cX6_hint 24 = .ok (.istore_n 2, 1) := by decide +kernel
theorem dX6_hint_25 : decode cX6_hint 25 = .ok (.aload_n 0, 1) := by decide +kernel
theorem dX6_hint_26 : decode cX6_hint 26 = .ok (.dup, 1) := by decide +kernel
theorem dX6_hint_27 : decode cX6_hint 27 = .ok (.getfield 149, 3) := by decide +kernel
theorem dX6_hint_30 : decode cX6_hint 30 = .ok (.iload_n 2, 1) := by decide +kernel
theorem dX6_hint_31 : decode cX6_hint 31 = .ok (.iadd, 1) := by decide +kernel
theorem dX6_hint_32 : decode cX6_hint 32 = .ok (.putfield 149, 3) := by decide +kernel
theorem dX6_hint_35 : decode cX6_hint 35 = .ok (.aload_n 0, 1) := by decide +kernel
theorem dX6_hint_36 : decode cX6_hint 36 = .ok (.getfield 24, 3) := by decide +kernel
theorem dX6_hint_39 : decode cX6_hint 39 = .ok (.iload_n 1, 1) := by decide +kernel
theorem dX6_hint_40 : decode cX6_hint 40 = .ok (.iconst 1, 1) := by decide +kernel
theorem dX6_hint_41 : decode cX6_hint 41 = .ok (.bastore, 1) := by decide +kernel
theorem dX6_hint_42 : decode cX6_hint 42 = .ok (.iload_n 2, 1) := by decide +kernel
theorem dX6_hint_43 : decode cX6_hint 43 = .ok (.ireturn, 1) := by decide +kernel
set_option maxRecDepth 20000 in
theorem ggX6_times_X6_in : GoodIn wsX6_times wsX6_in := goodIn_r _ [7] (by decide +kernel) (by decide +kernel)
set_option maxRecDepth 20000 in
theorem gX6_times_X6_in : GoodIn wsX6_times (va_wsS RX6 77 yX6_in wsX6_in) := goodIn_app (goodIn_of _ (by decide +kernel)) ggX6_times_X6_in
set_option maxRecDepth 20000 in
theorem ggX6_times_X6_isObject : GoodIn wsX6_times wsX6_isObject := goodIn_r _ [11, 12, 4, 5, 6, 7, 16, 17, 18, 19, 20, 21, 22, 23, 24, 25, 26, 27, 28, 29, 30, 31, 32, 33, 34, 35, 36, 37, 38, 39, 40, 41, 42, 43, 44, 45] (by decide +kernel) (by decide +kernel)
set_option maxRecDepth 20000 in
theorem gX6_times_X6_isObject : GoodIn wsX6_times (wsV RX6 81 RX6 yX6_isObject wsX6_isObject) := goodIn_app (goodIn_of _ (by decide +kernel)) ggX6_times_X6_isObject
set_option maxRecDepth 20000 in
theorem ggX6_times_X6_fieldsOf : GoodIn wsX6_times wsX6_fieldsOf := goodIn_r _ [15] (by decide +kernel) (by decide +kernel)
set_option maxRecDepth 20000 in
theorem gX6_times_X6_fieldsOf : GoodIn wsX6_times (va_wsS RX6 85 yX6_fieldsOf wsX6_fieldsOf) := goodIn_app (goodIn_of _ (by decide +kernel)) ggX6_times_X6_fieldsOf
theorem dX6_times_0 : decode cX6_times 0 = .ok (.iload_n 1, 1) := by decide +kernel
theorem dX6_times_1 : decode cX6_times 1 = .ok (.i2l, 1) := by decide +kernel
theorem dX6_times_2 : decode cX6_times 2 = .ok (.lconst 0, 1) := by decide +kernel
theorem dX6_times_3 : decode cX6_times 3 = .ok (.ldc2_w 212, 3) := by decide +kernel
theorem dX6_times_6 : decode cX6_times 6 = .ok (.invokestatic 77, 3) := by decide +kernel
theorem dX6_times_9 : decode cX6_times 9 = .ok (.ifCond .eq 37, 3) := by decide +kernel
theorem dX6_times_12 : decode cX6_times 12 = .ok (.aload_n 0, 1) := by decide +kernel
theorem dX6_times_13 : decode cX6_times 13 = .ok (.iload_n 1, 1) := by decide +kernel
theorem dX6_times_14 : decode cX6_times 14 = .ok (.bipush 8, 2) := by decide +kernel
theorem dX6_times_16 : decode cX6_times 16 = .ok (.idiv, 1) := by decide +kernel
theorem dX6_times_17 : decode cX6_times 17 = .ok (.invokevirtual 81, 3) := by decide +kernel
theorem dX6_times_20 : decode cX6_times 20 = .ok (.ifCond .eq 26, 3) := by decide +kernel
theorem dX6_times_23 : decode cX6_times 23 = .ok (.iload_n 1, 1) := by decide +kernel
theorem dX6_times_24 : decode cX6_times 24 = .ok (.bipush 8, 2) := by decide +kernel
theorem dX6_times_26 : decode cX6_times 26 = .ok (.irem, 1) := by decide +kernel
theorem dX6_times_27 : decode cX6_times 27 = .ok (.aload_n 0, 1) := by decide +kernel
theorem dX6_times_28 : decode cX6_times 28 = .ok (.getfield 7, 3) := by decide +kernel
theorem dX6_times_31 : decode cX6_times 31 = .ok (.iload_n 1, 1) := by decide +kernel
theorem dX6_times_32 : decode cX6_times 32 = .ok (.bipush 8, 2) := by decide +kernel
theorem dX6_times_34 : decode cX6_times 34 = .ok (.idiv, 1) := by decide +kernel
theorem dX6_times_35 : decode cX6_times 35 = .ok (.iaload, 1) := by decide +kernel
theorem dX6_times_36 : decode cX6_times 36 = .ok (.invokestatic 85, 3) := by decide +kernel
theorem dX6_times_39 : decode cX6_times 39 = .ok (.if_icmp .ge 7, 3) := by decide +kernel
theorem dX6_times_42 : decode cX6_times 42 = .ok (.iconst 1, 1) := by decide +kernel
theorem dX6_times_43 : decode cX6_times 43 = .ok (.goto 4, 3) := by decide +kernel
theorem dX6_times_46 : decode cX6_times 46 = .ok (.iconst 0, 1) := by decide +kernel
theorem dX6_times_47 : decode cX6_times 47 = .ok (.istore_n 2, 1) := by decide +kernel
theorem dX6_times_48 : decode cX6_times 48 = .ok (.iload_n 2, 1) := by decide +kernel
theorem dX6_times_49 : decode cX6_times 49 = .ok (.ifCond .eq 12, 3) := by decide +kernel
theorem dX6_times_52 : decode cX6_times 52 = .ok (.aload_n 0, 1) := by decide +kernel
theorem dX6_times_53 : decode cX6_times 53 = .ok (.getfield 28, 3) := by decide +kernel
theorem dX6_times_56 : decode cX6_times 56 = .ok (.iload_n 1, 1) := by decide +kernel
theorem dX6_times_57 : decode cX6_times 57 = .ok (.iaload, 1) := by decide +kernel
theorem dX6_times_58 : decode cX6_times 58 = .ok (.goto 4, 3) := by decide +kernel
theorem dX6_times_61 : decode cX6_times 61 = .ok (.iconst (-1), 1) := by decide +kernel
theorem dX6_times_62 : decode cX6_times 62 = .ok (.ireturn, 1) := by decide +kernel
set_option maxRecDepth 20000 in
theorem ggX6_all_X6_isObject : GoodIn wsX6_all wsX6_isObject := goodIn_r _ [7, 8, 9, 10, 6, 11, 12, 13, 14, 15, 16, 17, 18, 19, 20, 21, 22, 23, 24, 25, 26, 27, 28, 29, 30, 31, 32, 33, 34, 35, 36, 37, 38, 39, 40, 41] (by decide +kernel) (by decide +kernel)
set_option maxRecDepth 20000 in
theorem gX6_all_X6_isObject : GoodIn wsX6_all (wsV RX6 81 RX6 yX6_isObject wsX6_isObject) := goodIn_app (goodIn_of _ (by decide +kernel)) ggX6_all_X6_isObject
set_option maxRecDepth 20000 in
theorem ggX6_all_X6_in : GoodIn wsX6_all wsX6_in := goodIn_r _ [11] (by decide +kernel) (by decide +kernel)
set_option maxRecDepth 20000 in
theorem gX6_all_X6_in : GoodIn wsX6_all (va_wsS RX6 77 yX6_in wsX6_in) := goodIn_app (goodIn_of _ (by decide +kernel)) ggX6_all_X6_in
theorem dX6_all_0 : decode cX6_all 0 = .ok (.aload_n 0, 1) := by decide +kernel
theorem dX6_all_1 : decode cX6_all 1 = .ok (.iload_n 1, 1) := by decide +kernel
theorem dX6_all_2 : decode cX6_all 2 = .ok (.invokevirtual 81, 3) := by decide +kernel
theorem dX6_all_5 : decode cX6_all 5 = .ok (.ifCond .eq 15, 3) := by decide +kernel
theorem dX6_all_8 : decode cX6_all 8 = .ok (.iload_n 2, 1) := by decide +kernel
theorem dX6_all_9 : decode cX6_all 9 = .ok (.i2l, 1) := by decide +kernel
theorem dX6_all_10 : decode cX6_all 10 = .ok (.lconst 0, 1) := by decide +kernel
theorem dX6_all_11 : decode cX6_all 11 = .ok (.ldc2_w 143, 3) := by decide +kernel
theorem dX6_all_14 : decode cX6_all 14 = .ok (.invokestatic 77, 3) := by decide +kernel
theorem dX6_all_17 : decode cX6_all 17 = .ok (.ifCond .ne 7, 3) := by decide +kernel
theorem dX6_all_20 : decode cX6_all 20 = .ok (.iconst (-1), 1) := by decide +kernel
theorem dX6_all_21 : decode cX6_all 21 = .ok (.goto 18, 3) := by decide +kernel
theorem dX6_all_24 : decode cX6_all 24 = .ok (.aload_n 0, 1) := by decide +kernel
theorem dX6_all_25 : decode cX6_all 25 = .ok (.getfield 104, 3) := by decide +kernel
theorem dX6_all_28 : decode cX6_all 28 = .ok (.bipush 40, 2) := by decide +kernel
theorem dX6_all_30 : decode cX6_all 30 = .ok (.if_icmp .ne 8, 3) := by decide +kernel
theorem dX6_all_33 : decode cX6_all 33 = .ok (.bipush (-2), 2) := by decide +kernel
theorem dX6_all_35 : decode cX6_all 35 = .ok (.goto 4, 3) := by decide +kernel
theorem dX6_all_38 : decode cX6_all 38 = .ok (.iconst 1, 1) := by decide +kernel
theorem dX6_all_39 : decode cX6_all 39 = .ok (.ireturn, 1) := by decide +kernel
set_option maxRecDepth 20000 in
theorem ggX6_view_X6_isObject : GoodIn wsX6_view wsX6_isObject := goodIn_r _ [12, 13, 14, 15, 11, 16, 23, 24, 25, 26, 27, 28, 29, 30, 31, 32, 33, 34, 35, 36, 37, 38, 39, 40, 41, 42, 43, 44, 45, 46, 47, 48, 49, 50, 51, 52] (by decide +kernel) (by decide +kernel)
set_option maxRecDepth 20000 in
theorem gX6_view_X6_isObject : GoodIn wsX6_view (wsV RX6 81 RX6 yX6_isObject wsX6_isObject) := goodIn_app (goodIn_of _ (by decide +kernel)) ggX6_view_X6_isObject
set_option maxRecDepth 20000 in
theorem ggX6_view_X6_fieldsOf : GoodIn wsX6_view wsX6_fieldsOf := goodIn_r _ [19] (by decide +kernel) (by decide +kernel)
set_option maxRecDepth 20000 in
theorem gX6_view_X6_fieldsOf : GoodIn wsX6_view (va_wsS RX6 85 yX6_fieldsOf wsX6_fieldsOf) := goodIn_app (goodIn_of _ (by decide +kernel)) ggX6_view_X6_fieldsOf
set_option maxRecDepth 20000 in
theorem ggX6_view_X6_in : GoodIn wsX6_view wsX6_in := goodIn_r _ [16] (by decide +kernel) (by decide +kernel)
set_option maxRecDepth 20000 in
theorem gX6_view_X6_in : GoodIn wsX6_view (va_wsS RX6 77 yX6_in wsX6_in) := goodIn_app (goodIn_of _ (by decide +kernel)) ggX6_view_X6_in
set_option maxRecDepth 20000 in
theorem ggX6_view_X6_sortOf : GoodIn wsX6_view wsX6_sortOf := goodIn_r _ [22] (by decide +kernel) (by decide +kernel)
set_option maxRecDepth 20000 in
theorem gX6_view_X6_sortOf : GoodIn wsX6_view (va_wsS RX6 89 yX6_sortOf wsX6_sortOf) := goodIn_app (goodIn_of _ (by decide +kernel)) ggX6_view_X6_sortOf
theorem dX6_view_0 : decode cX6_view 0 = .ok (.aload_n 0, 1) := by decide +kernel
theorem dX6_view_1 : decode cX6_view 1 = .ok (.iconst (-1), 1) := by decide +kernel
theorem dX6_view_2 : decode cX6_view 2 = .ok (.putfield 214, 3) := by decide +kernel
theorem dX6_view_5 : decode cX6_view 5 = .ok (.aload_n 0, 1) := by decide +kernel
theorem dX6_view_6 : decode cX6_view 6 = .ok (.iload_n 1, 1) := by decide +kernel
theorem dX6_view_7 : decode cX6_view 7 = .ok (.invokevirtual 81, 3) := by decide +kernel
theorem dX6_view_10 : decode cX6_view 10 = .ok (.ifCond .eq 50, 3) := by decide +kernel
theorem dX6_view_13 : decode cX6_view 13 = .ok (.iload_n 2, 1) := by decide +kernel
theorem dX6_view_14 : decode cX6_view 14 = .ok (.i2l, 1) := by decide +kernel
theorem dX6_view_15 : decode cX6_view 15 = .ok (.lconst 0, 1) := by decide +kernel
theorem dX6_view_16 : decode cX6_view 16 = .ok (.aload_n 0, 1) := by decide +kernel
theorem dX6_view_17 : decode cX6_view 17 = .ok (.getfield 7, 3) := by decide +kernel
theorem dX6_view_20 : decode cX6_view 20 = .ok (.iload_n 1, 1) := by decide +kernel
theorem dX6_view_21 : decode cX6_view 21 = .ok (.iaload, 1) := by decide +kernel
theorem dX6_view_22 : decode cX6_view 22 = .ok (.invokestatic 85, 3) := by decide +kernel
theorem dX6_view_25 : decode cX6_view 25 = .ok (.iconst 1, 1) := by decide +kernel
theorem dX6_view_26 : decode cX6_view 26 = .ok (.isub, 1) := by decide +kernel
theorem dX6_view_27 : decode cX6_view 27 = .ok (.i2l, 1) := by decide +kernel
theorem dX6_view_28 : decode cX6_view 28 = .ok (.invokestatic 77, 3) := by decide +kernel
theorem dX6_view_31 : decode cX6_view 31 = .ok (.ifCond .eq 29, 3) := by decide +kernel
theorem dX6_view_34 : decode cX6_view 34 = .ok (.iload_n 3, 1) := by decide +kernel
theorem dX6_view_35 : decode cX6_view 35 = .ok (.i2l, 1) := by decide +kernel
theorem dX6_view_36 : decode cX6_view 36 = .ok (.lconst 0, 1) := by decide +kernel
theorem dX6_view_37 : decode cX6_view 37 = .ok (.aload_n 0, 1) := by decide +kernel
theorem dX6_view_38 : decode cX6_view 38 = .ok (.getfield 104, 3) := by decide +kernel
theorem dX6_view_41 : decode cX6_view 41 = .ok (.i2l, 1) := by decide +kernel
theorem dX6_view_42 : decode cX6_view 42 = .ok (.invokestatic 77, 3) := by decide +kernel
theorem dX6_view_45 : decode cX6_view 45 = .ok (.ifCond .eq 15, 3) := by decide +kernel
theorem dX6_view_48 : decode cX6_view 48 = .ok (.iload 4, 2) := by decide +kernel
theorem dX6_view_50 : decode cX6_view 50 = .ok (.ifCond .ge 14, 3) := by decide +kernel
theorem dX6_view_53 : decode cX6_view 53 = .ok (.iload 4, 2) := by decide +kernel
theorem dX6_view_55 : decode cX6_view 55 = .ok (.bipush (-3), 2) := by decide +kernel
theorem dX6_view_57 : decode cX6_view 57 = .ok (.if_icmp .eq 7, 3) := by decide +kernel
theorem dX6_view_60 : decode cX6_view 60 = .ok (.ldc2_w 217, 3) := by decide +kernel
theorem dX6_view_63 : decode cX6_view 63 = .ok (.lreturn, 1) := by decide +kernel
theorem dX6_view_64 : decode cX6_view 64 = .ok (.aload_n 0, 1) := by decide +kernel
theorem dX6_view_65 : decode cX6_view 65 = .ok (.getfield 7, 3) := by decide +kernel
theorem dX6_view_68 : decode cX6_view 68 = .ok (.iload_n 1, 1) := by decide +kernel
theorem dX6_view_69 : decode cX6_view 69 = .ok (.iaload, 1) := by decide +kernel
theorem dX6_view_70 : decode cX6_view 70 = .ok (.iload_n 2, 1) := by decide +kernel
theorem dX6_view_71 : decode cX6_view 71 = .ok (.invokestatic 89, 3) := by decide +kernel
theorem dX6_view_74 : decode cX6_view 74 = .ok (.istore 5, 2) := by decide +kernel
theorem dX6_view_76 : decode cX6_view 76 = .ok (.sipush 192, 3) := by decide +kernel
theorem dX6_view_79 : decode cX6_view 79 = .ok (.iload_n 3, 1) := by decide +kernel
theorem dX6_view_80 : decode cX6_view 80 = .ok (.imul, 1) := by decide +kernel
theorem dX6_view_81 : decode cX6_view 81 = .ok (.bipush 8, 2) := by decide +kernel
theorem dX6_view_83 : decode cX6_view 83 = .ok (.iload_n 1, 1) := by decide +kernel
theorem dX6_view_84 : decode cX6_view 84 = .ok (.imul, 1) := by decide +kernel
theorem dX6_view_85 : decode cX6_view 85 = .ok (.iadd, 1) := by decide +kernel
theorem dX6_view_86 : decode cX6_view 86 = .ok (.iload_n 2, 1) := by decide +kernel
theorem dX6_view_87 : decode cX6_view 87 = .ok (.iadd, 1) := by decide +kernel
theorem dX6_view_88 : decode cX6_view 88 = .ok (.istore 6, 2) := by decide +kernel
theorem dX6_view_90 : decode cX6_view 90 = .ok (.iload 4, 2) := by decide +kernel
theorem dX6_view_92 : decode cX6_view 92 = .ok (.ifCond .lt 25, 3) := by decide +kernel
theorem dX6_view_95 : decode cX6_view 95 = .ok (.iload 5, 2) := by decide +kernel
theorem dX6_view_97 : decode cX6_view 97 = .ok (.iconst 2, 1) := by decide +kernel
theorem dX6_view_98 : decode cX6_view 98 = .ok (.if_icmp .ne 15, 3) := by decide +kernel
theorem dX6_view_101 : decode cX6_view 101 = .ok (.iload 4, 2) := by decide +kernel
theorem dX6_view_103 : decode cX6_view 103 = .ok (.aload_n 0, 1) := by decide +kernel
theorem dX6_view_104 : decode cX6_view 104 = .ok (.getfield 17, 3) := by decide +kernel
theorem dX6_view_107 : decode cX6_view 107 = .ok (.iload 6, 2) := by decide +kernel
theorem dX6_view_109 : decode cX6_view 109 = .ok (.iaload, 1) := by decide +kernel
theorem dX6_view_110 : decode cX6_view 110 = .ok (.if_icmp .lt 7, 3) := by decide +kernel
theorem dX6_view_113 : decode cX6_view 113 = .ok (.ldc2_w 217, 3) := by decide +kernel
theorem dX6_view_116 : decode cX6_view 116 = .ok (.lreturn, 1) := by decide +kernel
theorem dX6_view_117 : decode cX6_view 117 = .ok (.aload_n 0, 1) := by decide +kernel
theorem dX6_view_118 : decode cX6_view 118 = .ok (.iconst 0, 1) := by decide +kernel
theorem dX6_view_119 : decode cX6_view 119 = .ok (.putfield 214, 3) := by decide +kernel
theorem dX6_view_122 : decode cX6_view 122 = .ok (.iload 4, 2) := by decide +kernel
theorem dX6_view_124 : decode cX6_view 124 = .ok (.ifCond .lt 20, 3) := by decide +kernel
theorem dX6_view_127 : decode cX6_view 127 = .ok (.aload_n 0, 1) := by decide +kernel
theorem dX6_view_128 : decode cX6_view 128 = .ok (.getfield 21, 3) := by decide +kernel
theorem dX6_view_131 : decode cX6_view 131 = .ok (.bipush 8, 2) := by decide +kernel
theorem dX6_view_133 : decode cX6_view 133 = .ok (.iload 6, 2) := by decide +kernel
theorem dX6_view_135 : decode cX6_view 135 = .ok (.imul, 1) := by decide +kernel
theorem dX6_view_136 : decode cX6_view 136 = .ok (.iload 4, 2) := by decide +kernel
theorem dX6_view_138 : decode cX6_view 138 = .ok (.iadd, 1) := by decide +kernel
theorem dX6_view_139 : decode cX6_view 139 = .ok (.iaload, 1) := by decide +kernel
theorem dX6_view_140 : decode cX6_view 140 = .ok (.i2l, 1) := by decide +kernel
theorem dX6_view_141 : decode cX6_view 141 = .ok (.goto 27, 3) := by decide +kernel
theorem dX6_view_144 : decode cX6_view 144 = .ok (.iload 5, 2) := by decide +kernel
theorem dX6_view_146 : decode cX6_view 146 = .ok (.iconst 2, 1) := by decide +kernel
theorem dX6_view_147 : decode cX6_view 147 = .ok (.if_icmp .ne 14, 3) := by decide +kernel
theorem dX6_view_150 : decode cX6_view 150 = .ok (.aload_n 0, 1) := by decide +kernel
theorem dX6_view_151 : decode cX6_view 151 = .ok (.getfield 17, 3) := by decide +kernel
theorem dX6_view_154 : decode cX6_view 154 = .ok (.iload 6, 2) := by decide +kernel
theorem dX6_view_156 : decode cX6_view 156 = .ok (.iaload, 1) := by decide +kernel
theorem dX6_view_157 : decode cX6_view 157 = .ok (.i2l, 1) := by decide +kernel
theorem dX6_view_158 : decode cX6_view 158 = .ok (.goto 10, 3) := by decide +kernel
theorem dX6_view_161 : decode cX6_view 161 = .ok (.aload_n 0, 1) := by decide +kernel
theorem dX6_view_162 : decode cX6_view 162 = .ok (.getfield 13, 3) := by decide +kernel
theorem dX6_view_165 : decode cX6_view 165 = .ok (.iload 6, 2) := by decide +kernel
theorem dX6_view_167 : decode cX6_view 167 = .ok (.laload, 1) := by decide +kernel
theorem dX6_view_168 : decode cX6_view 168 = .ok (.lreturn, 1) := by decide +kernel
theorem dX6_status_0 : decode cX6_status 0 = .ok (.aload_n 0, 1) := by decide +kernel
theorem dX6_status_1 : decode cX6_status 1 = .ok (.getfield 214, 3) := by decide +kernel
theorem dX6_status_4 : decode cX6_status 4 = .ok (.ireturn, 1) := by decide +kernel
theorem dX6_told_0 : decode cX6_told 0 = .ok (.iconst 0, 1) := by decide +kernel
theorem dX6_told_1 : decode cX6_told 1 = .ok (.istore_n 2, 1) := by decide +kernel
theorem dX6_told_2 : decode cX6_told 2 = .ok (.iconst 0, 1) := by decide +kernel
theorem dX6_told_3 : decode cX6_told 3 = .ok (.istore_n 3, 1) := by decide +kernel
theorem dX6_told_4 : decode cX6_told 4 = .ok (.iconst 0, 1) := by decide +kernel
theorem dX6_told_5 : decode cX6_told 5 = .ok (.istore 4, 2) := by decide +kernel
theorem dX6_told_7 : decode cX6_told 7 = .ok (.iload 4, 2) := by decide +kernel
theorem dX6_told_9 : decode cX6_told 9 = .ok (.bipush 24, 2) := by decide +kernel
theorem dX6_told_11 : decode cX6_told 11 = .ok (.if_icmp .ge 27, 3) := by decide +kernel
theorem dX6_told_14 : decode cX6_told 14 = .ok (.iload_n 2, 1) := by decide +kernel
theorem dX6_told_15 : decode cX6_told 15 = .ok (.aload_n 0, 1) := by decide +kernel
theorem dX6_told_16 : decode cX6_told 16 = .ok (.getfield 65, 3) := by decide +kernel
theorem dX6_told_19 : decode cX6_told 19 = .ok (.iload 4, 2) := by decide +kernel
theorem dX6_told_21 : decode cX6_told 21 = .ok (.baload, 1) := by decide +kernel
theorem dX6_told_22 : decode cX6_told 22 = .ok (.ifCond .eq 7, 3) := by decide +kernel
theorem dX6_told_25 : decode cX6_told 25 = .ok (.iconst 1, 1) := by decide +kernel
theorem dX6_told_26 : decode cX6_told 26 = .ok (.goto 4, 3) := by decide +kernel
theorem dX6_told_29 : decode cX6_told 29 = .ok (.iconst 0, 1) := by decide +kernel
theorem dX6_told_30 : decode cX6_told 30 = .ok (.iadd, 1) := by decide +kernel
theorem dX6_told_31 : decode cX6_told 31 = .ok (.istore_n 2, 1) := by decide +kernel
theorem dX6_told_32 : decode cX6_told 32 = .ok (.iinc 4 1, 3) := by decide +kernel
theorem dX6_told_35 : decode cX6_told 35 = .ok (.goto (-28), 3) := by decide +kernel
theorem dX6_told_38 : decode cX6_told 38 = .ok (.iconst 0, 1) := by decide +kernel
theorem dX6_told_39 : decode cX6_told 39 = .ok (.istore 4, 2) := by decide +kernel
theorem dX6_told_41 : decode cX6_told 41 = .ok (.iload 4, 2) := by decide +kernel
theorem dX6_told_43 : decode cX6_told 43 = .ok (.aload_n 0, 1) := by decide +kernel
theorem dX6_told_44 : decode cX6_told 44 = .ok (.getfield 152, 3) := by decide +kernel
theorem dX6_told_47 : decode cX6_told 47 = .ok (.if_icmp .ge 19, 3) := by decide +kernel
theorem dX6_told_50 : decode cX6_told 50 = .ok (.iload_n 3, 1) := by decide +kernel
theorem dX6_told_51 : decode cX6_told 51 = .ok (.aload_n 0, 1) := by decide +kernel
theorem dX6_told_52 : decode cX6_told 52 = .ok (.getfield 59, 3) := by decide +kernel
theorem dX6_told_55 : decode cX6_told 55 = .ok (.iload 4, 2) := by decide +kernel
theorem dX6_told_57 : decode cX6_told 57 = .ok (.iaload, 1) := by decide +kernel
theorem dX6_told_58 : decode cX6_told 58 = .ok (.iadd, 1) := by decide +kernel
theorem dX6_told_59 : decode cX6_told 59 = .ok (.istore_n 3, 1) := by decide +kernel
theorem dX6_told_60 : decode cX6_told 60 = .ok (.iinc 4 1, 3) := by decide +kernel
theorem dX6_told_63 : decode cX6_told 63 = .ok (.goto (-22), 3) := by decide +kernel
theorem dX6_told_66 : decode cX6_told 66 = .ok (.iload_n 1, 1) := by decide +kernel
theorem dX6_told_67 : decode cX6_told 67 = .ok (.tableswitch 88 0 8 #[49, 54, 59, 64, 69, 71, 76, 78, 83], 49) := by decide +kernel
theorem dX6_told_116 : decode cX6_told 116 = .ok (.aload_n 0, 1) := by decide +kernel
theorem dX6_told_117 : decode cX6_told 117 = .ok (.getfield 74, 3) := by decide +kernel
theorem dX6_told_120 : decode cX6_told 120 = .ok (.ireturn, 1) := by decide +kernel
theorem dX6_told_121 : decode cX6_told 121 = .ok (.aload_n 0, 1) := by decide +kernel
theorem dX6_told_122 : decode cX6_told 122 = .ok (.getfield 104, 3) := by decide +kernel
theorem dX6_told_125 : decode cX6_told 125 = .ok (.ireturn, 1) := by decide +kernel
theorem dX6_told_126 : decode cX6_told 126 = .ok (.aload_n 0, 1) := by decide +kernel
theorem dX6_told_127 : decode cX6_told 127 = .ok (.getfield 149, 3) := by decide +kernel
theorem dX6_told_130 : decode cX6_told 130 = .ok (.ireturn, 1) := by decide +kernel
theorem dX6_told_131 : decode cX6_told 131 = .ok (.aload_n 0, 1) := by decide +kernel
theorem dX6_told_132 : decode cX6_told 132 = .ok (.getfield 152, 3) := by decide +kernel
theorem dX6_told_135 : decode cX6_told 135 = .ok (.ireturn, 1) := by decide +kernel
theorem dX6_told_136 : decode cX6_told 136 = .ok (.iload_n 3, 1) := by decide +kernel
theorem dX6_told_137 : decode cX6_told 137 = .ok (.ireturn, 1) := by decide +kernel
theorem dX6_told_138 : decode cX6_told 138 = .ok (.aload_n 0, 1) := by decide +kernel
theorem dX6_told_139 : decode cX6_told 139 = .ok (.getfield 196, 3) := by decide +kernel
theorem dX6_told_142 : decode cX6_told 142 = .ok (.ireturn, 1) := by decide +kernel
theorem dX6_told_143 : decode cX6_told 143 = .ok (.iload_n 2, 1) := by decide +kernel
theorem dX6_told_144 : decode cX6_told 144 = .ok (.ireturn, 1) := by decide +kernel
theorem dX6_told_145 : decode cX6_told 145 = .ok (.aload_n 0, 1) := by decide +kernel
theorem dX6_told_146 : decode cX6_told 146 = .ok (.getfield 199, 3) := by decide +kernel
theorem dX6_told_149 : decode cX6_told 149 = .ok (.ireturn, 1) := by decide +kernel
theorem dX6_told_150 : decode cX6_told 150 = .ok (.aload_n 0, 1) := by decide +kernel
theorem dX6_told_151 : decode cX6_told 151 = .ok (.getfield 202, 3) := by decide +kernel
theorem dX6_told_154 : decode cX6_told 154 = .ok (.ireturn, 1) := by decide +kernel
theorem dX6_told_155 : decode cX6_told 155 = .ok (.iconst (-1), 1) := by decide +kernel
theorem dX6_told_156 : decode cX6_told 156 = .ok (.ireturn, 1) := by decide +kernel
theorem dJ6_bitCount_0f7a4_0 : decode cJ6_bitCount_0f7a4 0 = .ok (.iload_n 0, 1) := by decide +kernel
theorem dJ6_bitCount_0f7a4_1 : decode cJ6_bitCount_0f7a4 1 = .ok (.iload_n 0, 1) := by decide +kernel
theorem dJ6_bitCount_0f7a4_2 : decode cJ6_bitCount_0f7a4 2 = .ok (.iconst 1, 1) := by decide +kernel
theorem dJ6_bitCount_0f7a4_3 : decode cJ6_bitCount_0f7a4 3 = .ok (.iushr, 1) := by decide +kernel
theorem dJ6_bitCount_0f7a4_4 : decode cJ6_bitCount_0f7a4 4 = .ok (.ldc_w 265, 3) := by decide +kernel
theorem dJ6_bitCount_0f7a4_7 : decode cJ6_bitCount_0f7a4 7 = .ok (.iand, 1) := by decide +kernel
theorem dJ6_bitCount_0f7a4_8 : decode cJ6_bitCount_0f7a4 8 = .ok (.isub, 1) := by decide +kernel
theorem dJ6_bitCount_0f7a4_9 : decode cJ6_bitCount_0f7a4 9 = .ok (.istore_n 0, 1) := by decide +kernel
theorem dJ6_bitCount_0f7a4_10 : decode cJ6_bitCount_0f7a4 10 = .ok (.iload_n 0, 1) := by decide +kernel
theorem dJ6_bitCount_0f7a4_11 : decode cJ6_bitCount_0f7a4 11 = .ok (.ldc_w 266, 3) := by decide +kernel
theorem dJ6_bitCount_0f7a4_14 : decode cJ6_bitCount_0f7a4 14 = .ok (.iand, 1) := by decide +kernel
theorem dJ6_bitCount_0f7a4_15 : decode cJ6_bitCount_0f7a4 15 = .ok (.iload_n 0, 1) := by decide +kernel
theorem dJ6_bitCount_0f7a4_16 : decode cJ6_bitCount_0f7a4 16 = .ok (.iconst 2, 1) := by decide +kernel
theorem dJ6_bitCount_0f7a4_17 : decode cJ6_bitCount_0f7a4 17 = .ok (.iushr, 1) := by decide +kernel
theorem dJ6_bitCount_0f7a4_18 : decode cJ6_bitCount_0f7a4 18 = .ok (.ldc_w 266, 3) := by decide +kernel
theorem dJ6_bitCount_0f7a4_21 : decode cJ6_bitCount_0f7a4 21 = .ok (.iand, 1) := by decide +kernel
theorem dJ6_bitCount_0f7a4_22 : decode cJ6_bitCount_0f7a4 22 = .ok (.iadd, 1) := by decide +kernel
theorem dJ6_bitCount_0f7a4_23 : decode cJ6_bitCount_0f7a4 23 = .ok (.istore_n 0, 1) := by decide +kernel
theorem dJ6_bitCount_0f7a4_24 : decode cJ6_bitCount_0f7a4 24 = .ok (.iload_n 0, 1) := by decide +kernel
theorem dJ6_bitCount_0f7a4_25 : decode cJ6_bitCount_0f7a4 25 = .ok (.iload_n 0, 1) := by decide +kernel
theorem dJ6_bitCount_0f7a4_26 : decode cJ6_bitCount_0f7a4 26 = .ok (.iconst 4, 1) := by decide +kernel
theorem dJ6_bitCount_0f7a4_27 : decode cJ6_bitCount_0f7a4 27 = .ok (.iushr, 1) := by decide +kernel
theorem dJ6_bitCount_0f7a4_28 : decode cJ6_bitCount_0f7a4 28 = .ok (.iadd, 1) := by decide +kernel
theorem dJ6_bitCount_0f7a4_29 : decode cJ6_bitCount_0f7a4 29 = .ok (.ldc_w 267, 3) := by decide +kernel
theorem dJ6_bitCount_0f7a4_32 : decode cJ6_bitCount_0f7a4 32 = .ok (.iand, 1) := by decide +kernel
theorem dJ6_bitCount_0f7a4_33 : decode cJ6_bitCount_0f7a4 33 = .ok (.istore_n 0, 1) := by decide +kernel
theorem dJ6_bitCount_0f7a4_34 : decode cJ6_bitCount_0f7a4 34 = .ok (.iload_n 0, 1) := by decide +kernel
theorem dJ6_bitCount_0f7a4_35 : decode cJ6_bitCount_0f7a4 35 = .ok (.iload_n 0, 1) := by decide +kernel
theorem dJ6_bitCount_0f7a4_36 : decode cJ6_bitCount_0f7a4 36 = .ok (.bipush 8, 2) := by decide +kernel
theorem dJ6_bitCount_0f7a4_38 : decode cJ6_bitCount_0f7a4 38 = .ok (.iushr, 1) := by decide +kernel
theorem dJ6_bitCount_0f7a4_39 : decode cJ6_bitCount_0f7a4 39 = .ok (.iadd, 1) := by decide +kernel
theorem dJ6_bitCount_0f7a4_40 : decode cJ6_bitCount_0f7a4 40 = .ok (.istore_n 0, 1) := by decide +kernel
theorem dJ6_bitCount_0f7a4_41 : decode cJ6_bitCount_0f7a4 41 = .ok (.iload_n 0, 1) := by decide +kernel
theorem dJ6_bitCount_0f7a4_42 : decode cJ6_bitCount_0f7a4 42 = .ok (.iload_n 0, 1) := by decide +kernel
theorem dJ6_bitCount_0f7a4_43 : decode cJ6_bitCount_0f7a4 43 = .ok (.bipush 16, 2) := by decide +kernel
theorem dJ6_bitCount_0f7a4_45 : decode cJ6_bitCount_0f7a4 45 = .ok (.iushr, 1) := by decide +kernel
theorem dJ6_bitCount_0f7a4_46 : decode cJ6_bitCount_0f7a4 46 = .ok (.iadd, 1) := by decide +kernel
theorem dJ6_bitCount_0f7a4_47 : decode cJ6_bitCount_0f7a4 47 = .ok (.istore_n 0, 1) := by decide +kernel
theorem dJ6_bitCount_0f7a4_48 : decode cJ6_bitCount_0f7a4 48 = .ok (.iload_n 0, 1) := by decide +kernel
theorem dJ6_bitCount_0f7a4_49 : decode cJ6_bitCount_0f7a4 49 = .ok (.bipush 63, 2) := by decide +kernel
theorem dJ6_bitCount_0f7a4_51 : decode cJ6_bitCount_0f7a4 51 = .ok (.iand, 1) := by decide +kernel
theorem dJ6_bitCount_0f7a4_52 : decode cJ6_bitCount_0f7a4 52 = .ok (.ireturn, 1) := by decide +kernel
theorem dJ7_fill_d0a16_0 : decode cJ7_fill_d0a16 0 = .ok (.iconst 0, 1) := by decide +kernel
theorem dJ7_fill_d0a16_1 : decode cJ7_fill_d0a16 1 = .ok (.istore_n 3, 1) := by decide +kernel
theorem dJ7_fill_d0a16_2 : decode cJ7_fill_d0a16 2 = .ok (.aload_n 0, 1) := by decide +kernel
theorem dJ7_fill_d0a16_3 : decode cJ7_fill_d0a16 3 = .ok (.arraylength, 1) := by decide +kernel
theorem dJ7_fill_d0a16_4 : decode cJ7_fill_d0a16 4 = .ok (.istore 4, 2) := by decide +kernel
theorem dJ7_fill_d0a16_6 : decode cJ7_fill_d0a16 6 = .ok (.iload_n 3, 1) := by decide +kernel
theorem dJ7_fill_d0a16_7 : decode cJ7_fill_d0a16 7 = .ok (.iload 4, 2) := by decide +kernel
theorem dJ7_fill_d0a16_9 : decode cJ7_fill_d0a16 9 = .ok (.if_icmp .ge 13, 3) := by decide +kernel
theorem dJ7_fill_d0a16_12 : decode cJ7_fill_d0a16 12 = .ok (.aload_n 0, 1) := by decide +kernel
theorem dJ7_fill_d0a16_13 : decode cJ7_fill_d0a16 13 = .ok (.iload_n 3, 1) := by decide +kernel
theorem dJ7_fill_d0a16_14 : decode cJ7_fill_d0a16 14 = .ok (.lload_n 1, 1) := by decide +kernel
theorem dJ7_fill_d0a16_15 : decode cJ7_fill_d0a16 15 = .ok (.lastore, 1) := by decide +kernel
theorem dJ7_fill_d0a16_16 : decode cJ7_fill_d0a16 16 = .ok (.iinc 3 1, 3) := by decide +kernel
theorem dJ7_fill_d0a16_19 : decode cJ7_fill_d0a16 19 = .ok (.goto (-13), 3) := by decide +kernel
theorem dJ7_fill_d0a16_22 : decode cJ7_fill_d0a16 22 = .ok (.return_, 1) := by decide +kernel
theorem dJ7_fill_53178_0 : decode cJ7_fill_53178 0 = .ok (.iconst 0, 1) := by decide +kernel
theorem dJ7_fill_53178_1 : decode cJ7_fill_53178 1 = .ok (.istore_n 2, 1) := by decide +kernel
theorem dJ7_fill_53178_2 : decode cJ7_fill_53178 2 = .ok (.aload_n 0, 1) := by decide +kernel
theorem dJ7_fill_53178_3 : decode cJ7_fill_53178 3 = .ok (.arraylength, 1) := by decide +kernel
theorem dJ7_fill_53178_4 : decode cJ7_fill_53178 4 = .ok (.istore_n 3, 1) := by decide +kernel
theorem dJ7_fill_53178_5 : decode cJ7_fill_53178 5 = .ok (.iload_n 2, 1) := by decide +kernel
theorem dJ7_fill_53178_6 : decode cJ7_fill_53178 6 = .ok (.iload_n 3, 1) := by decide +kernel
theorem dJ7_fill_53178_7 : decode cJ7_fill_53178 7 = .ok (.if_icmp .ge 13, 3) := by decide +kernel
theorem dJ7_fill_53178_10 : decode cJ7_fill_53178 10 = .ok (.aload_n 0, 1) := by decide +kernel
theorem dJ7_fill_53178_11 : decode cJ7_fill_53178 11 = .ok (.iload_n 2, 1) := by decide +kernel
theorem dJ7_fill_53178_12 : decode cJ7_fill_53178 12 = .ok (.iload_n 1, 1) := by decide +kernel
theorem dJ7_fill_53178_13 : decode cJ7_fill_53178 13 = .ok (.iastore, 1) := by decide +kernel
theorem dJ7_fill_53178_14 : decode cJ7_fill_53178 14 = .ok (.iinc 2 1, 3) := by decide +kernel
theorem dJ7_fill_53178_17 : decode cJ7_fill_53178 17 = .ok (.goto (-12), 3) := by decide +kernel
theorem dJ7_fill_53178_20 : decode cJ7_fill_53178 20 = .ok (.return_, 1) := by decide +kernel
end
section
/-! the world as a map from addresses to cells; rows over it -/
abbrev mF : Type := Nat → Option va_E
abbrev mG : Type := va_G × (Nat → ClassId) × Nat × Nat × Nat
abbrev gD (G : mG) : va_G := G.1
abbrev gk (G : mG) : Nat → ClassId := G.2.1
abbrev gN (G : mG) : Nat := G.2.2.1
abbrev gS (G : mG) : Nat := G.2.2.2.1
abbrev gM (G : mG) : Nat := G.2.2.2.2
abbrev mS : Type := (Nat → Nat × Nat) × mF
def mA (G : mG) : Nat → Prop := fun q => gN G ≤ q
abbrev mTy (G : mG) : List (ClassId × FieldType) := [(gk G 0, .int), (gk G 1, .long), (gk G 2, .boolean), (gk G 3, .object RX2), (gk G 4, .object RX1), (gk G 5, .object RX0)]
def mP (G : mG) (f : mF) (H : Heap) : Prop := ∀ (a : Nat) (e : va_E), f a = some e → va_at (gD G) vwCl (a, e) H
def mDom (G : mG) (f : mF) : Prop := ∀ (a : Nat) (e : va_E), f a = some e → gN G ≤ a
def sortL : List Int32 := [1, 1, 2, 0, 0, 0, 0, 0, 1, 1, 1, 2, 2, 3, 0, 0, 1, 3, 3, 2, 0, 0, 0, 0]
def sortF (j : Nat) : Int32 := sortL.getD j 0
def mostL : List Int32 := [3, -1, -1, -1, -1, 3, 3, 3, -1, -1, 3, 3, 3, -1, -1, 3, 3, 3, -1, -1, 3, 3, 7, -1, -1, 3, 7, 3, -1, -1, 3, 3, 7, -1, -1, 3, 7, 3, -1, -1, 3, 3, 7, 3, -1, 3, 7, 3, 3, -1, 3, 7, 3, -1, -1, 3, 7, 3, 7, 3, 3, 3, 3, -1, -1, 3, 3, 3, -1, -1, -1, 32, -1, -1, -1, 3, 32, -1, -1, -1, 3, -1, -1, -1, -1, -1, -1, -1, -1, -1]
def mostF (j : Nat) : Int32 := mostL.getD j 0
def mK (G : mG) (U : State) : Prop := va_K (gD G) vwCl (mTy G) U ∧ va_Nw (.methodLinkNest RX5 23 yX3_init "LazyState") U ∧ va_Nw (.methodLinkNest RX5 45 yX1_init "LazyState") U ∧ va_Nw (.methodLinkNest RX3 11 yX4_init "LazyState") U ∧ va_Nw (.methodLinkNest RX3 97 yX5_bitOf "LazyState") U ∧ va_AO RX2 U ∧ va_AO RX1 U ∧ va_AO RX0 U
def mZ (G : mG) (U : State) (H : Heap) : Prop := va_Z RX2 "SORTS" "[I" (.ref (gS G)) (mA G) U H ∧ va_T .int (gS G) 24 (fun j => .int (sortF j)) (mA G) U H ∧ va_Z RX0 "MOST" "[I" (.ref (gM G)) (mA G) U H ∧ va_T .int (gM G) 90 (fun j => .int (mostF j)) (mA G) U H
def mW (G : mG) (f : mF) (U : State) : Prop := gN G ≤ U.heap.size ∧ mDom G f ∧ mP G f U.heap ∧ mK G U ∧ mZ G U U.heap
/-- what a method knows all through its walk -/
def mC (G : mG) (s : State) : Prop := gN G ≤ s.heap.size ∧ mK G s ∧ mZ G s s.heap
/-- the heap now: it holds the map, and nothing below has changed -/
def mH (G : mG) (s : State) (f : mF) (H : Heap) (locs : List Loc) : Prop := mDom G f ∧ mP G f H ∧ va_S (mA G) s.heap H locs
theorem mK.warm {G : mG} {s U : State} (hW : s.WarmedH U.vm) (h : mK G s) : mK G U := by
  obtain ⟨h1, h2, h3, h4, h5, h6, h7, h8⟩ := h
  exact ⟨va_K.moved hW.alike h1, va_Nw.warmM hW h2, va_Nw.warmM hW h3, va_Nw.warmM hW h4, va_Nw.warmM hW h5, va_AO.moved hW.alike h6, va_AO.moved hW.alike h7, va_AO.moved hW.alike h8⟩
theorem mK.same {G : mG} {s U : State} (hv : s.vm = U.vm) (h : mK G s) : mK G U := by
  obtain ⟨h1, h2, h3, h4, h5, h6, h7, h8⟩ := h
  have ha : s.vm.Alike U.vm := by rw [hv]; exact Vm.Alike.refl _
  exact ⟨va_K.moved ha h1, va_Nw.same rfl hv h2, va_Nw.same rfl hv h3, va_Nw.same rfl hv h4, va_Nw.same rfl hv h5, va_AO.moved ha h6, va_AO.moved ha h7, va_AO.moved ha h8⟩
theorem mZ.moved {G : mG} {s U : State} {H : Heap} (hv : s.vm.Alike U.vm) (h : mZ G s H) : mZ G U H := ⟨h.1.moved hv, h.2.1.moved hv, h.2.2.1.moved hv, h.2.2.2.moved hv⟩
theorem mZ.kept {G : mG} {U : State} {H H1 : Heap} (h : mZ G U H) (hq : ∀ a : Nat, a < H.size → ¬ mA G a → H1[a]? = H[a]?) : mZ G U H1 := ⟨h.1.kept hq, h.2.1.kept hq, h.2.2.1.kept hq, h.2.2.2.kept hq⟩
theorem mW.blind {G : mG} {f : mF} {av : List Value} : FrameBlind (va_Pc av (mW G f)) := by
  intro a U g mk h
  obtain ⟨h0, h1, h2, h3, h4, h5⟩ := h
  exact ⟨h0, h1, h2, h3, mK.same (U := U.calling g mk a) rfl h4, mZ.moved (U := U.calling g mk a) (Vm.Alike.refl U.vm) h5⟩
theorem mH.start {G : mG} {s : State} {f : mF} (h : mW G f s) : mC G s ∧ mH G s f s.heap [] := ⟨⟨h.1, h.2.2.2.1, h.2.2.2.2⟩, h.2.1, h.2.2.1, va_S.rf⟩
theorem mH.post {G : mG} {s t : State} {f : mF} {H : Heap} {locs : List Loc} (C : mC G s) (h : mH G s f H locs) (ht : t.heap = H) (hW : s.WarmedH t.vm) : mW G f t := by
  subst ht
  exact ⟨Nat.le_trans C.1 h.2.2.1, h.1, h.2.1, mK.warm hW C.2.1, mZ.kept (mZ.moved hW.alike C.2.2) (fun a ha hA => h.2.2.2.1 a ha hA)⟩
theorem mP.one {G : mG} {f : mF} {H : Heap} (h : mP G f H) {a : Nat} {e : va_E} (ha : f a = some e) : va_P (gD G) vwCl [(a, e)] H := by
  intro k q hk
  have hz : k < 1 := (List.getElem?_eq_some_iff.mp hk).1
  rw [show k = 0 by omega] at hk
  cases hk
  exact h a e ha
theorem m_list {G : mG} {f : mF} {H : Heap} (h : mP G f H) (hd : mDom G f) : ∃ ws : va_W, va_P (gD G) vwCl ws H ∧ va_D (mA G) ws ∧ ∀ (a : Nat) (e : va_E), f a = some e → ∃ k : Nat, ws[k]? = some (a, e) := by
  have hm : ∀ (q : Nat × va_E), q ∈ (List.range H.size).filterMap (fun a => (f a).map (fun e => (a, e))) ↔ f q.1 = some q.2 := by
    intro q
    rw [List.mem_filterMap]
    constructor
    · rintro ⟨a, -, ha⟩
      cases hf : f a with
      | none => rw [hf] at ha; cases ha
      | some e => rw [hf] at ha; cases ha; exact hf
    · intro hq
      exact ⟨q.1, List.mem_range.mpr (h q.1 q.2 hq).lt, by rw [hq]; rfl⟩
  have hpw : ((List.range H.size).filterMap (fun a => (f a).map (fun e => (a, e)))).Pairwise (fun x y => x.1 < y.1) := by
    rw [List.pairwise_filterMap]
    refine List.pairwise_lt_range.imp ?_
    intro a b hab x hx y hy
    cases hfa : f a with
    | none => rw [hfa] at hx; cases hx
    | some e1 => cases hfb : f b with
      | none => rw [hfb] at hy; cases hy
      | some e2 => rw [hfa] at hx; rw [hfb] at hy; cases hx; cases hy; exact hab
  generalize (List.range H.size).filterMap (fun a => (f a).map (fun e => (a, e))) = ws at hm hpw
  rw [List.pairwise_iff_getElem] at hpw
  refine ⟨ws, fun k q hk => h q.1 q.2 ((hm q).mp (List.mem_of_getElem? hk)), ⟨fun i j p q hi hj hpq => ?_, fun k q hk => hd q.1 q.2 ((hm q).mp (List.mem_of_getElem? hk))⟩, fun a e ha => List.getElem?_of_mem ((hm (a, e)).mpr ha)⟩
  obtain ⟨li, ei⟩ := List.getElem?_eq_some_iff.mp hi
  obtain ⟨lj, ej⟩ := List.getElem?_eq_some_iff.mp hj
  rcases Nat.lt_trichotomy i j with hij | hij | hij
  · have := hpw i j li lj hij
    rw [ei, ej] at this
    omega
  · exact hij
  · have := hpw j i lj li hij
    rw [ei, ej] at this
    omega
theorem m_back {G : mG} {f : mF} {H1 : Heap} {ws : va_W} {q0 a : Nat} {e e' : va_E} (hi : ∀ (a : Nat) (e : va_E), f a = some e → ∃ k : Nat, ws[k]? = some (a, e)) (h0 : ws[q0]? = some (a, e)) (hP : va_P (gD G) vwCl (ws.set q0 (a, e')) H1) : mP G (va_up f a (some e')) H1 := by
  intro b x hb
  by_cases hba : b = a
  · subst hba
    rw [va_up_self] at hb
    cases hb
    exact hP q0 (b, e') (List.getElem?_set_self (List.getElem?_eq_some_iff.mp h0).1)
  · rw [va_up_ne _ _ hba] at hb
    obtain ⟨k, hk⟩ := hi b x hb
    have hne : k ≠ q0 := fun hq => by
      subst hq
      rw [h0] at hk
      cases hk
      exact hba rfl
    exact hP k (b, x) (by rw [List.getElem?_set_ne (Ne.symm hne)]; exact hk)
theorem m_domU {G : mG} {f : mF} {a : Nat} {e : va_E} (hd : mDom G f) (ha : gN G ≤ a) : mDom G (va_up f a (some e)) := by
  intro b x hb
  by_cases hba : b = a
  · subst hba; exact ha
  · rw [va_up_ne _ _ hba] at hb
    exact hd b x hb
theorem m_push {G : mG} {f : mF} {H H1 : Heap} {e : va_E} (h : mP G f H) (he : va_at (gD G) vwCl (H.size, e) H1) (o1 : ∀ q : Nat, q < H.size → H1[q]? = H[q]?) : mP G (va_up f H.size (some e)) H1 := by
  intro b x hb
  by_cases hba : b = H.size
  · subst hba
    rw [va_up_self] at hb
    cases hb
    exact he
  · rw [va_up_ne _ _ hba] at hb
    exact (h b x hb).kept (o1 b (h b x hb).lt)
section MR
variable {p : Program} {l : Launch} {e : Env} {R : Room} {s : State} {m : MethodId} {args : Array Value} {below : List Frame} {meth : Method} {c : Code} {H : Heap} {locs : List Loc} {cells slots : Nat} {Q : State → Prop}
variable {cc : ByteArray} {pc : Nat} {ls : Array Slot} {rest : List Value} {a : Nat} {G : mG} {f : mF}
theorem m_get (hexec : p.tables.exec = Jvm.exec) (hb : c.code = cc) (C0 : mC G s) (h : mH G s f H locs) {own C : String} {T : u_T} {N ci index : Nat} {Ts : List Cond} (hts : ∀ w ∈ Ts, w.before args s = true) (hin : ∀ w ∈ u_ws C T N, w ∈ Ts) (hown : s.vm.findClass own = some m.cls) {fs : List Value} (he : f a = some (.inr (ci, fs))) (hc : vwCl[ci]? = some (C, T, N)) (k : Nat) (hk : k < N) (hlink : (Cond.fieldLink own index (T k).1 (T k).2.1 (T k).2.2.1).before args s = true) {v : Value} (hv : fs[k]? = some v) (hdg : decode cc pc = .ok (.getfield index, 3))
    (kk : W p l e R s m args below meth c H locs cells slots Q (F0 m (pc + 3) ls (v :: rest))) : W p l e R s m args below meth c H locs cells slots Q (F0 m pc ls (.ref a :: rest)) :=
  va_get hexec hb hts hin hown C0.2.1.1 (h.2.1.one he) 0 rfl hc k hk hlink (fun _ q => q) hv hdg kk
theorem m_put (hexec : p.tables.exec = Jvm.exec) (hb : c.code = cc) (C0 : mC G s) (h : mH G s f H locs) {own C : String} {T : u_T} {N ci index : Nat} {Ts : List Cond} (hts : ∀ w ∈ Ts, w.before args s = true) (hin : ∀ w ∈ u_ws C T N, w ∈ Ts) (ty0 : Nat → FieldType) (hty : ∀ k, k < N → parseFieldDescriptor (T k).2.2.1 = some (ty0 k)) (hnm : ∀ a, a < N → ∀ b, b < N → a ≠ b → (T a).2.1 ≠ (T b).2.1) (hown : s.vm.findClass own = some m.cls) {fs : List Value} (he : f a = some (.inr (ci, fs))) (hc : vwCl[ci]? = some (C, T, N)) (k : Nat) (hk : k < N) (hlink : (Cond.fieldLink own index (T k).1 (T k).2.1 (T k).2.2.1).before args s = true) (hfin : (T k).2.2.2 = false) {v : Value} (hn : narrow (ty0 k) v = v) (hfit : fits (ty0 k) v = true) (hl : k < fs.length) (hdg : decode cc pc = .ok (.putfield index, 3))
    (kk : ∀ (H1 : Heap) (locs1 : List Loc), mH G s (va_up f a (some (.inr (ci, fs.set k v)))) H1 locs1 → W p l e R s m args below meth c H1 locs1 cells slots Q (F0 m (pc + 3) ls rest)) : W p l e R s m args below meth c H locs cells slots Q (F0 m pc ls (v :: .ref a :: rest)) := by
  obtain ⟨ws, hP, hD, hi⟩ := m_list h.2.1 h.1
  obtain ⟨q0, h0⟩ := hi a _ he
  exact va_put hexec hb hts hin ty0 hty hnm hown C0.2.1.1 hP hD h.2.2 q0 h0 hc k hk hlink (fun _ q => q) hfin (hty k hk) hn hfit hl hdg (fun H1 locs1 hP1 _ hS1 => kk H1 locs1 ⟨m_domU h.1 (h.1 a _ he), m_back hi h0 hP1, hS1⟩)
theorem m_putF (hexec : p.tables.exec = Jvm.exec) (hb : c.code = cc) (C0 : mC G s) (h : mH G s f H locs) {own C : String} {T : u_T} {N ci index : Nat} {Ts : List Cond} (hts : ∀ w ∈ Ts, w.before args s = true) (hin : ∀ w ∈ u_ws C T N, w ∈ Ts) (ty0 : Nat → FieldType) (hty : ∀ k, k < N → parseFieldDescriptor (T k).2.2.1 = some (ty0 k)) (hnm : ∀ a, a < N → ∀ b, b < N → a ≠ b → (T a).2.1 ≠ (T b).2.1) (hown : s.vm.findClass own = some m.cls) {fs : List Value} (he : f a = some (.inr (ci, fs))) (hc : vwCl[ci]? = some (C, T, N)) (k : Nat) (hk : k < N) (hlink : (Cond.fieldLink own index (T k).1 (T k).2.1 (T k).2.2.1).before args s = true) (hfin : (T k).2.2.2 = true) (hin2 : meth.name = "<init>") (hdecl : (T k).1 = own) {v : Value} (hn : narrow (ty0 k) v = v) (hfit : fits (ty0 k) v = true) (hl : k < fs.length) (hdg : decode cc pc = .ok (.putfield index, 3))
    (kk : ∀ (H1 : Heap) (locs1 : List Loc), mH G s (va_up f a (some (.inr (ci, fs.set k v)))) H1 locs1 → W p l e R s m args below meth c H1 locs1 cells slots Q (F0 m (pc + 3) ls rest)) : W p l e R s m args below meth c H locs cells slots Q (F0 m pc ls (v :: .ref a :: rest)) := by
  obtain ⟨ws, hP, hD, hi⟩ := m_list h.2.1 h.1
  obtain ⟨q0, h0⟩ := hi a _ he
  exact va_putF hexec hb hts hin ty0 hty hnm hown C0.2.1.1 hP hD h.2.2 q0 h0 hc k hk hlink (fun _ q => q) hfin hin2 hdecl (hty k hk) hn hfit hl hdg (fun H1 locs1 hP1 _ hS1 => kk H1 locs1 ⟨m_domU h.1 (h.1 a _ he), m_back hi h0 hP1, hS1⟩)
theorem m_iald (hexec : p.tables.exec = Jvm.exec) (hb : c.code = cc) (C0 : mC G s) (h : mH G s f H locs) {n : Nat} {g : Nat → Int32} (he : f a = some (.inl (gk G 0, n, .inl g))) {i : Int32} (hin : vp_in i n) (hdg : decode cc pc = .ok (.iaload, 1))
    (kk : W p l e R s m args below meth c H locs cells slots Q (F0 m (pc + 1) ls (.int (g i.toNatClampNeg) :: rest))) : W p l e R s m args below meth c H locs cells slots Q (F0 m pc ls (.int i :: .ref a :: rest)) :=
  va_iald hexec hb C0.2.1.1 (h.2.1.one he) 0 0 rfl rfl hin hdg kk
theorem m_lald (hexec : p.tables.exec = Jvm.exec) (hb : c.code = cc) (C0 : mC G s) (h : mH G s f H locs) {n : Nat} {g : Nat → Int64} (he : f a = some (.inl (gk G 1, n, .inr (.inl g)))) {i : Int32} (hin : vp_in i n) (hdg : decode cc pc = .ok (.laload, 1))
    (kk : W p l e R s m args below meth c H locs cells slots Q (F0 m (pc + 1) ls (.long (g i.toNatClampNeg) :: rest))) : W p l e R s m args below meth c H locs cells slots Q (F0 m pc ls (.int i :: .ref a :: rest)) :=
  va_lald hexec hb C0.2.1.1 (h.2.1.one he) 0 1 rfl rfl hin hdg kk
theorem m_zald (hexec : p.tables.exec = Jvm.exec) (hb : c.code = cc) (C0 : mC G s) (h : mH G s f H locs) {n : Nat} {g : Nat → Int32} (he : f a = some (.inl (gk G 2, n, .inl g))) {i : Int32} (hin : vp_in i n) (hdg : decode cc pc = .ok (.baload, 1))
    (kk : W p l e R s m args below meth c H locs cells slots Q (F0 m (pc + 1) ls (.int (g i.toNatClampNeg) :: rest))) : W p l e R s m args below meth c H locs cells slots Q (F0 m pc ls (.int i :: .ref a :: rest)) :=
  va_zald hexec hb C0.2.1.1 (h.2.1.one he) 0 2 rfl rfl hin hdg kk
theorem m_aald (hexec : p.tables.exec = Jvm.exec) (hb : c.code = cc) (C0 : mC G s) (h : mH G s f H locs) {cA : ClassId} {n : Nat} {g : Nat → Option Nat} (t0 : Nat) {C : String} (ht : (mTy G)[t0]? = some (cA, .object C)) (he : f a = some (.inl (cA, n, .inr (.inr (.inr (.inr g)))))) {i : Int32} (hin : vp_in i n) (hdg : decode cc pc = .ok (.aaload, 1))
    (kk : W p l e R s m args below meth c H locs cells slots Q (F0 m (pc + 1) ls (va_rf (g i.toNatClampNeg) :: rest))) : W p l e R s m args below meth c H locs cells slots Q (F0 m pc ls (.int i :: .ref a :: rest)) :=
  va_aldq hexec hb C0.2.1.1 (h.2.1.one he) 0 t0 rfl ht hin hdg kk
theorem m_alen (hexec : p.tables.exec = Jvm.exec) (hb : c.code = cc) (C0 : mC G s) (h : mH G s f H locs) {cA : ClassId} {x : vp_A} (t0 : Nat) {ty : FieldType} (ht : (mTy G)[t0]? = some (cA, ty)) (he : f a = some (.inl (cA, x))) {v : Int32} (hv : Int32.ofNat x.1 = v) (hdg : decode cc pc = .ok (.arraylength, 1))
    (kk : W p l e R s m args below meth c H locs cells slots Q (F0 m (pc + 1) ls (.int v :: rest))) : W p l e R s m args below meth c H locs cells slots Q (F0 m pc ls (.ref a :: rest)) :=
  va_alen hexec hb C0.2.1.1 (h.2.1.one he) 0 t0 rfl ht hv hdg kk
theorem m_iast (hexec : p.tables.exec = Jvm.exec) (hb : c.code = cc) (C0 : mC G s) (h : mH G s f H locs) {n : Nat} {g : Nat → Int32} (he : f a = some (.inl (gk G 0, n, .inl g))) {i x : Int32} (hin : vp_in i n) (hdg : decode cc pc = .ok (.iastore, 1))
    (kk : ∀ (H1 : Heap) (locs1 : List Loc), mH G s (va_up f a (some (.inl (gk G 0, n, .inl (upd g i.toNatClampNeg x))))) H1 locs1 → W p l e R s m args below meth c H1 locs1 cells slots Q (F0 m (pc + 1) ls rest)) : W p l e R s m args below meth c H locs cells slots Q (F0 m pc ls (.int x :: .int i :: .ref a :: rest)) := by
  obtain ⟨ws, hP, hD, hi⟩ := m_list h.2.1 h.1
  obtain ⟨q0, h0⟩ := hi a _ he
  exact va_iast hexec hb C0.2.1.1 hP hD h.2.2 q0 0 h0 rfl hin hdg (fun H1 locs1 hP1 _ hS1 => kk H1 locs1 ⟨m_domU h.1 (h.1 a _ he), m_back hi h0 hP1, hS1⟩)
theorem m_zast (hexec : p.tables.exec = Jvm.exec) (hb : c.code = cc) (C0 : mC G s) (h : mH G s f H locs) {n : Nat} {g : Nat → Int32} (he : f a = some (.inl (gk G 2, n, .inl g))) {i x : Int32} (hin : vp_in i n) (hdg : decode cc pc = .ok (.bastore, 1))
    (kk : ∀ (H1 : Heap) (locs1 : List Loc), mH G s (va_up f a (some (.inl (gk G 2, n, .inl (upd g i.toNatClampNeg (vp_nar .boolean x)))))) H1 locs1 → W p l e R s m args below meth c H1 locs1 cells slots Q (F0 m (pc + 1) ls rest)) : W p l e R s m args below meth c H locs cells slots Q (F0 m pc ls (.int x :: .int i :: .ref a :: rest)) := by
  obtain ⟨ws, hP, hD, hi⟩ := m_list h.2.1 h.1
  obtain ⟨q0, h0⟩ := hi a _ he
  exact va_zast hexec hb C0.2.1.1 hP hD h.2.2 q0 2 h0 rfl hin hdg (fun H1 locs1 hP1 _ hS1 => kk H1 locs1 ⟨m_domU h.1 (h.1 a _ he), m_back hi h0 hP1, hS1⟩)
theorem m_last (hexec : p.tables.exec = Jvm.exec) (hb : c.code = cc) (C0 : mC G s) (h : mH G s f H locs) {n : Nat} {g : Nat → Int64} (he : f a = some (.inl (gk G 1, n, .inr (.inl g)))) {i : Int32} {x : Int64} (hin : vp_in i n) (hdg : decode cc pc = .ok (.lastore, 1))
    (kk : ∀ (H1 : Heap) (locs1 : List Loc), mH G s (va_up f a (some (.inl (gk G 1, n, .inr (.inl (vp_updL g i.toNatClampNeg x)))))) H1 locs1 → W p l e R s m args below meth c H1 locs1 cells slots Q (F0 m (pc + 1) ls rest)) : W p l e R s m args below meth c H locs cells slots Q (F0 m pc ls (.long x :: .int i :: .ref a :: rest)) := by
  obtain ⟨ws, hP, hD, hi⟩ := m_list h.2.1 h.1
  obtain ⟨q0, h0⟩ := hi a _ he
  exact va_last hexec hb C0.2.1.1 hP hD h.2.2 q0 1 h0 rfl hin hdg (fun H1 locs1 hP1 _ hS1 => kk H1 locs1 ⟨m_domU h.1 (h.1 a _ he), m_back hi h0 hP1, hS1⟩)
theorem m_aast (hexec : p.tables.exec = Jvm.exec) (hb : c.code = cc) (C0 : mC G s) (h : mH G s f H locs) {cA : ClassId} {r : vw_C} {n v ci : Nat} {vs : List Value} {g : Nat → Option Nat} (t0 : Nat) (ht : (mTy G)[t0]? = some (cA, .object r.1)) (he : f a = some (.inl (cA, n, .inr (.inr (.inr (.inr g)))))) (hv : f v = some (.inr (ci, vs))) (hc : vwCl[ci]? = some r) {i : Int32} (hin : vp_in i n) (hdg : decode cc pc = .ok (.aastore, 1))
    (kk : ∀ (H1 : Heap) (locs1 : List Loc), mH G s (va_up f a (some (.inl (cA, n, .inr (.inr (.inr (.inr (va_up g i.toNatClampNeg (some v))))))))) H1 locs1 → W p l e R s m args below meth c H1 locs1 cells slots Q (F0 m (pc + 1) ls rest)) : W p l e R s m args below meth c H locs cells slots Q (F0 m pc ls (.ref v :: .int i :: .ref a :: rest)) := by
  obtain ⟨ws, hP, hD, hi⟩ := m_list h.2.1 h.1
  obtain ⟨q0, h0⟩ := hi a _ he
  obtain ⟨q1, h1⟩ := hi v _ hv
  exact va_astq hexec hb C0.2.1.1 hP hD h.2.2 q0 t0 q1 ci h0 ht h1 hc hin hdg (fun H1 locs1 hP1 _ hS1 => kk H1 locs1 ⟨m_domU h.1 (h.1 a _ he), m_back hi h0 hP1, hS1⟩)
theorem m_gets (hexec : p.tables.exec = Jvm.exec) (hb : c.code = cc) {Cn n d own : String} {v : Value} {index : Nat} (hZ : va_Z Cn n d v (mA G) s s.heap) (h : mH G s f H locs) (hown : s.vm.findClass own = some m.cls) (hlink : (Cond.fieldLink own index Cn n d).before args s = true) (hdg : decode cc pc = .ok (.getstatic index, 3))
    (kk : W p l e R s m args below meth c H locs cells slots Q (F0 m (pc + 3) ls (v :: rest))) : W p l e R s m args below meth c H locs cells slots Q (F0 m pc ls rest) :=
  va_gets hexec hb hZ h.2.2 hown hlink (fun _ q => q) hdg kk
theorem m_ti (hexec : p.tables.exec = Jvm.exec) (hb : c.code = cc) {t N : Nat} {g : Nat → Int32} (hT : va_T .int t N (fun j => .int (g j)) (mA G) s s.heap) (h : mH G s f H locs) {i : Int32} (hin : vp_in i N) (hdg : decode cc pc = .ok (.iaload, 1))
    (kk : W p l e R s m args below meth c H locs cells slots Q (F0 m (pc + 1) ls (.int (g i.toNatClampNeg) :: rest))) : W p l e R s m args below meth c H locs cells slots Q (F0 m pc ls (.int i :: .ref t :: rest)) :=
  va_ti hexec hb hT h.2.2 hin rfl hdg kk
theorem m_new (hexec : p.tables.exec = Jvm.exec) (hb : c.code = cc) (C0 : mC G s) (h : mH G s f H locs) {own C : String} {T : u_T} {N ci index : Nat} {Ts : List Cond} (hts : ∀ w ∈ Ts, w.before args s = true) (hin : ∀ w ∈ u_ws C T N, w ∈ Ts) (ty : Nat → FieldType) (hty : ∀ k, k < N → parseFieldDescriptor (T k).2.2.1 = some (ty k)) (hown : s.vm.findClass own = some m.cls) (hcl : (Cond.classLink own index C).before args s = true) (hinst : (Cond.instantiable C N).before args s = true) (hini : (Cond.initialized C).before args s = true) (hc : vwCl[ci]? = some (C, T, N)) {fs : List Value} (hfs : ∀ j, j < N → defaultValue (ty j) = vp_V fs j) (hcells : cells + 1 ≤ R.cells) (hslots : slots + N ≤ R.slots) (hdg : decode cc pc = .ok (.new index, 3))
    (kk : ∀ (q : Nat) (H1 : Heap), (∀ (a : Nat) (e : va_E), f a = some e → a < q) → gN G ≤ q → f q = none → mH G s (va_up f q (some (.inr (ci, fs)))) H1 locs → W p l e R s m args below meth c H1 locs (cells + 1) (slots + N) Q (F0 m (pc + 3) ls (.ref q :: rest))) : W p l e R s m args below meth c H locs cells slots Q (F0 m pc ls rest) := by
  have hKn := C0.2.1.1.1 ci _ hc
  refine W.newcK hexec hb hown hcl hinst hini rfl hdg hcells hslots hKn.2.1 rfl fun H1 kC hkC e1 z1 o1 => ?_
  have hlt : ∀ (a : Nat) (e : va_E), f a = some e → a < H.size := fun a e ha => (h.2.1 a e ha).lt
  have hno : f H.size = none := by
    cases hq : f H.size with
    | none => rfl
    | some e => exact absurd (hlt _ _ hq) (Nat.lt_irrefl _)
  have hle : gN G ≤ H.size := Nat.le_trans C0.1 h.2.2.1
  exact kk H.size H1 hlt hle hno ⟨m_domU h.1 hle, m_push h.2.1 ⟨_, hc, (u_born ty hts hin hKn hkC e1 hty).to hfs⟩ o1, Nat.le_trans h.2.2.1 (by omega), fun x h1 h2 => (o1 x (Nat.lt_of_lt_of_le h1 h.2.2.1)).trans (h.2.2.2.1 x h1 h2), h.2.2.2.2⟩
theorem m_newa (hexec : p.tables.exec = Jvm.exec) (hb : c.code = cc) (C0 : mC G s) (h : mH G s f H locs) {atype : ArrayType} (harr : (Cond.arrayClass (newarray.typeOf atype)).before args s = true) {cA : ClassId} (hcA : s.vm.findClass ("[" ++ (newarray.typeOf atype).toString) = some cA)
    {n : Int32} {N' : Nat} {a0 : vp_A} (ha : vp_cell cA a0 = arrV cA N' (fun _ => defaultValue (newarray.typeOf atype))) (hn : ¬ n < 0) (hN : n.toNatClampNeg = N') (hbytes : N' * componentBytes (newarray.typeOf atype) ≤ 536870912) (hcells : cells + 1 ≤ R.cells) (hslots : slots + N' ≤ R.slots) (hdg : decode cc pc = .ok (.newarray atype, 2))
    (kk : ∀ (q : Nat) (H1 : Heap), (∀ (a : Nat) (e : va_E), f a = some e → a < q) → gN G ≤ q → f q = none → mH G s (va_up f q (some (.inl (cA, a0)))) H1 locs → W p l e R s m args below meth c H1 locs (cells + 1) (slots + N') Q (F0 m (pc + 2) ls (.ref q :: rest))) : W p l e R s m args below meth c H locs cells slots Q (F0 m pc ls (.int n :: rest)) := by
  refine va_newaK hexec hb harr rfl hdg rfl hn hN hbytes hcells hslots rfl fun H1 cA' e1 z1 o1 hAr hNm => ?_
  have hc : cA' = cA := Option.some.inj (hNm.symm.trans hcA)
  subst hc
  have hlt : ∀ (a : Nat) (e : va_E), f a = some e → a < H.size := fun a e ha => (h.2.1 a e ha).lt
  have hno : f H.size = none := by
    cases hq : f H.size with
    | none => rfl
    | some e => exact absurd (hlt _ _ hq) (Nat.lt_irrefl _)
  have hle : gN G ≤ H.size := Nat.le_trans C0.1 h.2.2.1
  exact kk H.size H1 hlt hle hno ⟨m_domU h.1 hle, m_push h.2.1 (show H1[H.size]? = some (vp_cell _ _) by rw [ha]; exact e1) o1, Nat.le_trans h.2.2.1 (by omega), fun x h1 h2 => (o1 x (Nat.lt_of_lt_of_le h1 h.2.2.1)).trans (h.2.2.2.1 x h1 h2), h.2.2.2.2⟩
theorem m_newq (hexec : p.tables.exec = Jvm.exec) (hb : c.code = cc) (C0 : mC G s) (h : mH G s f H locs) {own C : String} {index : Nat} (hown : s.vm.findClass own = some m.cls) (hclink : (Cond.classLink own index C).before args s = true) (hover : va_AO C s) {cA : ClassId} (hcA : s.vm.findClass ("[" ++ (FieldType.object C).toString) = some cA)
    {n : Int32} {N' : Nat} (hn : ¬ n < 0) (hN : n.toNatClampNeg = N') (hbytes : N' * 4 ≤ 536870912) (hcells : cells + 1 ≤ R.cells) (hslots : slots + N' ≤ R.slots) (hdg : decode cc pc = .ok (.anewarray index, 3))
    (kk : ∀ (q : Nat) (H1 : Heap), (∀ (a : Nat) (e : va_E), f a = some e → a < q) → gN G ≤ q → f q = none → mH G s (va_up f q (some (.inl (cA, N', .inr (.inr (.inr (.inr (fun _ => none)))))))) H1 locs → W p l e R s m args below meth c H1 locs (cells + 1) (slots + N') Q (F0 m (pc + 3) ls (.ref q :: rest))) : W p l e R s m args below meth c H locs cells slots Q (F0 m pc ls (.int n :: rest)) := by
  subst hN
  refine W.anew hexec hb hown hclink (va_AO.use hover) rfl hdg rfl hn hbytes hcells hslots fun cA' kA comp f1 f2 f3 f4 => ?_
  have hc : cA' = cA := Option.some.inj (f1.symm.trans hcA)
  subst hc
  generalize hH1 : H.push ({ cls := cA', slots := Array.replicate n.toNatClampNeg .null, vm := .none } : Cell) = H1
  have z1 : H1.size = H.size + 1 := by rw [← hH1, Array.size_push]
  have e1 : H1[H.size]? = some (arrV cA' n.toNatClampNeg (fun _ => .null)) := by rw [← hH1, Array.getElem?_push_size, ← arrV_new]
  have o1 : ∀ q : Nat, q < H.size → H1[q]? = H[q]? := fun q hq => by rw [← hH1, Array.getElem?_push, if_neg (Nat.ne_of_lt hq)]
  have hlt : ∀ (a : Nat) (e : va_E), f a = some e → a < H.size := fun a e ha => (h.2.1 a e ha).lt
  have hno : f H.size = none := by
    cases hq : f H.size with
    | none => rfl
    | some e => exact absurd (hlt _ _ hq) (Nat.lt_irrefl _)
  have hle : gN G ≤ H.size := Nat.le_trans C0.1 h.2.2.1
  exact kk H.size H1 hlt hle hno ⟨m_domU h.1 hle, m_push h.2.1 (show H1[H.size]? = some (vp_cell _ _) by rw [vp_cell_q]; exact e1) o1, Nat.le_trans h.2.2.1 (by omega), fun x h1 h2 => (o1 x (Nat.lt_of_lt_of_le h1 h.2.2.1)).trans (h.2.2.2.1 x h1 h2), h.2.2.2.2⟩
theorem m_copyi (hexec : p.tables.exec = Jvm.exec) (hb : c.code = cc) (hml : c.maxLocals = ls.size) (C0 : mC G s) (h : mH G s f H locs) {own : String} {index : Nat} (hown : s.vm.findClass own = some m.cls) (hlink : (Cond.methodLink own index arraycopyName).before args s = true) (hnat : (Cond.native arraycopyName).before args s = true) (hstat : (Cond.static arraycopyName).before args s = true) (hini : (Cond.initialized "java/lang/System").before args s = true)
    {a0 n0 n1 : Nat} {g0 g1 : Nat → Int32} (he0 : f a0 = some (.inl (gk G 0, n0, .inl g0))) (he1 : f a = some (.inl (gk G 0, n1, .inl g1))) {sp dp n : Int32} (h1 : ¬ sp < 0) (h2 : ¬ dp < 0) (h3 : ¬ n < 0) (h4 : sp.toNatClampNeg + n.toNatClampNeg ≤ n0) (h5 : dp.toNatClampNeg + n.toNatClampNeg ≤ n1)
    (hframes : 1 ≤ R.frames) (hlocals : (rest.map fun v => v.category).sum + (nativeFrameWords "java/lang/System" "arraycopy" 5 + 11) ≤ R.locals) (hdg : decode cc pc = .ok (.invokestatic index, 3))
    (kk : ∀ (H1 : Heap) (locs1 : List Loc), mH G s (va_up f a (some (.inl (gk G 0, n1, .inl (va_cpy g0 g1 sp.toNatClampNeg dp.toNatClampNeg n.toNatClampNeg))))) H1 locs1 → W p l e R s m args below meth c H1 locs1 cells slots Q (F0 m (pc + 3) ls rest)) : W p l e R s m args below meth c H locs cells slots Q (F0 m pc ls (.int n :: .int dp :: .ref a :: .int sp :: .ref a0 :: rest)) := by
  obtain ⟨ws, hP, hD, hi⟩ := m_list h.2.1 h.1
  obtain ⟨q0, i0⟩ := hi a0 _ he0
  obtain ⟨q1, i1⟩ := hi a _ he1
  exact va_copyi hexec hb hml hown hlink hnat hstat hini C0.2.1.1 hP hD h.2.2 q0 q1 0 0 (ty := .int) i0 i1 rfl rfl rfl h1 h2 h3 h4 h5 (fun i _ => rfl) hframes hlocals hdg (fun H1 locs1 hP1 _ hS1 => kk H1 locs1 ⟨m_domU h.1 (h.1 a _ he1), m_back hi i1 hP1, hS1⟩)
theorem m_copyl (hexec : p.tables.exec = Jvm.exec) (hb : c.code = cc) (hml : c.maxLocals = ls.size) (C0 : mC G s) (h : mH G s f H locs) {own : String} {index : Nat} (hown : s.vm.findClass own = some m.cls) (hlink : (Cond.methodLink own index arraycopyName).before args s = true) (hnat : (Cond.native arraycopyName).before args s = true) (hstat : (Cond.static arraycopyName).before args s = true) (hini : (Cond.initialized "java/lang/System").before args s = true)
    {a0 n0 n1 : Nat} {g0 g1 : Nat → Int64} (he0 : f a0 = some (.inl (gk G 1, n0, .inr (.inl g0)))) (he1 : f a = some (.inl (gk G 1, n1, .inr (.inl g1)))) {sp dp n : Int32} (h1 : ¬ sp < 0) (h2 : ¬ dp < 0) (h3 : ¬ n < 0) (h4 : sp.toNatClampNeg + n.toNatClampNeg ≤ n0) (h5 : dp.toNatClampNeg + n.toNatClampNeg ≤ n1)
    (hframes : 1 ≤ R.frames) (hlocals : (rest.map fun v => v.category).sum + (nativeFrameWords "java/lang/System" "arraycopy" 5 + 11) ≤ R.locals) (hdg : decode cc pc = .ok (.invokestatic index, 3))
    (kk : ∀ (H1 : Heap) (locs1 : List Loc), mH G s (va_up f a (some (.inl (gk G 1, n1, .inr (.inl (va_cpy g0 g1 sp.toNatClampNeg dp.toNatClampNeg n.toNatClampNeg)))))) H1 locs1 → W p l e R s m args below meth c H1 locs1 cells slots Q (F0 m (pc + 3) ls rest)) : W p l e R s m args below meth c H locs cells slots Q (F0 m pc ls (.int n :: .int dp :: .ref a :: .int sp :: .ref a0 :: rest)) := by
  obtain ⟨ws, hP, hD, hi⟩ := m_list h.2.1 h.1
  obtain ⟨q0, i0⟩ := hi a0 _ he0
  obtain ⟨q1, i1⟩ := hi a _ he1
  exact va_copyl hexec hb hml hown hlink hnat hstat hini C0.2.1.1 hP hD h.2.2 q0 q1 1 1 (ty := .long) i0 i1 rfl rfl rfl h1 h2 h3 h4 h5 (fun i _ => rfl) hframes hlocals hdg (fun H1 locs1 hP1 _ hS1 => kk H1 locs1 ⟨m_domU h.1 (h.1 a _ he1), m_back hi i1 hP1, hS1⟩)
theorem m_preV (C0 : mC G s) (h : mH G s f H locs) {ci : Nat} {q : vw_C} {fs As : List Value} (he : f a = some (.inr (ci, fs))) (hc : vwCl[ci]? = some q) : PreV s H q.1 a (va_Pc (.ref a :: As) (mW G f)) As :=
  ⟨mW.blind, va_recv C0.2.1.1 (h.2.1.one he) hc (q0 := 0) rfl, fun U hU hW => ⟨rfl, h.post C0 hU hW⟩⟩
theorem m_preS (C0 : mC G s) (h : mH G s f H locs) {As : List Value} : PreS s H (va_Pc As (mW G f)) As := ⟨mW.blind, fun U hU hW => ⟨rfl, h.post C0 hU hW⟩⟩
variable {st0 : List Value} {av : Array Value} {mc ms : Nat}
theorem m_goi {post : Int32 → mS → Prop} (h : mH G s f H locs) (hr : va_Run p l e R s m args below meth c H locs cells slots mc ms (F0 m pc ls st0) rest (va_Qi post (fun (u : mS) t => mW G u.2 t) (mA G) av) (mA G))
    (kk : ∀ (r : Int32) (rho : Nat → Nat × Nat) (f1 : mF) (H1 : Heap) (locs1 : List Loc), post r (rho, f1) → mH G s f1 H1 locs1 → W p l e R s m args below meth c H1 locs1 (cells + mc) (slots + ms) Q (F0 m (pc + 3) ls (.int r :: rest))) : W p l e R s m args below meth c H locs cells slots Q (F0 m pc ls st0) :=
  va_calli hr h.2.2 (fun q _ hq => hq) (fun q hq => hq) (fun r u t H1 locs1 ht _ hp hB _ _ hS => kk r u.1 u.2 H1 locs1 hp ⟨hB.2.1, by rw [← ht]; exact hB.2.2.1, hS⟩)
theorem m_gol {post : Int64 → mS → Prop} (h : mH G s f H locs) (hr : va_Run p l e R s m args below meth c H locs cells slots mc ms (F0 m pc ls st0) rest (va_Ql post (fun (u : mS) t => mW G u.2 t) (mA G) av) (mA G))
    (kk : ∀ (r : Int64) (rho : Nat → Nat × Nat) (f1 : mF) (H1 : Heap) (locs1 : List Loc), post r (rho, f1) → mH G s f1 H1 locs1 → W p l e R s m args below meth c H1 locs1 (cells + mc) (slots + ms) Q (F0 m (pc + 3) ls (.long r :: rest))) : W p l e R s m args below meth c H locs cells slots Q (F0 m pc ls st0) :=
  va_calll hr h.2.2 (fun q _ hq => hq) (fun q hq => hq) (fun r u t H1 locs1 ht _ hp hB _ _ hS => kk r u.1 u.2 H1 locs1 hp ⟨hB.2.1, by rw [← ht]; exact hB.2.2.1, hS⟩)
theorem m_gov {post : mS → Prop} (h : mH G s f H locs) (hr : va_Run p l e R s m args below meth c H locs cells slots mc ms (F0 m pc ls st0) rest (va_Qv post (fun (u : mS) t => mW G u.2 t) (mA G) av) (mA G))
    (kk : ∀ (rho : Nat → Nat × Nat) (f1 : mF) (H1 : Heap) (locs1 : List Loc), post (rho, f1) → mH G s f1 H1 locs1 → W p l e R s m args below meth c H1 locs1 (cells + mc) (slots + ms) Q (F0 m (pc + 3) ls rest)) : W p l e R s m args below meth c H locs cells slots Q (F0 m pc ls st0) :=
  va_callv hr h.2.2 (fun q _ hq => hq) (fun q hq => hq) (fun u t H1 locs1 ht _ hp hB _ _ hS => kk u.1 u.2 H1 locs1 hp ⟨hB.2.1, by rw [← ht]; exact hB.2.2.1, hS⟩)
theorem m_goq {post : Option Nat → mS → Prop} (h : mH G s f H locs) (hr : va_Run p l e R s m args below meth c H locs cells slots mc ms (F0 m pc ls st0) rest (va_Qq post (fun (u : mS) t => mW G u.2 t) (mA G) av) (mA G))
    (kk : ∀ (r : Option Nat) (rho : Nat → Nat × Nat) (f1 : mF) (H1 : Heap) (locs1 : List Loc), post r (rho, f1) → mH G s f1 H1 locs1 → W p l e R s m args below meth c H1 locs1 (cells + mc) (slots + ms) Q (F0 m (pc + 3) ls (va_rf r :: rest))) : W p l e R s m args below meth c H locs cells slots Q (F0 m pc ls st0) :=
  va_callq hr h.2.2 (fun q _ hq => hq) (fun q hq => hq) (fun r u t H1 locs1 ht _ hp hB _ _ hS => kk r u.1 u.2 H1 locs1 hp ⟨hB.2.1, by rw [← ht]; exact hB.2.2.1, hS⟩)
theorem m_iret {post : Int32 → mS → Prop} {v : Int32} (hexec : p.tables.exec = Jvm.exec) (hb : c.code = cc) (hr : meth.sig.returnType = some .int) (hlocks : meth.locks = false) (C0 : mC G s) (h : mH G s f H locs) (rho : Nat → Nat × Nat) (hp : post v (rho, f)) (h1 : cells ≤ mc) (h2 : slots ≤ ms) (hdg : decode cc pc = .ok (.ireturn, 1)) : W p l e R s m args below meth c H locs cells slots (MQ below (va_Qi post (fun (u : mS) t => mW G u.2 t) (mA G)) args s mc ms (mA G)) (F0 m pc ls [.int v]) :=
  W.widen h1 h2 (W.iret hexec hb hr (fun t ht hW => ⟨⟨v, (rho, f), rfl, hp, h.post C0 ht hW⟩, h.2.2.F ht⟩) h.2.2.2.2 hdg)
theorem m_zret {post : Int32 → mS → Prop} {v : Int32} (hexec : p.tables.exec = Jvm.exec) (hb : c.code = cc) (hr : meth.sig.returnType = some .boolean) (hn : narrow .boolean (.int v) = .int v) (hlocks : meth.locks = false) (C0 : mC G s) (h : mH G s f H locs) (rho : Nat → Nat × Nat) (hp : post v (rho, f)) (h1 : cells ≤ mc) (h2 : slots ≤ ms) (hdg : decode cc pc = .ok (.ireturn, 1)) : W p l e R s m args below meth c H locs cells slots (MQ below (va_Qi post (fun (u : mS) t => mW G u.2 t) (mA G)) args s mc ms (mA G)) (F0 m pc ls [.int v]) :=
  W.widen h1 h2 (W.zret hexec hb hr hn (fun t ht hW => ⟨⟨v, (rho, f), rfl, hp, h.post C0 ht hW⟩, h.2.2.F ht⟩) h.2.2.2.2 hdg)
theorem m_lret {post : Int64 → mS → Prop} {v : Int64} (hexec : p.tables.exec = Jvm.exec) (hb : c.code = cc) (hr : meth.sig.returnType = some .long) (hlocks : meth.locks = false) (C0 : mC G s) (h : mH G s f H locs) (rho : Nat → Nat × Nat) (hp : post v (rho, f)) (h1 : cells ≤ mc) (h2 : slots ≤ ms) (hdg : decode cc pc = .ok (.lreturn, 1)) : W p l e R s m args below meth c H locs cells slots (MQ below (va_Ql post (fun (u : mS) t => mW G u.2 t) (mA G)) args s mc ms (mA G)) (F0 m pc ls [.long v]) :=
  W.widen h1 h2 (W.lret hexec hb hr (fun t ht hW => ⟨⟨v, (rho, f), rfl, hp, h.post C0 ht hW⟩, h.2.2.F ht⟩) h.2.2.2.2 hdg)
theorem m_vret {post : mS → Prop} (hexec : p.tables.exec = Jvm.exec) (hb : c.code = cc) (hr : meth.sig.returnType = none) (hlocks : meth.locks = false) (C0 : mC G s) (h : mH G s f H locs) (rho : Nat → Nat × Nat) (hp : post (rho, f)) (h1 : cells ≤ mc) (h2 : slots ≤ ms) (hdg : decode cc pc = .ok (.return_, 1)) : W p l e R s m args below meth c H locs cells slots (MQ below (va_Qv post (fun (u : mS) t => mW G u.2 t) (mA G)) args s mc ms (mA G)) (F0 m pc ls []) :=
  W.widen h1 h2 (W.vret hexec hb hr (fun t ht hW => ⟨⟨(rho, f), rfl, hp, h.post C0 ht hW⟩, h.2.2.F ht⟩) h.2.2.2.2 hdg)
theorem m_aret {post : Option Nat → mS → Prop} {v : Option Nat} {Cn : String} (hexec : p.tables.exec = Jvm.exec) (hb : c.code = cc) (hr : meth.sig.returnType = some (.object Cn)) (hlocks : meth.locks = false) (C0 : mC G s) (h : mH G s f H locs) (rho : Nat → Nat × Nat) (hp : post v (rho, f)) (h1 : cells ≤ mc) (h2 : slots ≤ ms) (hdg : decode cc pc = .ok (.areturn, 1)) : W p l e R s m args below meth c H locs cells slots (MQ below (va_Qq post (fun (u : mS) t => mW G u.2 t) (mA G)) args s mc ms (mA G)) (F0 m pc ls [va_rf v]) :=
  W.widen h1 h2 (W.aret hexec hb hr (Or.inl ⟨_, rfl⟩) (by cases v with | none => exact Or.inl rfl | some a => exact Or.inr ⟨a, rfl⟩) (fun t ht hW => ⟨⟨v, (rho, f), rfl, hp, h.post C0 ht hW⟩, h.2.2.F ht⟩) h.2.2.2.2 hdg)
end MR
/-- a contract's proof begins here -/
theorem mMet {l : Launch} {y : MethodName} {ws ws' : List Cond} {rm : Room} {Qc : Array Value → State → Outcome → State → Prop} {mc ms : Nat} {G : mG} {f : mF} {cc : ByteArray} {maxL : Nat} {ret : Option FieldType} (av : List Value) (hy : plainName y.cls = true) (hw : ws = Cond.code y cc maxL ret :: ws') (hlen : (lg_sl av).length ≤ maxL)
    (body : ∀ (p : Program) (e : Env) (s : State) (m : MethodId) (below : List Frame) (meth : Method) (c : Code) (ls : Array Slot), p.tables.exec = Jvm.exec → c.code = cc → meth.sig.returnType = ret → c.maxLocals = maxL → (∀ w ∈ ws, w.before av.toArray s = true) → s.vm.findClass y.cls = some m.cls → meth.locks = false → meth.name = y.name → mC G s → mH G s f s.heap [] → lv_has ls maxL (lv_args 0 av) →
      W p l e rm s m av.toArray below meth c s.heap [] 0 0 (MQ below Qc av.toArray s mc ms (mA G)) (F0 m 0 ls [])) : Met l y ws rm (va_Pc av (mW G f)) Qc mc ms (mA G) := by
  refine Met.ofW (cc := cc) (maxL := maxL) (ret := ret) hy hw ?_
  intro p e s m args below meth c s₁ B hml hv
  obtain ⟨rfl, hW⟩ := hv
  obtain ⟨C0, h⟩ := mH.start hW
  rw [lg_entry_eq]
  exact body p e s m below meth c _ B.exec B.bytes B.returns hml (atoms_spec (ws := ws) B.pre) (findClass_of_methodNamed B.named) B.notSynchronized (name_of_methodNamed B.named B.method).1 C0 h (lv_entry av hlen)
end
section
/-! integers: what a comparison or a sum of ints says of whole numbers -/
theorem ic_rng (x : Int32) : -2147483648 ≤ x.toInt ∧ x.toInt ≤ 2147483647 := ⟨Int32.le_toInt x, by have := Int32.toInt_lt x; omega⟩
theorem ic_lt {x y : Int32} {A B : Int} (hx : x.toInt = A) (hy : y.toInt = B) (h : x < y) : A < B := by rw [← hx, ← hy]; exact Int32.lt_iff_toInt_lt.mp h
theorem ic_nlt {x y : Int32} {A B : Int} (hx : x.toInt = A) (hy : y.toInt = B) (h : ¬ x < y) : A ≥ B := by rw [← hx, ← hy]; exact Int.not_lt.mp (fun q => h (Int32.lt_iff_toInt_lt.mpr q))
theorem ic_le {x y : Int32} {A B : Int} (hx : x.toInt = A) (hy : y.toInt = B) (h : x ≤ y) : A ≤ B := by rw [← hx, ← hy]; exact Int32.le_iff_toInt_le.mp h
theorem ic_nle {x y : Int32} {A B : Int} (hx : x.toInt = A) (hy : y.toInt = B) (h : ¬ x ≤ y) : A > B := by rw [← hx, ← hy]; exact Int.not_le.mp (fun q => h (Int32.le_iff_toInt_le.mpr q))
theorem ic_eq {x y : Int32} {A B : Int} (hx : x.toInt = A) (hy : y.toInt = B) (h : x = y) : A = B := by rw [← hx, ← hy, h]
theorem ic_ne {x y : Int32} {A B : Int} (hx : x.toInt = A) (hy : y.toInt = B) (h : ¬ x = y) : A ≠ B := fun q => h (Int32.toInt_inj.mp (by rw [hx, hy]; exact q))
theorem lc_rng (x : Int64) : -9223372036854775808 ≤ x.toInt ∧ x.toInt ≤ 9223372036854775807 := ⟨Int64.le_toInt x, by have := Int64.toInt_lt x; omega⟩
theorem lc_lt {x y : Int64} {A B : Int} (hx : x.toInt = A) (hy : y.toInt = B) (h : x < y) : A < B := by rw [← hx, ← hy]; exact Int64.lt_iff_toInt_lt.mp h
theorem lc_nlt {x y : Int64} {A B : Int} (hx : x.toInt = A) (hy : y.toInt = B) (h : ¬ x < y) : A ≥ B := by rw [← hx, ← hy]; exact Int.not_lt.mp (fun q => h (Int64.lt_iff_toInt_lt.mpr q))
theorem lc_le {x y : Int64} {A B : Int} (hx : x.toInt = A) (hy : y.toInt = B) (h : x ≤ y) : A ≤ B := by rw [← hx, ← hy]; exact Int64.le_iff_toInt_le.mp h
theorem lc_nle {x y : Int64} {A B : Int} (hx : x.toInt = A) (hy : y.toInt = B) (h : ¬ x ≤ y) : A > B := by rw [← hx, ← hy]; exact Int.not_le.mp (fun q => h (Int64.le_iff_toInt_le.mpr q))
theorem lc_eq {x y : Int64} {A B : Int} (hx : x.toInt = A) (hy : y.toInt = B) (h : x = y) : A = B := by rw [← hx, ← hy, h]
theorem lc_ne {x y : Int64} {A B : Int} (hx : x.toInt = A) (hy : y.toInt = B) (h : ¬ x = y) : A ≠ B := fun q => h (Int64.toInt_inj.mp (by rw [hx, hy]; exact q))
theorem bm32 {A : Int} (h1 : -2147483648 ≤ A) (h2 : A ≤ 2147483647) : A.bmod (2 ^ 32) = A := Int.bmod_eq_of_le (by omega) (by omega)
theorem bm64 {A : Int} (h1 : -9223372036854775808 ≤ A) (h2 : A ≤ 9223372036854775807) : A.bmod (2 ^ 64) = A := Int.bmod_eq_of_le (by omega) (by omega)
theorem ic_add {x a b : Int32} {A B : Int} (e : x = a + b) (ha : a.toInt = A) (hb : b.toInt = B) (h1 : -2147483648 ≤ A + B) (h2 : A + B ≤ 2147483647) : x.toInt = A + B := by rw [e, Int32.toInt_add, ha, hb]; exact bm32 h1 h2
theorem ic_sub {x a b : Int32} {A B : Int} (e : x = a - b) (ha : a.toInt = A) (hb : b.toInt = B) (h1 : -2147483648 ≤ A - B) (h2 : A - B ≤ 2147483647) : x.toInt = A - B := by rw [e, Int32.toInt_sub, ha, hb]; exact bm32 h1 h2
theorem ic_mul {x a b : Int32} {A B : Int} (e : x = a * b) (ha : a.toInt = A) (hb : b.toInt = B) (h1 : -2147483648 ≤ A * B) (h2 : A * B ≤ 2147483647) : x.toInt = A * B := by rw [e, Int32.toInt_mul, ha, hb]; exact bm32 h1 h2
theorem lc_sub {x a b : Int64} {A B : Int} (e : x = a - b) (ha : a.toInt = A) (hb : b.toInt = B) (h1 : -9223372036854775808 ≤ A - B) (h2 : A - B ≤ 9223372036854775807) : x.toInt = A - B := by rw [e, Int64.toInt_sub, ha, hb]; exact bm64 h1 h2
theorem lc_i2l {x : Int32} {y : Int64} {A : Int} (e : y = x.toInt64) (hx : x.toInt = A) : y.toInt = A := by rw [e, Int32.toInt_toInt64]; exact hx
theorem ic_l2i {x : Int64} {y : Int32} {A : Int} (e : y = x.toInt32) (hx : x.toInt = A) (h1 : -2147483648 ≤ A) (h2 : A ≤ 2147483647) : y.toInt = A := by rw [e, Int64.toInt_toInt32, hx]; exact bm32 h1 h2
theorem ic_cl {i : Int32} {A : Int} {n : Nat} (hi : i.toInt = A) (h0 : 0 ≤ A) (h1 : A < n) : i.toNatClampNeg < n := by
  show i.toInt.toNat < n
  omega
theorem ic_clN {i : Int32} {A : Int} (hi : i.toInt = A) (h0 : 0 ≤ A) : (i.toNatClampNeg : Int) = A := by
  show (i.toInt.toNat : Int) = A
  omega
theorem ic_nI {n : Nat} {x : Int32} (e : x = nI n) (h : n < 2147483648) : x.toInt = n := by rw [e]; exact nI_toInt (by omega)
theorem ic_inj {x : Int32} {n : Nat} (h : x.toInt = n) (hn : n < 2147483648) : x = nI n := Int32.toInt_inj.mp (by rw [h, nI_toInt (by omega)])
theorem ic_nar (x : Int32) (h : x.toInt = 0 ∨ x.toInt = 1) : narrow .boolean (.int x) = .int x := by
  rcases h with h | h
  · have : x = 0 := Int32.toInt_inj.mp h
    subst this; rfl
  · have : x = 1 := Int32.toInt_inj.mp h
    subst this; rfl
theorem ic_narB (x : Int32) : (vp_nar .boolean x).toInt = 0 ∨ (vp_nar .boolean x).toInt = 1 := by
  have h : vp_nar .boolean x = x &&& 1 ∨ vp_nar .boolean x = 0 ∨ vp_nar .boolean x = 1 := by
    first
      | exact Or.inl rfl
      | (unfold vp_nar; simp [narrow])
  rcases h with h | h | h
  · rw [h]
    obtain ⟨j, hj, e⟩ := pk_andE x (m := 1) 1 (by decide)
    rw [e, nI_toInt (by omega)]
    omega
  · exact Or.inl (by rw [h]; rfl)
  · exact Or.inr (by rw [h]; rfl)
theorem upk {f f2 : mF} {a b : Nat} {e x : Option va_E} (F : f b = x) (ef : f2 = va_up f a e) (hne : b ≠ a) : f2 b = x := by rw [ef, va_up_ne _ _ hne]; exact F
/-! the reference's cells: h 0 is the object, h k the array in its k-th field -/
def srtM (ty j : Int) : Int := if ty = 0 then (if j < 2 then 0 else 1) else if ty = 1 then (if j < 3 then 0 else if j < 5 then 1 else 2) else (if j = 0 then 0 else if j < 3 then 2 else 1)
def fldM (ty : Int) : Int := if ty = 0 then 3 else if ty = 1 then 6 else 4
abbrev tA : Type := Int32 × Int32 × Int64 × Int32 × Int32 × Int32
def fitA (k j : Nat) (v : Int) : Prop := mostF (5 * k + j) = -1 ∨ (0 ≤ v ∧ v ≤ (mostF (5 * k + j)).toInt)
def okA (t : tA) : Prop := ∃ k : Nat, k < 18 ∧ t.1 = nI k ∧ fitA k 0 t.2.1.toInt ∧ fitA k 1 t.2.2.1.toInt ∧ fitA k 2 t.2.2.2.1.toInt ∧ fitA k 3 t.2.2.2.2.1.toInt ∧ fitA k 4 t.2.2.2.2.2.toInt
def vld (z : Nat → Nat) (k : Nat) : Prop := k < 192 ∧ k % 32 < z (k / 32)
def pNu (n : Nat) (T : Nat → Int32) (nu : Nat → Int64) : Prop := ∀ L, L < 8064 → (n ≤ L % 192 / 8 → nu L = 0) ∧ (L % 192 / 8 < n → srtM (T (L % 192 / 8)).toInt ((L % 8 : Nat) : Int) = 1 → -3 ≤ (nu L).toInt ∧ (nu L).toInt < n)
abbrev okM0 (h : Nat → Nat) (n : Nat) (e : Option va_E) : Prop := ∃ (he fe ca : Int32) (ga : Int64) (wh tm wm ac th st : Int32), e = some (.inr (6, [.int (nI n), .ref (h 1), .int he, .ref (h 3), .ref (h 4), .ref (h 5), .ref (h 6), .int fe, .ref (h 8), .ref (h 9), .ref (h 10), .ref (h 11), .ref (h 12), .ref (h 13), .ref (h 14), .ref (h 15), .int ca, .long ga, .int wh, .int tm, .ref (h 20), .ref (h 21), .int wm, .ref (h 23), .ref (h 24), .int ac, .ref (h 26), .ref (h 27), .int th, .int st])) ∧ 0 ≤ he.toInt ∧ he.toInt ≤ 40 ∧ 0 ≤ tm.toInt ∧ tm.toInt ≤ 384 ∧ 0 ≤ wm.toInt ∧ wm.toInt ≤ 192 ∧ 0 ≤ ac.toInt ∧ ac.toInt ≤ 200
abbrev okI (G : mG) (t : Nat) (N : Nat) (P : (Nat → Int32) → Prop) (e : Option va_E) : Prop := ∃ g : Nat → Int32, e = some (.inl (gk G t, N, .inl g)) ∧ P g
abbrev okJ (G : mG) (N : Nat) (P : (Nat → Int64) → Prop) (e : Option va_E) : Prop := ∃ g : Nat → Int64, e = some (.inl (gk G 1, N, .inr (.inl g))) ∧ P g
def okM (G : mG) (h : Nat → Nat) (n : Nat) (T : Nat → Int32) (z : Nat → Nat) (A : Nat → tA) (k : Nat) (e : Option va_E) : Prop :=
  match k with
  | 0 => okM0 h n e
  | 1 => okI G 0 24 (fun g => ∀ o, o < n → g o = T o) e
  | 3 => okJ G 8064 (pNu n T) e
  | 4 => okI G 0 8064 (fun g => ∀ L, L < 8064 → (g L).toInt ≤ 8) e
  | 5 => okI G 0 64512 (fun _ => True) e
  | 6 => okI G 2 24 (fun _ => True) e
  | 8 => okI G 0 192 (fun _ => True) e
  | 9 => okI G 0 6 (fun g => ∀ b, b < 6 → g b = nI (z b)) e
  | 10 => okI G 0 192 (fun g => ∀ k, vld z k → g k = (A k).1) e
  | 11 => okI G 0 192 (fun g => ∀ k, vld z k → g k = (A k).2.1) e
  | 12 => okJ G 192 (fun g => ∀ k, vld z k → g k = (A k).2.2.1) e
  | 13 => okI G 0 192 (fun g => ∀ k, vld z k → g k = (A k).2.2.2.1) e
  | 14 => okI G 0 192 (fun g => ∀ k, vld z k → g k = (A k).2.2.2.2.1) e
  | 15 => okI G 0 192 (fun g => ∀ k, vld z k → g k = (A k).2.2.2.2.2) e
  | 20 => okI G 0 400 (fun _ => True) e
  | 21 => okI G 0 400 (fun _ => True) e
  | 23 => okI G 0 192 (fun _ => True) e
  | 24 => okI G 2 24 (fun _ => True) e
  | 26 => okI G 0 4 (fun g => ∀ i, i < 4 → -3 ≤ (g i).toInt ∧ ((g i).toInt < n ∨ (n = 0 ∧ (g i).toInt = 0))) e
  | 27 => okJ G 4 (fun _ => True) e
  | _ => True
def tchOK (tm : Int32) (tl th : Nat → Int32) : Prop := (∀ i : Nat, (i : Int) < tm.toInt → 0 ≤ (tl i).toInt ∧ (tl i).toInt < 192 ∧ 0 ≤ (th i).toInt ∧ (th i).toInt < 2) ∧ ∀ i j : Nat, (i : Int) < tm.toInt → (j : Int) < tm.toInt → tl i = tl j → th i = th j → i = j
def xTch (G : mG) (h : Nat → Nat) (f : mF) : Prop := ∀ (fs : List Value) (tm : Int32) (tl th : Nat → Int32), f (h 0) = some (.inr (6, fs)) → fs[19]? = some (.int tm) → f (h 20) = some (.inl (gk G 0, 400, .inl tl)) → f (h 21) = some (.inl (gk G 0, 400, .inl th)) → tchOK tm tl th
/-- the fields that are arrays, and the object itself -/
def rM (k : Nat) : Bool := [0, 1, 3, 4, 5, 6, 8, 9, 10, 11, 12, 13, 14, 15, 20, 21, 23, 24, 26, 27].contains k
def injM (h : Nat → Nat) : Prop := ∀ i j, i < 30 → j < 30 → h i = h j → rM i = true → rM j = true → i = j
def IM (G : mG) (h : Nat → Nat) (n : Nat) (T : Nat → Int32) (z : Nat → Nat) (A : Nat → tA) (f : mF) : Prop := (∀ k, k < 30 → okM G h n T z A k (f (h k))) ∧ xTch G h f ∧ injM h ∧ n ≤ 24 ∧ (∀ b, z b ≤ 32) ∧ ∀ b, b < 6 → ∀ p, p < z b → okA (A (32 * b + p))
/-- what is not the reference's stays -/
def frM (h : Nat → Nat) (f f' : mF) : Prop := ∀ a, (∀ k, k < 30 → a ≠ h k) → f' a = f a
theorem frM.rf {h : Nat → Nat} {f : mF} : frM h f f := fun _ _ => rfl
theorem frM.trans {h : Nat → Nat} {f g k : mF} (h1 : frM h f g) (h2 : frM h g k) : frM h f k := fun a ha => (h2 a ha).trans (h1 a ha)
theorem frM.up {h : Nat → Nat} {f g g2 : mF} {e : Option va_E} (k : Nat) (h1 : frM h f g) (hk : k < 30) (eg : g2 = va_up g (h k) e) : frM h f g2 := fun a ha => by rw [eg, va_up_ne _ _ (ha k hk)]; exact h1 a ha
def fldV (f : mF) (a k : Nat) : Value := match f a with
  | some (.inr (_, fs)) => fs.getD k .null
  | _ => .null
theorem fldV_eq {f : mF} {a ci : Nat} {fs : List Value} (h : f a = some (.inr (ci, fs))) (k : Nat) : fldV f a k = fs.getD k .null := by unfold fldV; rw [h]
/-- the fields that a walk of acts keeps: writtenMany, acts, height -/
def kpM (h : Nat → Nat) (f f' : mF) : Prop := fldV f' (h 0) 22 = fldV f (h 0) 22 ∧ fldV f' (h 0) 25 = fldV f (h 0) 25 ∧ fldV f' (h 0) 2 = fldV f (h 0) 2
theorem kpM.rf {h : Nat → Nat} {f : mF} : kpM h f f := ⟨rfl, rfl, rfl⟩
theorem kpM.trans {h : Nat → Nat} {f g k : mF} (h1 : kpM h f g) (h2 : kpM h g k) : kpM h f k := ⟨h2.1.trans h1.1, h2.2.1.trans h1.2.1, h2.2.2.trans h1.2.2⟩
theorem kpM.up {h : Nat → Nat} {f g g2 : mF} {e : Option va_E} (k : Nat) (h1 : kpM h f g) (hj : injM h) (hk : k < 30) (h0 : k ≠ 0) (eg : g2 = va_up g (h k) e) (hr : rM k = true := by decide) : kpM h f g2 := by
  have hne : h 0 ≠ h k := fun q => h0 (hj 0 k (by omega) hk q rfl hr).symm
  unfold kpM fldV
  rw [eg, va_up_ne _ _ hne]
  exact h1
theorem kpM.obj {h : Nat → Nat} {f g g2 : mF} {fs fs2 : List Value} {ci c2 : Nat} (h1 : kpM h f g) (e1 : g (h 0) = some (.inr (ci, fs))) (e2 : g2 (h 0) = some (.inr (c2, fs2))) (h22 : fs2.getD 22 .null = fs.getD 22 .null) (h25 : fs2.getD 25 .null = fs.getD 25 .null) (h2 : fs2.getD 2 .null = fs.getD 2 .null) : kpM h f g2 := by
  refine ⟨?_, ?_, ?_⟩
  · rw [fldV_eq e2, h22, ← fldV_eq e1]; exact h1.1
  · rw [fldV_eq e2, h25, ← fldV_eq e1]; exact h1.2.1
  · rw [fldV_eq e2, h2, ← fldV_eq e1]; exact h1.2.2
theorem xTch.arr {G : mG} {h : Nat → Nat} {f : mF} {e : Option va_E} (hX : xTch G h f) (hj : injM h) (k : Nat) (hk : k < 30) (h0 : k ≠ 0) (h20 : k ≠ 20) (h21 : k ≠ 21) (hr : rM k = true := by decide) : xTch G h (va_up f (h k) e) := by
  intro fs tm tl th e0 et e20 e21
  rw [va_up_ne _ _ (fun q => h0 (hj 0 k (by omega) hk q rfl hr).symm)] at e0
  rw [va_up_ne _ _ (fun q => h20 (hj 20 k (by omega) hk q rfl hr).symm)] at e20
  rw [va_up_ne _ _ (fun q => h21 (hj 21 k (by omega) hk q rfl hr).symm)] at e21
  exact hX fs tm tl th e0 et e20 e21
theorem xTch.obj {G : mG} {h : Nat → Nat} {f : mF} {fs fs2 : List Value} (hX : xTch G h f) (hj : injM h) (e1 : f (h 0) = some (.inr (6, fs))) (hs : fs2[19]? = fs[19]?) : xTch G h (va_up f (h 0) (some (.inr (6, fs2)))) := by
  intro fs' tm tl th e0 et e20 e21
  rw [va_up_self] at e0
  cases e0
  rw [va_up_ne _ _ (fun q => by have := hj 20 0 (by omega) (by omega) q rfl rfl; omega)] at e20
  rw [va_up_ne _ _ (fun q => by have := hj 21 0 (by omega) (by omega) q rfl rfl; omega)] at e21
  exact hX fs tm tl th e1 (by rw [← hs]; exact et) e20 e21
theorem okM_no {G : mG} {h : Nat → Nat} {n : Nat} {T : Nat → Int32} {z : Nat → Nat} {A : Nat → tA} {e : Option va_E} : ∀ k, k < 30 → rM k = false → okM G h n T z A k e := by
  intro k hk hr
  have hc : k = 2 ∨ k = 7 ∨ k = 16 ∨ k = 17 ∨ k = 18 ∨ k = 19 ∨ k = 22 ∨ k = 25 ∨ k = 28 ∨ k = 29 := (show ∀ k, k < 30 → rM k = false → k = 2 ∨ k = 7 ∨ k = 16 ∨ k = 17 ∨ k = 18 ∨ k = 19 ∨ k = 22 ∨ k = 25 ∨ k = 28 ∨ k = 29 from by decide +kernel) k hk hr
  rcases hc with rfl | rfl | rfl | rfl | rfl | rfl | rfl | rfl | rfl | rfl <;> trivial
theorem IM.set {G : mG} {h : Nat → Nat} {n : Nat} {T : Nat → Int32} {z : Nat → Nat} {A : Nat → tA} {f f2 : mF} {e : va_E} (hI : IM G h n T z A f) (k : Nat) (hk : k < 30) (he : okM G h n T z A k (some e)) (hX : xTch G h (va_up f (h k) (some e))) (ef : f2 = va_up f (h k) (some e)) (hr : rM k = true := by decide) : IM G h n T z A f2 := by
  subst ef
  refine ⟨fun j hjj => ?_, hX, hI.2.2⟩
  by_cases hq : j = k
  · subst hq; rw [va_up_self]; exact he
  · cases hrj : rM j with
    | false => exact okM_no j hjj hrj
    | true =>
      rw [va_up_ne _ _ (fun q => hq (hI.2.2.1 j k hjj hk q hrj hr))]
      exact hI.1 j hjj
theorem IM.arr {G : mG} {h : Nat → Nat} {n : Nat} {T : Nat → Int32} {z : Nat → Nat} {A : Nat → tA} {f f2 : mF} {e : va_E} (hI : IM G h n T z A f) (k : Nat) (hk : k < 30) (h0 : k ≠ 0) (h20 : k ≠ 20) (h21 : k ≠ 21) (he : okM G h n T z A k (some e)) (ef : f2 = va_up f (h k) (some e)) (hr : rM k = true := by decide) : IM G h n T z A f2 :=
  hI.set k hk he (hI.2.1.arr hI.2.2.1 k hk h0 h20 h21 hr) ef hr
theorem IM.obj {G : mG} {h : Nat → Nat} {n : Nat} {T : Nat → Int32} {z : Nat → Nat} {A : Nat → tA} {f f2 : mF} {fs fs2 : List Value} (hI : IM G h n T z A f) (e1 : f (h 0) = some (.inr (6, fs))) (ef : f2 = va_up f (h 0) (some (.inr (6, fs2)))) (hs : fs2[19]? = fs[19]?) (he : okM0 h n (some (.inr (6, fs2)))) : IM G h n T z A f2 :=
  hI.set 0 (by omega) he (hI.2.1.obj hI.2.2.1 e1 hs) ef
theorem neM {h : Nat → Nat} (hj : injM h) {i j : Nat} (hi : i < 30) (hjj : j < 30) (hne : i ≠ j) (h1 : rM i = true := by decide) (h2 : rM j = true := by decide) : h i ≠ h j := fun q => hne (hj i j hi hjj q h1 h2)
theorem upd_all {P : Int32 → Prop} {N k : Nat} {g : Nat → Int32} {v : Int32} (hg : ∀ L, L < N → P (g L)) (hv : P v) : ∀ L, L < N → P (upd g k v L) := by
  intro L hL
  unfold upd
  split
  · exact hv
  · exact hg L hL
theorem inj_bound : ∀ (m n : Nat) (g : Nat → Nat), (∀ i, i < n → g i < m) → (∀ i j, i < n → j < n → g i = g j → i = j) → n ≤ m
  | 0, n, g, h1, _ => by
    cases n with
    | zero => exact Nat.le_refl 0
    | succ k => exact absurd (h1 0 (by omega)) (by omega)
  | m + 1, n, g, h1, h2 => by
    cases n with
    | zero => omega
    | succ k =>
      -- send the last place's value out of the way
      have key : k ≤ m := inj_bound m k (fun i => if g i = m then g k else g i) (fun i hi => by
        have a := h1 i (by omega)
        have b := h1 k (by omega)
        by_cases hm : g i = m
        · rw [if_pos hm]
          have : g k ≠ m := fun q => by
            have := h2 i k (by omega) (by omega) (by rw [hm, q])
            omega
          omega
        · rw [if_neg hm]; omega) (fun i j hi hj e => by
        by_cases hm : g i = m <;> by_cases hn : g j = m
        · exact h2 i j (by omega) (by omega) (by rw [hm, hn])
        · rw [if_pos hm, if_neg hn] at e
          have := h2 k j (by omega) (by omega) e
          omega
        · rw [if_neg hm, if_pos hn] at e
          have := h2 i k (by omega) (by omega) e
          omega
        · rw [if_neg hm, if_neg hn] at e
          exact h2 i j (by omega) (by omega) e)
      omega
theorem tch_bound {tm : Int32} {tl th : Nat → Int32} (h : tchOK tm tl th) : tm.toInt ≤ 384 := by
  rcases Int.lt_or_le tm.toInt 0 with h0 | h0
  · omega
  have := inj_bound 384 tm.toInt.toNat (fun i => (2 * (tl i).toInt + (th i).toInt).toNat) (fun i hi => by
    obtain ⟨a, b, c, d⟩ := h.1 i (by omega)
    show (2 * (tl i).toInt + (th i).toInt).toNat < 384
    omega) (fun i j hi hj e => by
    obtain ⟨a, b, c, d⟩ := h.1 i (by omega)
    obtain ⟨a2, b2, c2, d2⟩ := h.1 j (by omega)
    have e : (2 * (tl i).toInt + (th i).toInt).toNat = (2 * (tl j).toInt + (th j).toInt).toNat := e
    exact h.2 i j (by omega) (by omega) (Int32.toInt_inj.mp (by omega)) (Int32.toInt_inj.mp (by omega)))
  omega
theorem fldM_b (t : Int) : 3 ≤ fldM t ∧ fldM t ≤ 6 := by unfold fldM; (repeat' split) <;> omega
theorem pNu_put {n : Nat} {T : Nat → Int32} {nu : Nat → Int64} {i : Int32} {a o j : Int} {v : Int64} (hp : pNu n T nu) (hi : i.toInt = 192 * a + 8 * o + j) (ha : 0 ≤ a) (ha2 : a ≤ 41) (ho : 0 ≤ o) (ho2 : o < n) (hj : 0 ≤ j) (hj2 : j < 8) (hn : n ≤ 24) {on : Nat} (hon : on = o.toNat) (hv : srtM (T on).toInt j = 1 → -3 ≤ v.toInt ∧ v.toInt < n) : pNu n T (vp_updL nu i.toNatClampNeg v) := by
  have hc := ic_clN hi (by omega)
  intro L hL
  unfold vp_updL
  split
  · rename_i hq
    subst hq
    have e1 : i.toNatClampNeg % 192 / 8 = on := by omega
    have e2 : ((i.toNatClampNeg % 8 : Nat) : Int) = j := by omega
    rw [e1, e2]
    exact ⟨fun q => by omega, fun _ => hv⟩
  · exact hp L hL
theorem pNu_copy {n : Nat} {T : Nat → Int32} {nu : Nat → Int64} {La Lb : Nat} (hp : pNu n T nu) (hLa : La < 8064) (hm : La % 192 = Lb % 192) : pNu n T (vp_updL nu Lb (nu La)) := by
  intro L hL
  unfold vp_updL
  split
  · rename_i hq
    subst hq
    have e1 : L % 192 = La % 192 := hm.symm
    have e2 : L % 8 = La % 8 := by omega
    rw [e1, e2]
    exact hp La hLa
  · exact hp L hL
end
section
theorem kI_m3 : ((-3) : Int32).toInt = (-3) := by decide
theorem kI_m2 : ((-2) : Int32).toInt = (-2) := by decide
theorem kI_m1 : ((-1) : Int32).toInt = (-1) := by decide
theorem kI_0 : (0 : Int32).toInt = 0 := by decide
theorem kI_1 : (1 : Int32).toInt = 1 := by decide
theorem kI_2 : (2 : Int32).toInt = 2 := by decide
theorem kI_3 : (3 : Int32).toInt = 3 := by decide
theorem kI_4 : (4 : Int32).toInt = 4 := by decide
theorem kI_5 : (5 : Int32).toInt = 5 := by decide
theorem kI_6 : (6 : Int32).toInt = 6 := by decide
theorem kI_7 : (7 : Int32).toInt = 7 := by decide
theorem kI_8 : (8 : Int32).toInt = 8 := by decide
theorem kI_9 : (9 : Int32).toInt = 9 := by decide
theorem kI_10 : (10 : Int32).toInt = 10 := by decide
theorem kI_16 : (16 : Int32).toInt = 16 := by decide
theorem kI_17 : (17 : Int32).toInt = 17 := by decide
theorem kI_18 : (18 : Int32).toInt = 18 := by decide
theorem kI_24 : (24 : Int32).toInt = 24 := by decide
theorem kI_31 : (31 : Int32).toInt = 31 := by decide
theorem kI_32 : (32 : Int32).toInt = 32 := by decide
theorem kI_40 : (40 : Int32).toInt = 40 := by decide
theorem kI_41 : (41 : Int32).toInt = 41 := by decide
theorem kI_63 : (63 : Int32).toInt = 63 := by decide
theorem kI_192 : (192 : Int32).toInt = 192 := by decide
theorem kI_200 : (200 : Int32).toInt = 200 := by decide
theorem kI_384 : (384 : Int32).toInt = 384 := by decide
theorem kI_400 : (400 : Int32).toInt = 400 := by decide
theorem kI_7872 : (7872 : Int32).toInt = 7872 := by decide
theorem kI_8064 : (8064 : Int32).toInt = 8064 := by decide
theorem kI_64512 : (64512 : Int32).toInt = 64512 := by decide
theorem kI_252645135 : (252645135 : Int32).toInt = 252645135 := by decide
theorem kI_858993459 : (858993459 : Int32).toInt = 858993459 := by decide
theorem kI_1431655765 : (1431655765 : Int32).toInt = 1431655765 := by decide
theorem kJ_m3 : ((-3) : Int64).toInt = (-3) := by decide
theorem kJ_m2 : ((-2) : Int64).toInt = (-2) := by decide
theorem kJ_m1 : ((-1) : Int64).toInt = (-1) := by decide
theorem kJ_0 : (0 : Int64).toInt = 0 := by decide
theorem kJ_1 : (1 : Int64).toInt = 1 := by decide
theorem kJ_2 : (2 : Int64).toInt = 2 := by decide
theorem kJ_3 : (3 : Int64).toInt = 3 := by decide
theorem kJ_4 : (4 : Int64).toInt = 4 := by decide
theorem kJ_5 : (5 : Int64).toInt = 5 := by decide
theorem kJ_6 : (6 : Int64).toInt = 6 := by decide
theorem kJ_7 : (7 : Int64).toInt = 7 := by decide
theorem kJ_8 : (8 : Int64).toInt = 8 := by decide
theorem kJ_9 : (9 : Int64).toInt = 9 := by decide
theorem kJ_32 : (32 : Int64).toInt = 32 := by decide
theorem kJ_191 : (191 : Int64).toInt = 191 := by decide
theorem in_X0_fits_X0 : ∀ w ∈ u_ws RX0 TX0 6, w ∈ wsX0_fits := by decide +kernel
theorem in_X0_init_X0 : ∀ w ∈ u_ws RX0 TX0 6, w ∈ wsX0_init := by decide +kernel
theorem in_X0_isAsTold_X0 : ∀ w ∈ u_ws RX0 TX0 6, w ∈ wsX0_isAsTold := by decide +kernel
theorem in_X1_actAt_X1 : ∀ w ∈ u_ws RX1 TX1 2, w ∈ wsX1_actAt := by decide +kernel
theorem in_X1_append_X1 : ∀ w ∈ u_ws RX1 TX1 2, w ∈ wsX1_append := by decide +kernel
theorem in_X1_empty_X1 : ∀ w ∈ u_ws RX1 TX1 2, w ∈ wsX1_empty := by decide +kernel
theorem in_X1_init_X1 : ∀ w ∈ u_ws RX1 TX1 2, w ∈ wsX1_init := by decide +kernel
theorem in_X2_asOf_X2 : ∀ w ∈ u_ws RX2 TX2 5, w ∈ wsX2_asOf := by decide +kernel
theorem in_X2_copyFrom_X2 : ∀ w ∈ u_ws RX2 TX2 5, w ∈ wsX2_copyFrom := by decide +kernel
theorem in_X2_hasBlankRow_X2 : ∀ w ∈ u_ws RX2 TX2 5, w ∈ wsX2_hasBlankRow := by decide +kernel
theorem in_X2_hasItem_X2 : ∀ w ∈ u_ws RX2 TX2 5, w ∈ wsX2_hasItem := by decide +kernel
theorem in_X2_hasSameField_X2 : ∀ w ∈ u_ws RX2 TX2 5, w ∈ wsX2_hasSameField := by decide +kernel
theorem in_X2_hasSameItems_X2 : ∀ w ∈ u_ws RX2 TX2 5, w ∈ wsX2_hasSameItems := by decide +kernel
theorem in_X2_init_X2 : ∀ w ∈ u_ws RX2 TX2 5, w ∈ wsX2_init := by decide +kernel
theorem in_X2_renewRow_X2 : ∀ w ∈ u_ws RX2 TX2 5, w ∈ wsX2_renewRow := by decide +kernel
theorem in_X2_sortOf_X2 : ∀ w ∈ u_ws RX2 TX2 5, w ∈ wsX2_sortOf := by decide +kernel
theorem in_X3_areAlike_X2 : ∀ w ∈ u_ws RX2 TX2 5, w ∈ wsX3_areAlike := by decide +kernel
theorem in_X3_areAlike_X3 : ∀ w ∈ u_ws RX3 TX3 11, w ∈ wsX3_areAlike := by decide +kernel
theorem in_X3_ask_X3 : ∀ w ∈ u_ws RX3 TX3 11, w ∈ wsX3_ask := by decide +kernel
theorem in_X3_bodyOf_X3 : ∀ w ∈ u_ws RX3 TX3 11, w ∈ wsX3_bodyOf := by decide +kernel
theorem in_X3_change_X3 : ∀ w ∈ u_ws RX3 TX3 11, w ∈ wsX3_change := by decide +kernel
theorem in_X3_changesLike_X3 : ∀ w ∈ u_ws RX3 TX3 11, w ∈ wsX3_changesLike := by decide +kernel
theorem in_X3_end_X3 : ∀ w ∈ u_ws RX3 TX3 11, w ∈ wsX3_end := by decide +kernel
theorem in_X3_endsLike_X3 : ∀ w ∈ u_ws RX3 TX3 11, w ∈ wsX3_endsLike := by decide +kernel
theorem in_X3_fail_X3 : ∀ w ∈ u_ws RX3 TX3 11, w ∈ wsX3_fail := by decide +kernel
theorem in_X3_follow_X2 : ∀ w ∈ u_ws RX2 TX2 5, w ∈ wsX3_follow := by decide +kernel
theorem in_X3_follow_X3 : ∀ w ∈ u_ws RX3 TX3 11, w ∈ wsX3_follow := by decide +kernel
theorem in_X3_get_X2 : ∀ w ∈ u_ws RX2 TX2 5, w ∈ wsX3_get := by decide +kernel
theorem in_X3_getItem_X2 : ∀ w ∈ u_ws RX2 TX2 5, w ∈ wsX3_getItem := by decide +kernel
theorem in_X3_getItem_X3 : ∀ w ∈ u_ws RX3 TX3 11, w ∈ wsX3_getItem := by decide +kernel
theorem in_X3_goOnAt_X3 : ∀ w ∈ u_ws RX3 TX3 11, w ∈ wsX3_goOnAt := by decide +kernel
theorem in_X3_init_X3 : ∀ w ∈ u_ws RX3 TX3 11, w ∈ wsX3_init := by decide +kernel
theorem in_X3_init_X4 : ∀ w ∈ u_ws RX4 TX4 5, w ∈ wsX3_init := by decide +kernel
theorem in_X3_itemRefusal_X2 : ∀ w ∈ u_ws RX2 TX2 5, w ∈ wsX3_itemRefusal := by decide +kernel
theorem in_X3_lay_X2 : ∀ w ∈ u_ws RX2 TX2 5, w ∈ wsX3_lay := by decide +kernel
theorem in_X3_lay_X3 : ∀ w ∈ u_ws RX3 TX3 11, w ∈ wsX3_lay := by decide +kernel
theorem in_X3_load_X2 : ∀ w ∈ u_ws RX2 TX2 5, w ∈ wsX3_load := by decide +kernel
theorem in_X3_load_X3 : ∀ w ∈ u_ws RX3 TX3 11, w ∈ wsX3_load := by decide +kernel
theorem in_X3_perform_X0 : ∀ w ∈ u_ws RX0 TX0 6, w ∈ wsX3_perform := by decide +kernel
theorem in_X3_perform_X3 : ∀ w ∈ u_ws RX3 TX3 11, w ∈ wsX3_perform := by decide +kernel
theorem in_X3_put_X2 : ∀ w ∈ u_ws RX2 TX2 5, w ∈ wsX3_put := by decide +kernel
theorem in_X3_read_X3 : ∀ w ∈ u_ws RX3 TX3 11, w ∈ wsX3_read := by decide +kernel
theorem in_X3_setValue_X3 : ∀ w ∈ u_ws RX3 TX3 11, w ∈ wsX3_setValue := by decide +kernel
theorem in_X3_shift_X0 : ∀ w ∈ u_ws RX0 TX0 6, w ∈ wsX3_shift := by decide +kernel
theorem in_X3_shift_X2 : ∀ w ∈ u_ws RX2 TX2 5, w ∈ wsX3_shift := by decide +kernel
theorem in_X3_shift_X3 : ∀ w ∈ u_ws RX3 TX3 11, w ∈ wsX3_shift := by decide +kernel
theorem in_X3_start_X3 : ∀ w ∈ u_ws RX3 TX3 11, w ∈ wsX3_start := by decide +kernel
theorem in_X3_work_X3 : ∀ w ∈ u_ws RX3 TX3 11, w ∈ wsX3_work := by decide +kernel
theorem in_X4_init_X4 : ∀ w ∈ u_ws RX4 TX4 5, w ∈ wsX4_init := by decide +kernel
theorem in_X4_isSameAs_X4 : ∀ w ∈ u_ws RX4 TX4 5, w ∈ wsX4_isSameAs := by decide +kernel
theorem in_X4_noteChanged_X4 : ∀ w ∈ u_ws RX4 TX4 5, w ∈ wsX4_noteChanged := by decide +kernel
theorem in_X4_noteRead_X4 : ∀ w ∈ u_ws RX4 TX4 5, w ∈ wsX4_noteRead := by decide +kernel
theorem in_X4_restart_X4 : ∀ w ∈ u_ws RX4 TX4 5, w ∈ wsX4_restart := by decide +kernel
theorem in_X5_act_X0 : ∀ w ∈ u_ws RX0 TX0 6, w ∈ wsX5_act := by decide +kernel
theorem in_X5_act_X5 : ∀ w ∈ u_ws RX5 TX5 14, w ∈ wsX5_act := by decide +kernel
theorem in_X5_all_X5 : ∀ w ∈ u_ws RX5 TX5 14, w ∈ wsX5_all := by decide +kernel
theorem in_X5_cached_X5 : ∀ w ∈ u_ws RX5 TX5 14, w ∈ wsX5_cached := by decide +kernel
theorem in_X5_call_X3 : ∀ w ∈ u_ws RX3 TX3 11, w ∈ wsX5_call := by decide +kernel
theorem in_X5_call_X5 : ∀ w ∈ u_ws RX5 TX5 14, w ∈ wsX5_call := by decide +kernel
theorem in_X5_callRefusal_X5 : ∀ w ∈ u_ws RX5 TX5 14, w ∈ wsX5_callRefusal := by decide +kernel
theorem in_X5_changeCell_X2 : ∀ w ∈ u_ws RX2 TX2 5, w ∈ wsX5_changeCell := by decide +kernel
theorem in_X5_changeCell_X5 : ∀ w ∈ u_ws RX5 TX5 14, w ∈ wsX5_changeCell := by decide +kernel
theorem in_X5_clear_X5 : ∀ w ∈ u_ws RX5 TX5 14, w ∈ wsX5_clear := by decide +kernel
theorem in_X5_gave_X3 : ∀ w ∈ u_ws RX3 TX3 11, w ∈ wsX5_gave := by decide +kernel
theorem in_X5_gave_X5 : ∀ w ∈ u_ws RX5 TX5 14, w ∈ wsX5_gave := by decide +kernel
theorem in_X5_hint_X5 : ∀ w ∈ u_ws RX5 TX5 14, w ∈ wsX5_hint := by decide +kernel
theorem in_X5_init_X1 : ∀ w ∈ u_ws RX1 TX1 2, w ∈ wsX5_init := by decide +kernel
theorem in_X5_init_X3 : ∀ w ∈ u_ws RX3 TX3 11, w ∈ wsX5_init := by decide +kernel
theorem in_X5_init_X5 : ∀ w ∈ u_ws RX5 TX5 14, w ∈ wsX5_init := by decide +kernel
theorem in_X5_isObject_X5 : ∀ w ∈ u_ws RX5 TX5 14, w ∈ wsX5_isObject := by decide +kernel
theorem in_X5_keepChanges_X3 : ∀ w ∈ u_ws RX3 TX3 11, w ∈ wsX5_keepChanges := by decide +kernel
theorem in_X5_keepChanges_X5 : ∀ w ∈ u_ws RX5 TX5 14, w ∈ wsX5_keepChanges := by decide +kernel
theorem in_X5_loaded_X3 : ∀ w ∈ u_ws RX3 TX3 11, w ∈ wsX5_loaded := by decide +kernel
theorem in_X5_loaded_X5 : ∀ w ∈ u_ws RX5 TX5 14, w ∈ wsX5_loaded := by decide +kernel
theorem in_X5_newVersion_X2 : ∀ w ∈ u_ws RX2 TX2 5, w ∈ wsX5_newVersion := by decide +kernel
theorem in_X5_newVersion_X5 : ∀ w ∈ u_ws RX5 TX5 14, w ∈ wsX5_newVersion := by decide +kernel
theorem in_X5_noteWritten_X5 : ∀ w ∈ u_ws RX5 TX5 14, w ∈ wsX5_noteWritten := by decide +kernel
theorem in_X5_object_X2 : ∀ w ∈ u_ws RX2 TX2 5, w ∈ wsX5_object := by decide +kernel
theorem in_X5_object_X5 : ∀ w ∈ u_ws RX5 TX5 14, w ∈ wsX5_object := by decide +kernel
theorem in_X5_raiseHeight_X5 : ∀ w ∈ u_ws RX5 TX5 14, w ∈ wsX5_raiseHeight := by decide +kernel
theorem in_X5_row_X5 : ∀ w ∈ u_ws RX5 TX5 14, w ∈ wsX5_row := by decide +kernel
theorem in_X5_sortAt_X5 : ∀ w ∈ u_ws RX5 TX5 14, w ∈ wsX5_sortAt := by decide +kernel
theorem in_X5_status_X5 : ∀ w ∈ u_ws RX5 TX5 14, w ∈ wsX5_status := by decide +kernel
theorem in_X5_times_X5 : ∀ w ∈ u_ws RX5 TX5 14, w ∈ wsX5_times := by decide +kernel
theorem in_X5_told_X3 : ∀ w ∈ u_ws RX3 TX3 11, w ∈ wsX5_told := by decide +kernel
theorem in_X5_told_X4 : ∀ w ∈ u_ws RX4 TX4 5, w ∈ wsX5_told := by decide +kernel
theorem in_X5_told_X5 : ∀ w ∈ u_ws RX5 TX5 14, w ∈ wsX5_told := by decide +kernel
theorem in_X5_touched_X3 : ∀ w ∈ u_ws RX3 TX3 11, w ∈ wsX5_touched := by decide +kernel
theorem in_X5_touched_X4 : ∀ w ∈ u_ws RX4 TX4 5, w ∈ wsX5_touched := by decide +kernel
theorem in_X5_touched_X5 : ∀ w ∈ u_ws RX5 TX5 14, w ∈ wsX5_touched := by decide +kernel
theorem in_X5_view_X2 : ∀ w ∈ u_ws RX2 TX2 5, w ∈ wsX5_view := by decide +kernel
theorem in_X5_view_X5 : ∀ w ∈ u_ws RX5 TX5 14, w ∈ wsX5_view := by decide +kernel
theorem in_X5_where_X3 : ∀ w ∈ u_ws RX3 TX3 11, w ∈ wsX5_where := by decide +kernel
theorem in_X5_where_X5 : ∀ w ∈ u_ws RX5 TX5 14, w ∈ wsX5_where := by decide +kernel
theorem in_X5_written_X5 : ∀ w ∈ u_ws RX5 TX5 14, w ∈ wsX5_written := by decide +kernel
theorem in_X6_act_X6 : ∀ w ∈ u_ws RX6 TX6 30, w ∈ wsX6_act := by decide +kernel
theorem in_X6_all_X6 : ∀ w ∈ u_ws RX6 TX6 30, w ∈ wsX6_all := by decide +kernel
theorem in_X6_areAlike_X6 : ∀ w ∈ u_ws RX6 TX6 30, w ∈ wsX6_areAlike := by decide +kernel
theorem in_X6_begin_X6 : ∀ w ∈ u_ws RX6 TX6 30, w ∈ wsX6_begin := by decide +kernel
theorem in_X6_cached_X6 : ∀ w ∈ u_ws RX6 TX6 30, w ∈ wsX6_cached := by decide +kernel
theorem in_X6_call_X6 : ∀ w ∈ u_ws RX6 TX6 30, w ∈ wsX6_call := by decide +kernel
theorem in_X6_changed_X6 : ∀ w ∈ u_ws RX6 TX6 30, w ∈ wsX6_changed := by decide +kernel
theorem in_X6_clear_X6 : ∀ w ∈ u_ws RX6 TX6 30, w ∈ wsX6_clear := by decide +kernel
theorem in_X6_copyLeaf_X6 : ∀ w ∈ u_ws RX6 TX6 30, w ∈ wsX6_copyLeaf := by decide +kernel
theorem in_X6_does_X6 : ∀ w ∈ u_ws RX6 TX6 30, w ∈ wsX6_does := by decide +kernel
theorem in_X6_fieldActs_X6 : ∀ w ∈ u_ws RX6 TX6 30, w ∈ wsX6_fieldActs := by decide +kernel
theorem in_X6_first_X6 : ∀ w ∈ u_ws RX6 TX6 30, w ∈ wsX6_first := by decide +kernel
theorem in_X6_gave_X6 : ∀ w ∈ u_ws RX6 TX6 30, w ∈ wsX6_gave := by decide +kernel
theorem in_X6_has_X6 : ∀ w ∈ u_ws RX6 TX6 30, w ∈ wsX6_has := by decide +kernel
theorem in_X6_hint_X6 : ∀ w ∈ u_ws RX6 TX6 30, w ∈ wsX6_hint := by decide +kernel
theorem in_X6_init_X6 : ∀ w ∈ u_ws RX6 TX6 30, w ∈ wsX6_init := by decide +kernel
theorem in_X6_isObject_X6 : ∀ w ∈ u_ws RX6 TX6 30, w ∈ wsX6_isObject := by decide +kernel
theorem in_X6_itemOf_X6 : ∀ w ∈ u_ws RX6 TX6 30, w ∈ wsX6_itemOf := by decide +kernel
theorem in_X6_leafOf_X6 : ∀ w ∈ u_ws RX6 TX6 30, w ∈ wsX6_leafOf := by decide +kernel
theorem in_X6_like_X6 : ∀ w ∈ u_ws RX6 TX6 30, w ∈ wsX6_like := by decide +kernel
theorem in_X6_link_X6 : ∀ w ∈ u_ws RX6 TX6 30, w ∈ wsX6_link := by decide +kernel
theorem in_X6_load_X6 : ∀ w ∈ u_ws RX6 TX6 30, w ∈ wsX6_load := by decide +kernel
theorem in_X6_loaded_X6 : ∀ w ∈ u_ws RX6 TX6 30, w ∈ wsX6_loaded := by decide +kernel
theorem in_X6_newRow_X6 : ∀ w ∈ u_ws RX6 TX6 30, w ∈ wsX6_newRow := by decide +kernel
theorem in_X6_number_X6 : ∀ w ∈ u_ws RX6 TX6 30, w ∈ wsX6_number := by decide +kernel
theorem in_X6_object_X6 : ∀ w ∈ u_ws RX6 TX6 30, w ∈ wsX6_object := by decide +kernel
theorem in_X6_rises_X6 : ∀ w ∈ u_ws RX6 TX6 30, w ∈ wsX6_rises := by decide +kernel
theorem in_X6_row_X6 : ∀ w ∈ u_ws RX6 TX6 30, w ∈ wsX6_row := by decide +kernel
theorem in_X6_rowActs_X6 : ∀ w ∈ u_ws RX6 TX6 30, w ∈ wsX6_rowActs := by decide +kernel
theorem in_X6_shift_X6 : ∀ w ∈ u_ws RX6 TX6 30, w ∈ wsX6_shift := by decide +kernel
theorem in_X6_status_X6 : ∀ w ∈ u_ws RX6 TX6 30, w ∈ wsX6_status := by decide +kernel
theorem in_X6_times_X6 : ∀ w ∈ u_ws RX6 TX6 30, w ∈ wsX6_times := by decide +kernel
theorem in_X6_told_X6 : ∀ w ∈ u_ws RX6 TX6 30, w ∈ wsX6_told := by decide +kernel
theorem in_X6_touch_X6 : ∀ w ∈ u_ws RX6 TX6 30, w ∈ wsX6_touch := by decide +kernel
theorem in_X6_touched_X6 : ∀ w ∈ u_ws RX6 TX6 30, w ∈ wsX6_touched := by decide +kernel
theorem in_X6_view_X6 : ∀ w ∈ u_ws RX6 TX6 30, w ∈ wsX6_view := by decide +kernel
theorem in_X6_where_X6 : ∀ w ∈ u_ws RX6 TX6 30, w ∈ wsX6_where := by decide +kernel
theorem in_X6_written_X6 : ∀ w ∈ u_ws RX6 TX6 30, w ∈ wsX6_written := by decide +kernel
end
section
theorem fit_in {k j : Nat} {v : Int} {m : Int32} {M : Int} (h : mostF (5 * k + j) = m) (hM : m.toInt = M) (h0 : 0 ≤ v) (h1 : v ≤ M) : fitA k j v := Or.inr ⟨h0, by rw [h, hM]; exact h1⟩
theorem fit_get {k j : Nat} {v : Int} {m : Int32} {M : Int} (h : mostF (5 * k + j) = m) (hm : m ≠ -1) (hM : m.toInt = M) (f : fitA k j v) : 0 ≤ v ∧ v ≤ M := by
  rcases f with f | f
  · exact absurd (h.symm.trans f) hm
  · rw [h, hM] at f; exact f
theorem okA_mk {t : tA} (k : Nat) (hk : k < 18) (ht : t.1.toInt = k) (f0 : fitA k 0 t.2.1.toInt) (f1 : fitA k 1 t.2.2.1.toInt) (f2 : fitA k 2 t.2.2.2.1.toInt) (f3 : fitA k 3 t.2.2.2.2.1.toInt) (f4 : fitA k 4 t.2.2.2.2.2.toInt) : okA t := ⟨k, hk, ic_inj ht (by omega), f0, f1, f2, f3, f4⟩
theorem okA_rng {t : tA} (h : okA t) : 0 ≤ t.1.toInt ∧ t.1.toInt ≤ 17 := by
  obtain ⟨k, hk, e, -⟩ := h
  have := ic_nI e (by omega)
  omega
theorem okA_no {t : tA} (k : Nat) (ht : t.1.toInt = k) (hn : fitA k 0 t.2.1.toInt → fitA k 1 t.2.2.1.toInt → fitA k 2 t.2.2.2.1.toInt → fitA k 3 t.2.2.2.2.1.toInt → fitA k 4 t.2.2.2.2.2.toInt → False) : ¬ okA t := by
  rintro ⟨q, hq, e, f0, f1, f2, f3, f4⟩
  have := ic_nI e (by omega)
  have : q = k := by omega
  subst this
  exact hn f0 f1 f2 f3 f4
theorem ic_or01 {x a b : Int32} (e : x = a ||| b) (ha : a.toInt = 0 ∨ a.toInt = 1) (hb : b.toInt = 0 ∨ b.toInt = 1) : x.toInt = 0 ∨ x.toInt = 1 := by
  have h0 : ∀ q : Int32, q.toInt = 0 → q = 0 := fun q h => Int32.toInt_inj.mp h
  have h1 : ∀ q : Int32, q.toInt = 1 → q = 1 := fun q h => Int32.toInt_inj.mp h
  rcases ha with ha | ha <;> rcases hb with hb | hb <;> rw [e]
  · rw [h0 a ha, h0 b hb]; decide
  · rw [h0 a ha, h1 b hb]; decide
  · rw [h1 a ha, h0 b hb]; decide
  · rw [h1 a ha, h1 b hb]; decide
theorem ic_or0 {x a b : Int32} {A B : Int} (e : x = a ||| b) (ha : a.toInt = A) (hb : b.toInt = B) (hA : A = 0 ∨ A = 1) (hB : B = 0 ∨ B = 1) : x.toInt = 0 → A = 0 ∧ B = 0 := by
  have h0 : ∀ q : Int32, q.toInt = 0 → q = 0 := fun q h => Int32.toInt_inj.mp h
  have h1 : ∀ q : Int32, q.toInt = 1 → q = 1 := fun q h => Int32.toInt_inj.mp h
  subst ha; subst hb
  intro hx
  rcases hA with ha | ha <;> rcases hB with hb | hb
  · exact ⟨ha, hb⟩
  · rw [e, h0 a ha, h1 b hb] at hx; exact absurd hx (by decide)
  · rw [e, h1 a ha, h0 b hb] at hx; exact absurd hx (by decide)
  · rw [e, h1 a ha, h1 b hb] at hx; exact absurd hx (by decide)
theorem upd_far {g : Nat → Int32} {k i : Nat} {v : Int32} (h : i ≠ k) : upd g k v i = g i := by unfold upd; rw [if_neg h]
theorem upd_at {g : Nat → Int32} {k : Nat} {v : Int32} : upd g k v k = v := by unfold upd; rw [if_pos rfl]
theorem tch_ext {tm : Int32} {tl th tl2 th2 : Nat → Int32} (h : tchOK tm tl th) (he : ∀ i : Nat, (i : Int) < tm.toInt → tl2 i = tl i ∧ th2 i = th i) : tchOK tm tl2 th2 := by
  refine ⟨fun i hi => ?_, fun i j hi hj a b => ?_⟩
  · rw [(he i hi).1, (he i hi).2]; exact h.1 i hi
  · rw [(he i hi).1, (he j hj).1] at a
    rw [(he i hi).2, (he j hj).2] at b
    exact h.2 i j hi hj a b
theorem tch_add {tm tm2 : Int32} {tl th : Nat → Int32} {k : Nat} {lf hw : Int32} (h : tchOK tm tl th) (e : tm2.toInt = tm.toInt + 1) (hl : 0 ≤ lf.toInt ∧ lf.toInt < 192) (hh : 0 ≤ hw.toInt ∧ hw.toInt < 2) (hk : (k : Int) = tm.toInt) (e1 : tl k = lf) (e2 : th k = hw) (hno : ∀ i : Nat, (i : Int) < tm.toInt → ¬ (tl i = lf ∧ th i = hw)) : tchOK tm2 tl th := by
  refine ⟨fun i hi => ?_, fun i j hi hj a b => ?_⟩
  · by_cases hq : i = k
    · subst hq; rw [e1, e2]; exact ⟨hl.1, hl.2, hh.1, hh.2⟩
    · exact h.1 i (by omega)
  · by_cases hi2 : i = k <;> by_cases hj2 : j = k
    · omega
    · subst hi2
      exact absurd ⟨a.symm.trans e1, b.symm.trans e2⟩ (hno j (by omega))
    · subst hj2
      exact absurd ⟨a.trans e1, b.trans e2⟩ (hno i (by omega))
    · exact h.2 i j (by omega) (by omega) a b
theorem xTch_mk {G : mG} {h : Nat → Nat} {f : mF} {fs : List Value} {tm : Int32} {tl th : Nat → Int32} (e0 : f (h 0) = some (.inr (6, fs))) (et : fs[19]? = some (.int tm)) (e20 : f (h 20) = some (.inl (gk G 0, 400, .inl tl))) (e21 : f (h 21) = some (.inl (gk G 0, 400, .inl th))) (hT : tchOK tm tl th) : xTch G h f := by
  intro fs' tm' tl' th' q0 qt q20 q21
  rw [e0] at q0; cases q0
  rw [et] at qt; cases qt
  rw [e20] at q20; cases q20
  rw [e21] at q21; cases q21
  exact hT
theorem IM.actAt {G : mG} {h : Nat → Nat} {n : Nat} {T : Nat → Int32} {z : Nat → Nat} {A : Nat → tA} {f : mF} (hI : IM G h n T z A f) {K : Nat} (hv : vld z K) : okA (A K) := by
  have := hI.2.2.2.2.2 (K / 32) (by have := hv.1; omega) (K % 32) hv.2
  rw [show 32 * (K / 32) + K % 32 = K by omega] at this
  exact this
theorem okA_mk6 {kd a : Int32} {b : Int64} {c d e : Int32} (k : Nat) (hk : k < 18) (ht : kd.toInt = k) (f0 : fitA k 0 a.toInt) (f1 : fitA k 1 b.toInt) (f2 : fitA k 2 c.toInt) (f3 : fitA k 3 d.toInt) (f4 : fitA k 4 e.toInt) : okA (kd, a, b, c, d, e) := okA_mk (t := (kd, a, b, c, d, e)) k hk ht f0 f1 f2 f3 f4
theorem okA_no6 {kd a : Int32} {b : Int64} {c d e : Int32} (k : Nat) (ht : kd.toInt = k) (hn : fitA k 0 a.toInt → fitA k 1 b.toInt → fitA k 2 c.toInt → fitA k 3 d.toInt → fitA k 4 e.toInt → False) : ¬ okA (kd, a, b, c, d, e) := okA_no (t := (kd, a, b, c, d, e)) k ht hn
theorem okA_rng6 {kd a : Int32} {b : Int64} {c d e : Int32} (h : okA (kd, a, b, c, d, e)) : 0 ≤ kd.toInt ∧ kd.toInt ≤ 17 := okA_rng h
theorem ic_cle {i : Nat} {k : Int32} (h : (i : Int) = k.toInt) : i = k.toNatClampNeg := by
  show i = k.toInt.toNat
  omega
end
section
theorem pNu_get {n : Nat} {T : Nat → Int32} {nu : Nat → Int64} {i : Int32} {a o j : Int} (hp : pNu n T nu) (hi : i.toInt = 192 * a + 8 * o + j) (ha : 0 ≤ a) (ha2 : a ≤ 41) (ho : 0 ≤ o) (ho2 : o < n) (hj : 0 ≤ j) (hj2 : j < 8) (hn : n ≤ 24) (hs : srtM (T o.toNat).toInt j = 1) : -3 ≤ (nu i.toNatClampNeg).toInt ∧ (nu i.toNatClampNeg).toInt < n := by
  have hc := ic_clN hi (by omega)
  have h := (hp i.toNatClampNeg (by omega)).2
  rw [show i.toNatClampNeg % 192 / 8 = o.toNat by omega, show ((i.toNatClampNeg % 8 : Nat) : Int) = j by omega] at h
  exact h (by omega) hs
theorem vld_mk {z : Nat → Nat} {b p : Nat} (hb : b < 6) (hp : p < z b) (hz : z b ≤ 32) : vld z (32 * b + p) := by
  refine ⟨by omega, ?_⟩
  rw [show (32 * b + p) % 32 = p by omega, show (32 * b + p) / 32 = b by omega]
  exact hp
theorem xTch_0 {G : mG} {h : Nat → Nat} {f : mF} {fs : List Value} (e0 : f (h 0) = some (.inr (6, fs))) (et : fs[19]? = some (.int 0)) : xTch G h f := by
  intro fs' tm' tl' th' q0 qt q20 q21
  rw [e0] at q0; cases q0
  rw [et] at qt; cases qt
  refine ⟨fun i hi => ?_, fun i j hi => ?_⟩
  · have := kI_0; omega
  · have := kI_0; omega
theorem ic_div8 {x a : Int32} {A : Int} (e : x = a / 8) (ha : a.toInt = A) (h0 : 0 ≤ A) : x.toInt = A / 8 := by
  have hr := ic_rng a
  have e1 : a = nI A.toNat := ic_inj (by omega) (by omega)
  rw [e, e1, show (8 : Int32) = nI 8 from rfl, pk_div (by omega) (by omega) (by omega), nI_toInt (by omega)]
  omega
theorem ic_rem8 {x a : Int32} {A : Int} (e : x = a - a / 8 * 8) (ha : a.toInt = A) (h0 : 0 ≤ A) : x.toInt = A % 8 := by
  have hr := ic_rng a
  have e1 : a = nI A.toNat := ic_inj (by omega) (by omega)
  rw [e, e1, show (8 : Int32) = nI 8 from rfl, pk_rem (by omega) (by omega) (by omega), nI_toInt (by omega)]
  omega
theorem okM0_b {h : Nat → Nat} {n : Nat} {e : Option va_E} {he fe ca : Int32} {ga : Int64} {wh tm wm ac th st : Int32} (ho : okM0 h n e) (F : e = some (.inr (6, [.int (nI n), .ref (h 1), .int he, .ref (h 3), .ref (h 4), .ref (h 5), .ref (h 6), .int fe, .ref (h 8), .ref (h 9), .ref (h 10), .ref (h 11), .ref (h 12), .ref (h 13), .ref (h 14), .ref (h 15), .int ca, .long ga, .int wh, .int tm, .ref (h 20), .ref (h 21), .int wm, .ref (h 23), .ref (h 24), .int ac, .ref (h 26), .ref (h 27), .int th, .int st]))) : 0 ≤ he.toInt ∧ he.toInt ≤ 40 ∧ 0 ≤ tm.toInt ∧ tm.toInt ≤ 384 ∧ 0 ≤ wm.toInt ∧ wm.toInt ≤ 192 ∧ 0 ≤ ac.toInt ∧ ac.toInt ≤ 200 := by
  obtain ⟨a1, a2, a3, a4, a5, a6, a7, a8, a9, a10, q, hb⟩ := ho
  rw [F] at q
  cases q
  exact hb
end
section
/-! the pure picture of a call: the bodies as it sees them, what is loaded, the handles, the values, what is touched (twice the leaf, one more if changed), the gift -/
abbrev tB : Type := (Nat → Int64) × (Nat → Int32)
abbrev tS : Type := (Nat → tB) × (Nat → Bool) × (Nat → Int32) × (Nat → Int64) × List Nat × Int64
abbrev bdS (s : tS) : Nat → tB := s.1
abbrev ldS (s : tS) : Nat → Bool := s.2.1
abbrev haS (s : tS) : Nat → Int32 := s.2.2.1
abbrev vaS (s : tS) : Nat → Int64 := s.2.2.2.1
abbrev trS (s : tS) : List Nat := s.2.2.2.2.1
abbrev gfS (s : tS) : Int64 := s.2.2.2.2.2
def tch (c : Nat) (l : List Nat) : List Nat := if c ∈ l then l else l ++ [c]
def sBd (s : tS) (o : Nat) (b : tB) : tS := (va_up (bdS s) o b, ldS s, haS s, vaS s, trS s, gfS s)
def sLd (s : tS) (o : Nat) : tS := (bdS s, va_up (ldS s) o true, haS s, vaS s, trS s, gfS s)
def sHa (s : tS) (x : Nat) (v : Int32) : tS := (bdS s, ldS s, va_up (haS s) x v, vaS s, trS s, gfS s)
def sVa (s : tS) (x : Nat) (v : Int64) : tS := (bdS s, ldS s, haS s, va_up (vaS s) x v, trS s, gfS s)
def sTc (s : tS) (c : Nat) : tS := (bdS s, ldS s, haS s, vaS s, tch c (trS s), gfS s)
def sGf (s : tS) (v : Int64) : tS := (bdS s, ldS s, haS s, vaS s, trS s, v)
def srt (t j : Nat) : Nat := (sortF (8 * t + j)).toNatClampNeg
def plc (j i : Nat) : Nat := (if j = 2 then 8 else 0) + i
def hob (s : tS) (hd : Nat) : Nat := (haS s hd).toNatClampNeg
/-- a handle is asked for a field of a sort: the throw, or 0 -/
def ask (T : Nat → Nat) (s : tS) (hd j st : Nat) : Nat × tS :=
  if haS s hd = -3 then (1, s) else (if srt (T (hob s hd)) j = 0 then 3 else if srt (T (hob s hd)) j = st then 0 else 2, sLd s (hob s hd))
def thn (r : Nat × tS) (k : tS → Nat × tS) : Nat × tS := if r.1 = 0 then k r.2 else r
def rdL (s : tS) (hd j : Nat) : tS := sTc s (2 * (8 * hob s hd + j))
def chL (s : tS) (hd j : Nat) : tS := sTc s (2 * (8 * hob s hd + j) + 1)
def setC (b : tB) (j : Nat) (v : Int64) : tB := (va_up b.1 j v, b.2)
def setM (b : tB) (p : Nat) (v : Int32) : tB := (b.1, va_up b.2 p v)
def renB (b : tB) (j : Nat) (v : Int64) : tB := (va_up b.1 j v, fun p => if plc j 0 ≤ p ∧ p < plc j 0 + 8 then 0 else b.2 p)
def cpyM (b1 b2 : tB) (j1 j2 m : Nat) : tB := (b2.1, va_cpy b1.2 b2.2 (plc j1 0) (plc j2 0) m)
def iRf (b : tB) (j : Nat) (v : Int64) : Nat := if b.1 j = -3 then 1 else if 0 ≤ v.toInt ∧ v.toInt < (b.1 j).toInt then 0 else 3
def pGet (T : Nat → Nat) (s : tS) (x hd j : Nat) : Nat × tS := thn (ask T s hd j 1) (fun s1 => (0, sVa (rdL s1 hd j) x ((bdS s1 (hob s1 hd)).1 j)))
def pFol (T : Nat → Nat) (s : tS) (x hd j : Nat) : Nat × tS := thn (ask T s hd j 2) (fun s1 => (0, sHa (rdL s1 hd j) x ((bdS s1 (hob s1 hd)).1 j).toInt32))
def pPut (T : Nat → Nat) (s : tS) (hd j st : Nat) (v : Int64) : Nat × tS := thn (ask T s hd j st) (fun s1 => (0, sBd (chL s1 hd j) (hob s1 hd) (setC (bdS s1 (hob s1 hd)) j v)))
def pItm (T : Nat → Nat) (s : tS) (x hd j y : Nat) : Nat × tS := thn (ask T s hd j 3) (fun s1 => thn (iRf (bdS s1 (hob s1 hd)) j (vaS s1 y), rdL s1 hd j) (fun s2 => (0, sVa s2 x ((bdS s2 (hob s2 hd)).2 (plc j (vaS s2 y).toInt.toNat)).toInt64)))
def pLay (T : Nat → Nat) (s : tS) (hd j y x : Nat) : Nat × tS := thn (ask T s hd j 3) (fun s1 => thn (iRf (bdS s1 (hob s1 hd)) j (vaS s1 y), rdL s1 hd j) (fun s2 => (0, sBd (chL s2 hd j) (hob s2 hd) (setM (bdS s2 (hob s2 hd)) (plc j (vaS s2 y).toInt.toNat) (vaS s2 x).toInt32))))
def pRow (T : Nat → Nat) (s : tS) (hd j : Nat) (v : Int64) : Nat × tS := thn (ask T s hd j 3) (fun s1 => if v.toInt < 0 then (4, s1) else if 8 < v.toInt then (8, s1) else (0, sBd (chL s1 hd j) (hob s1 hd) (renB (bdS s1 (hob s1 hd)) j v)))
def shR (b1 b2 : tB) (j1 j2 : Nat) (m : Int64) : Nat := if b1.1 j1 = -3 ∨ b2.1 j2 = -3 then 1 else if m.toInt < 0 ∨ (b1.1 j1).toInt < m.toInt ∨ (b2.1 j2).toInt < m.toInt then 3 else 0
def pShf (T : Nat → Nat) (s : tS) (h1 j1 h2 j2 y : Nat) : Nat × tS := thn (ask T s h1 j1 3) (fun s1 => thn (ask T (rdL s1 h1 j1) h2 j2 3) (fun s2 => thn (shR (bdS s2 (hob s2 h1)) (bdS s2 (hob s2 h2)) j1 j2 (vaS s2 y), rdL s2 h2 j2) (fun s3 => (0, sBd (chL s3 h2 j2) (hob s3 h2) (cpyM (bdS s3 (hob s3 h1)) (bdS s3 (hob s3 h2)) j1 j2 (vaS s3 y).toInt.toNat)))))
/-- whether two bodies of a type have the same field -/
def sameF (t j : Nat) (b1 b2 : tB) : Prop := b1.1 j = b2.1 j ∧ (srt t j = 3 → ∀ i, i < 8 → b1.2 (plc j i) = b2.2 (plc j i))
noncomputable def sameD (t j : Nat) (b1 b2 : tB) : Bool := @decide (sameF t j b1 b2) (Classical.propDecidable _)
theorem sameD_t {t j : Nat} {b1 b2 : tB} : sameD t j b1 b2 = true ↔ sameF t j b1 b2 := by unfold sameD; exact @decide_eq_true_iff _ (Classical.propDecidable _)
theorem sameD_f {t j : Nat} {b1 b2 : tB} : sameD t j b1 b2 = false ↔ ¬ sameF t j b1 b2 := by
  rw [← sameD_t]
  cases sameD t j b1 b2 <;> simp
noncomputable def lkF (t p q : Nat) : Nat → Nat → tS → Bool × tS
  | 0, _, s => (true, s)
  | m + 1, j, s => if srt t j = 0 then (true, s) else if sameD t j (bdS s p) (bdS s q) = true then lkF t p q m (j + 1) (sTc (sTc s (2 * (8 * p + j))) (2 * (8 * q + j))) else (false, sTc (sTc s (2 * (8 * p + j))) (2 * (8 * q + j)))
noncomputable def lik (T : Nat → Nat) (s : tS) (p q : Int32) : Bool × tS :=
  if p = q then (true, s) else if p = -3 ∨ q = -3 ∨ T p.toNatClampNeg ≠ T q.toNatClampNeg then (false, s)
  else lkF (T p.toNatClampNeg) p.toNatClampNeg q.toNatClampNeg 8 0 (sLd (sLd s p.toNatClampNeg) q.toNatClampNeg)
abbrev aA (t : tA) : Nat := t.2.1.toNatClampNeg
abbrev aB (t : tA) : Nat := t.2.2.1.toInt.toNat
abbrev aC (t : tA) : Nat := t.2.2.2.1.toNatClampNeg
abbrev aD (t : tA) : Nat := t.2.2.2.2.1.toNatClampNeg
abbrev aE (t : tA) : Nat := t.2.2.2.2.2.toNatClampNeg
/-- an act's work: its throw, or 0 -/
noncomputable def prf (T : Nat → Nat) (t : tA) (s : tS) : Nat × tS :=
  match t.1.toNatClampNeg with
  | 0 => (0, sVa s (aA t) t.2.2.1)
  | 1 => (0, sVa s (aA t) (vaS s (aB t) + vaS s (aC t)))
  | 2 => (0, sVa s (aA t) (vaS s (aB t) - vaS s (aC t)))
  | 3 => if vaS s (aC t) = 0 then (5, s) else (0, sVa s (aA t) (vaS s (aB t) / vaS s (aC t)))
  | 4 => pGet T s (aA t) (aB t) (aC t)
  | 5 => pPut T s (aA t) (aB t) 1 (vaS s (aC t))
  | 6 => pFol T s (aA t) (aB t) (aC t)
  | 7 => pPut T s (aA t) (aB t) 2 (haS s (aC t)).toInt64
  | 8 => pItm T s (aA t) (aB t) (aC t) (aD t)
  | 9 => pLay T s (aA t) (aB t) (aC t) (aD t)
  | 10 => pRow T s (aA t) (aB t) (vaS s (aC t))
  | 11 => pShf T s (aA t) (aB t) (aC t) (aD t) (aE t)
  | 12 => (0, sVa s (aA t) (if haS s (aB t) = haS s (aC t) then 1 else 0))
  | 13 => (0, sVa (lik T s (haS s (aB t)) (haS s (aC t))).2 (aA t) (if (lik T s (haS s (aB t)) (haS s (aC t))).1 = true then 1 else 0))
  | 14 => (0, s)
  | 15 => (0, s)
  | 16 => (0, sGf s (vaS s (aA t)))
  | _ => (6, s)
def nxt (t : tA) (p : Nat) (s : tS) : Nat :=
  match t.1.toNatClampNeg with
  | 14 => aB t
  | 15 => if 0 < (vaS s (aA t)).toInt then aB t else p + 1
  | 16 => 32
  | _ => p + 1
/-- a call's work: the throw, the act that threw, how many acts, what it leaves -/
noncomputable def rnS (T : Nat → Nat) (A : Nat → tA) (z : Nat) : Nat → Nat → Nat → tS → Nat × Nat × Nat × tS
  | 0, p, c, s => if p < z then (7, p, c, s) else (0, 0, c, s)
  | m + 1, p, c, s => if p < z then (if (prf T (A p) s).1 = 0 then rnS T A z m (nxt (A p) p s) (c + 1) (prf T (A p) s).2 else ((prf T (A p) s).1, p, c + 1, (prf T (A p) s).2)) else (0, 0, c, s)
/-! what holds of every picture -/
def okBd (n t : Nat) (b : tB) : Prop := ∀ j, j < 8 → (srt t j = 0 → b.1 j = 0) ∧ (srt t j = 2 → (b.1 j).toInt = -3 ∨ (0 ≤ (b.1 j).toInt ∧ (b.1 j).toInt < n)) ∧ (srt t j = 3 → ((b.1 j).toInt = -3 ∨ (0 ≤ (b.1 j).toInt ∧ (b.1 j).toInt ≤ 8)) ∧ ∀ i : Nat, i < 8 → (b.1 j).toInt ≤ (i : Int) → b.2 (plc j i) = 0)
def okHa (n : Nat) (x : Int32) : Prop := x.toInt = -3 ∨ (0 ≤ x.toInt ∧ x.toInt < n)
def okTc (l : List Nat) : Prop := l.Nodup ∧ ∀ c, c ∈ l → c < 384
def okS (n : Nat) (T : Nat → Nat) (s : tS) : Prop := (∀ o, o < n → okBd n (T o) (bdS s o)) ∧ (∀ x, x < 4 → okHa n (haS s x)) ∧ okTc (trS s) ∧ ∀ o, ldS s o = true → o < n
theorem okTc_tch {l : List Nat} {c : Nat} (h : okTc l) (hc : c < 384) : okTc (tch c l) := by
  unfold tch
  split
  · exact h
  · rename_i hm
    refine ⟨?_, fun d hd => ?_⟩
    · rw [List.nodup_append]
      exact ⟨h.1, by simp, fun a ha b hb => by rw [List.mem_singleton] at hb; subst hb; exact fun q => hm (q ▸ ha)⟩
    · rw [List.mem_append, List.mem_singleton] at hd
      rcases hd with hd | hd
      · exact h.2 d hd
      · subst hd; exact hc
theorem okS_tc {n : Nat} {T : Nat → Nat} {s : tS} {c : Nat} (h : okS n T s) (hc : c < 384) : okS n T (sTc s c) := ⟨h.1, h.2.1, okTc_tch h.2.2.1 hc, h.2.2.2⟩
theorem okS_ld {n o : Nat} {T : Nat → Nat} {s : tS} (h : okS n T s) (ho : o < n) : okS n T (sLd s o) := ⟨h.1, h.2.1, h.2.2.1, fun q hq => by
  by_cases e : q = o
  · rw [e]; exact ho
  · exact h.2.2.2 q (by have : va_up (ldS s) o true q = true := hq; rw [va_up_ne _ _ e] at this; exact this)⟩
theorem okS_va {n x : Nat} {T : Nat → Nat} {s : tS} {v : Int64} (h : okS n T s) : okS n T (sVa s x v) := h
theorem okS_gf {n : Nat} {T : Nat → Nat} {s : tS} {v : Int64} (h : okS n T s) : okS n T (sGf s v) := h
theorem okS_ha {n x : Nat} {T : Nat → Nat} {s : tS} {v : Int32} (h : okS n T s) (hv : okHa n v) : okS n T (sHa s x v) := ⟨h.1, fun y hy => by
  show okHa n (va_up (haS s) x v y)
  by_cases e : y = x
  · rw [e, va_up_self]; exact hv
  · rw [va_up_ne _ _ e]; exact h.2.1 y hy, h.2.2.1, h.2.2.2⟩
theorem okS_bd {n o : Nat} {T : Nat → Nat} {s : tS} {b : tB} (h : okS n T s) (hb : okBd n (T o) b) : okS n T (sBd s o b) := ⟨fun q hq => by
  show okBd n (T q) (va_up (bdS s) o b q)
  by_cases e : q = o
  · rw [e, va_up_self]; exact hb
  · rw [va_up_ne _ _ e]; exact h.1 q hq, h.2.1, h.2.2.1, h.2.2.2⟩
theorem srt_b : ∀ t, t < 3 → ∀ j, j < 8 → srt t j ≤ 3 := by decide +kernel
theorem srt_I : ∀ t, t < 3 → ∀ j, j < 8 → sortF (8 * t + j) = nI (srt t j) := by decide +kernel
theorem srt_3 : ∀ t, t < 3 → ∀ j, j < 8 → srt t j = 3 → (t = 1 ∧ j = 5) ∨ (t = 2 ∧ j = 1) ∨ (t = 2 ∧ j = 2) := by decide +kernel
theorem plc_2 (t : Nat) (ht : t < 3) (j : Nat) (hj : j < 8) (j2 : Nat) (hj2 : j2 < 8) (h : srt t j = 3 ∧ srt t j2 = 3 ∧ j ≠ j2) : (j = 2 ∧ j2 ≠ 2) ∨ (j ≠ 2 ∧ j2 = 2) := by
  have h1 := srt_3 t ht j hj h.1
  have h2 := srt_3 t ht j2 hj2 h.2.1
  have h3 := h.2.2
  omega
theorem plc_ne (t : Nat) (ht : t < 3) (j : Nat) (hj : j < 8) (j2 : Nat) (hj2 : j2 < 8) (h1 : srt t j = 3) (h2 : srt t j2 = 3) (hne : j ≠ j2) (i : Nat) (hi : i < 8) (i2 : Nat) (hi2 : i2 < 8) : plc j i ≠ plc j2 i2 := by
  rcases plc_2 t ht j hj j2 hj2 ⟨h1, h2, hne⟩ with ⟨a, b⟩ | ⟨a, b⟩
  · unfold plc; rw [if_pos a, if_neg b]; omega
  · unfold plc; rw [if_neg a, if_pos b]; omega
theorem plc_inj {j i i2 : Nat} (h : plc j i = plc j i2) : i = i2 := by unfold plc at h; omega
theorem plc_lt {j i : Nat} (h : i < 8) : plc j i < 16 := by unfold plc; split <;> omega
theorem okBd_C {n t j : Nat} {b : tB} {v : Int64} (h : okBd n t b) (h0 : srt t j ≠ 0) (h3 : srt t j ≠ 3) (h2 : srt t j = 2 → v.toInt = -3 ∨ (0 ≤ v.toInt ∧ v.toInt < n)) : okBd n t (setC b j v) := by
  intro i hi
  show (srt t i = 0 → va_up b.1 j v i = 0) ∧ _
  by_cases e : i = j
  · subst e
    refine ⟨fun q => absurd q h0, fun q => ?_, fun q => absurd q h3⟩
    show (va_up b.1 i v i).toInt = -3 ∨ (0 ≤ (va_up b.1 i v i).toInt ∧ (va_up b.1 i v i).toInt < n)
    rw [va_up_self]; exact h2 q
  · have hx : va_up b.1 j v i = b.1 i := va_up_ne _ _ e
    refine ⟨fun q => by rw [hx]; exact (h i hi).1 q, fun q => ?_, fun q => ?_⟩
    · show (va_up b.1 j v i).toInt = -3 ∨ (0 ≤ (va_up b.1 j v i).toInt ∧ (va_up b.1 j v i).toInt < n)
      rw [hx]; exact (h i hi).2.1 q
    · show ((va_up b.1 j v i).toInt = -3 ∨ (0 ≤ (va_up b.1 j v i).toInt ∧ (va_up b.1 j v i).toInt ≤ 8)) ∧ ∀ y : Nat, y < 8 → (va_up b.1 j v i).toInt ≤ (y : Int) → b.2 (plc i y) = 0
      rw [hx]; exact (h i hi).2.2 q
theorem okBd_M {n t j i : Nat} {b : tB} {v : Int32} (ht : t < 3) (hj : j < 8) (h : okBd n t b) (h3 : srt t j = 3) (hi : i < 8) (hlt : (i : Int) < (b.1 j).toInt) : okBd n t (setM b (plc j i) v) := by
  intro q hq
  refine ⟨(h q hq).1, (h q hq).2.1, fun hs => ⟨((h q hq).2.2 hs).1, fun y hy hle => ?_⟩⟩
  show va_up b.2 (plc j i) v (plc q y) = 0
  by_cases e : q = j
  · subst e
    have hle : (b.1 q).toInt ≤ y := hle
    rw [va_up_ne _ _ (fun z => by have := plc_inj z; omega)]
    exact ((h q hq).2.2 hs).2 y hy hle
  · rw [va_up_ne _ _ (plc_ne t ht q hq j hj hs h3 e y hy i hi)]
    exact ((h q hq).2.2 hs).2 y hy hle
theorem okBd_ren {n t j : Nat} {b : tB} {v : Int64} (ht : t < 3) (hj : j < 8) (h : okBd n t b) (h3 : srt t j = 3) (hv : v.toInt = -3 ∨ (0 ≤ v.toInt ∧ v.toInt ≤ 8)) : okBd n t (renB b j v) := by
  intro q hq
  by_cases e : q = j
  · subst e
    refine ⟨fun z => by omega, fun z => by omega, fun _ => ⟨?_, fun y hy _ => ?_⟩⟩
    · show (va_up b.1 q v q).toInt = -3 ∨ (0 ≤ (va_up b.1 q v q).toInt ∧ (va_up b.1 q v q).toInt ≤ 8)
      rw [va_up_self]; exact hv
    · show (if plc q 0 ≤ plc q y ∧ plc q y < plc q 0 + 8 then (0 : Int32) else b.2 (plc q y)) = 0
      rw [if_pos (by unfold plc; omega)]
  · have hx : va_up b.1 j v q = b.1 q := va_up_ne _ _ e
    refine ⟨fun z => ?_, fun z => ?_, fun hs => ?_⟩
    · show va_up b.1 j v q = 0
      rw [hx]; exact (h q hq).1 z
    · show (va_up b.1 j v q).toInt = -3 ∨ (0 ≤ (va_up b.1 j v q).toInt ∧ (va_up b.1 j v q).toInt < n)
      rw [hx]; exact (h q hq).2.1 z
    · show ((va_up b.1 j v q).toInt = -3 ∨ (0 ≤ (va_up b.1 j v q).toInt ∧ (va_up b.1 j v q).toInt ≤ 8)) ∧ ∀ y : Nat, y < 8 → (va_up b.1 j v q).toInt ≤ (y : Int) → (if plc j 0 ≤ plc q y ∧ plc q y < plc j 0 + 8 then (0 : Int32) else b.2 (plc q y)) = 0
      rw [hx]
      refine ⟨((h q hq).2.2 hs).1, fun y hy hle => ?_⟩
      split
      · rfl
      · exact ((h q hq).2.2 hs).2 y hy hle
theorem okBd_cpy {n t t1 j1 j2 m : Nat} {b1 b2 : tB} (ht : t < 3) (hj2 : j2 < 8) (h : okBd n t b2) (h3 : srt t j2 = 3) (hm : (m : Int) ≤ (b2.1 j2).toInt) : okBd n t (cpyM b1 b2 j1 j2 m) := by
  intro q hq
  refine ⟨(h q hq).1, (h q hq).2.1, fun hs => ⟨((h q hq).2.2 hs).1, fun y hy hle => ?_⟩⟩
  have hle : (b2.1 q).toInt ≤ y := hle
  have h8 := ((h j2 hj2).2.2 h3).1
  show (if plc j2 0 ≤ plc q y ∧ plc q y < plc j2 0 + m then b1.2 (plc j1 0 + (plc q y - plc j2 0)) else b2.2 (plc q y)) = 0
  rw [if_neg ?_]
  · exact ((h q hq).2.2 hs).2 y hy hle
  · intro z
    by_cases e : q = j2
    · subst e
      unfold plc at z; omega
    · have := plc_ne t ht q hq j2 hj2 hs h3 e y hy (plc q y - plc j2 0) (by omega)
      unfold plc at this z; omega
/-! asking -/
theorem okHa_ob {n : Nat} {x : Int32} (h : okHa n x) (hne : x ≠ -3) : x.toNatClampNeg < n ∧ (x.toNatClampNeg : Int) = x.toInt := by
  rcases h with h | h
  · exact absurd (Int32.toInt_inj.mp (h.trans (by decide))) hne
  · have := ic_clN (rfl : x.toInt = _) h.1
    omega
theorem ask_0 {T : Nat → Nat} {s : tS} {hd j st : Nat} (h : (ask T s hd j st).1 = 0) : haS s hd ≠ -3 ∧ srt (T (hob s hd)) j = st ∧ srt (T (hob s hd)) j ≠ 0 ∧ (ask T s hd j st).2 = sLd s (hob s hd) := by
  unfold ask at h ⊢
  by_cases h1 : haS s hd = -3
  · rw [if_pos h1] at h; cases h
  · rw [if_neg h1] at h ⊢
    have h : (if srt (T (hob s hd)) j = 0 then 3 else if srt (T (hob s hd)) j = st then 0 else 2) = 0 := h
    by_cases h2 : srt (T (hob s hd)) j = 0
    · rw [if_pos h2] at h; cases h
    · rw [if_neg h2] at h
      by_cases h3 : srt (T (hob s hd)) j = st
      · exact ⟨h1, h3, h2, rfl⟩
      · rw [if_neg h3] at h; cases h
theorem ask_ok {n hd j st : Nat} {T : Nat → Nat} {s : tS} (h : okS n T s) (hh : hd < 4) : okS n T (ask T s hd j st).2 := by
  unfold ask
  split
  · exact h
  · rename_i hne
    exact okS_ld h (okHa_ob (h.2.1 hd hh) hne).1
theorem ask_ha {T : Nat → Nat} {s : tS} {hd j st : Nat} : haS (ask T s hd j st).2 = haS s := by unfold ask; split <;> rfl
theorem ask_va {T : Nat → Nat} {s : tS} {hd j st : Nat} : vaS (ask T s hd j st).2 = vaS s := by unfold ask; split <;> rfl
theorem ask_bd {T : Nat → Nat} {s : tS} {hd j st : Nat} : bdS (ask T s hd j st).2 = bdS s := by unfold ask; split <;> rfl
theorem ask_gf {T : Nat → Nat} {s : tS} {hd j st : Nat} : gfS (ask T s hd j st).2 = gfS s := by unfold ask; split <;> rfl
theorem ask_tr {T : Nat → Nat} {s : tS} {hd j st : Nat} : trS (ask T s hd j st).2 = trS s := by unfold ask; split <;> rfl
theorem hob_ask {T : Nat → Nat} {s : tS} {hd j st hd2 : Nat} : hob (ask T s hd j st).2 hd2 = hob s hd2 := by unfold hob; rw [ask_ha]
theorem ask_n {n hd j st : Nat} {T : Nat → Nat} {s : tS} (h : okS n T s) (hh : hd < 4) (h0 : (ask T s hd j st).1 = 0) : hob s hd < n := (okHa_ob (h.2.1 hd hh) (ask_0 h0).1).1
theorem rd_ok {n hd j : Nat} {T : Nat → Nat} {s : tS} (h : okS n T s) (hn : n ≤ 24) (hj : j < 8) (ho : hob s hd < n) : okS n T (rdL s hd j) := okS_tc h (by omega)
theorem ch_ok {n hd j : Nat} {T : Nat → Nat} {s : tS} (h : okS n T s) (hn : n ≤ 24) (hj : j < 8) (ho : hob s hd < n) : okS n T (chL s hd j) := okS_tc h (by omega)
theorem thn_ok {n : Nat} {T : Nat → Nat} {r : Nat × tS} {k : tS → Nat × tS} (h : okS n T r.2) (hk : r.1 = 0 → okS n T (k r.2).2) : okS n T (thn r k).2 := by
  unfold thn
  split
  · rename_i q; exact hk q
  · exact h
theorem thn_1 {r : Nat × tS} {k : tS → Nat × tS} (h : r.1 ≠ 0) : thn r k = r := if_neg h
theorem thn_0 {r : Nat × tS} {k : tS → Nat × tS} (h : r.1 = 0) : thn r k = k r.2 := if_pos h
theorem lkF_ok {n t p q : Nat} {T : Nat → Nat} (hn : n ≤ 24) (hp : p < n) (hq : q < n) : ∀ (m j : Nat) (s : tS), j + m ≤ 8 → okS n T s → okS n T (lkF t p q m j s).2
  | 0, _, _, _, h => h
  | m + 1, j, s, hj, h => by
    have h1 : okS n T (sTc (sTc s (2 * (8 * p + j))) (2 * (8 * q + j))) := okS_tc (okS_tc h (by omega)) (by omega)
    show okS n T (if srt t j = 0 then (true, s) else if sameD t j (bdS s p) (bdS s q) = true then lkF t p q m (j + 1) (sTc (sTc s (2 * (8 * p + j))) (2 * (8 * q + j))) else (false, sTc (sTc s (2 * (8 * p + j))) (2 * (8 * q + j)))).2
    split
    · exact h
    · split
      · exact lkF_ok hn hp hq m (j + 1) _ (by omega) h1
      · exact h1
theorem lik_ok {n : Nat} {T : Nat → Nat} {s : tS} {p q : Int32} (hn : n ≤ 24) (h : okS n T s) (hp : okHa n p) (hq : okHa n q) : okS n T (lik T s p q).2 := by
  unfold lik
  split
  · exact h
  · split
    · exact h
    · rename_i h1 h2
      have hp := (okHa_ob hp (fun z => h2 (Or.inl z))).1
      have hq := (okHa_ob hq (fun z => h2 (Or.inr (Or.inl z)))).1
      exact lkF_ok hn hp hq 8 0 _ (by omega) (okS_ld (okS_ld h hp) hq)
end
section
theorem prf_0 {T : Nat → Nat} {t : tA} {s : tS} (e : t.1 = nI 0) : prf T t s = (0, sVa s (aA t) t.2.2.1) := by unfold prf; rw [show t.1.toNatClampNeg = 0 from by rw [e]; decide]; first | done | rfl
theorem nxt_0 {t : tA} {p : Nat} {s : tS} (e : t.1 = nI 0) : nxt t p s = p + 1 := by unfold nxt; rw [show t.1.toNatClampNeg = 0 from by rw [e]; decide]; first | done | rfl
theorem prf_1 {T : Nat → Nat} {t : tA} {s : tS} (e : t.1 = nI 1) : prf T t s = (0, sVa s (aA t) (vaS s (aB t) + vaS s (aC t))) := by unfold prf; rw [show t.1.toNatClampNeg = 1 from by rw [e]; decide]; first | done | rfl
theorem nxt_1 {t : tA} {p : Nat} {s : tS} (e : t.1 = nI 1) : nxt t p s = p + 1 := by unfold nxt; rw [show t.1.toNatClampNeg = 1 from by rw [e]; decide]; first | done | rfl
theorem prf_2 {T : Nat → Nat} {t : tA} {s : tS} (e : t.1 = nI 2) : prf T t s = (0, sVa s (aA t) (vaS s (aB t) - vaS s (aC t))) := by unfold prf; rw [show t.1.toNatClampNeg = 2 from by rw [e]; decide]; first | done | rfl
theorem nxt_2 {t : tA} {p : Nat} {s : tS} (e : t.1 = nI 2) : nxt t p s = p + 1 := by unfold nxt; rw [show t.1.toNatClampNeg = 2 from by rw [e]; decide]; first | done | rfl
theorem prf_3 {T : Nat → Nat} {t : tA} {s : tS} (e : t.1 = nI 3) : prf T t s = (if vaS s (aC t) = 0 then (5, s) else (0, sVa s (aA t) (vaS s (aB t) / vaS s (aC t)))) := by unfold prf; rw [show t.1.toNatClampNeg = 3 from by rw [e]; decide]; first | done | rfl
theorem nxt_3 {t : tA} {p : Nat} {s : tS} (e : t.1 = nI 3) : nxt t p s = p + 1 := by unfold nxt; rw [show t.1.toNatClampNeg = 3 from by rw [e]; decide]; first | done | rfl
theorem prf_4 {T : Nat → Nat} {t : tA} {s : tS} (e : t.1 = nI 4) : prf T t s = pGet T s (aA t) (aB t) (aC t) := by unfold prf; rw [show t.1.toNatClampNeg = 4 from by rw [e]; decide]; first | done | rfl
theorem nxt_4 {t : tA} {p : Nat} {s : tS} (e : t.1 = nI 4) : nxt t p s = p + 1 := by unfold nxt; rw [show t.1.toNatClampNeg = 4 from by rw [e]; decide]; first | done | rfl
theorem prf_5 {T : Nat → Nat} {t : tA} {s : tS} (e : t.1 = nI 5) : prf T t s = pPut T s (aA t) (aB t) 1 (vaS s (aC t)) := by unfold prf; rw [show t.1.toNatClampNeg = 5 from by rw [e]; decide]; first | done | rfl
theorem nxt_5 {t : tA} {p : Nat} {s : tS} (e : t.1 = nI 5) : nxt t p s = p + 1 := by unfold nxt; rw [show t.1.toNatClampNeg = 5 from by rw [e]; decide]; first | done | rfl
theorem prf_6 {T : Nat → Nat} {t : tA} {s : tS} (e : t.1 = nI 6) : prf T t s = pFol T s (aA t) (aB t) (aC t) := by unfold prf; rw [show t.1.toNatClampNeg = 6 from by rw [e]; decide]; first | done | rfl
theorem nxt_6 {t : tA} {p : Nat} {s : tS} (e : t.1 = nI 6) : nxt t p s = p + 1 := by unfold nxt; rw [show t.1.toNatClampNeg = 6 from by rw [e]; decide]; first | done | rfl
theorem prf_7 {T : Nat → Nat} {t : tA} {s : tS} (e : t.1 = nI 7) : prf T t s = pPut T s (aA t) (aB t) 2 (haS s (aC t)).toInt64 := by unfold prf; rw [show t.1.toNatClampNeg = 7 from by rw [e]; decide]; first | done | rfl
theorem nxt_7 {t : tA} {p : Nat} {s : tS} (e : t.1 = nI 7) : nxt t p s = p + 1 := by unfold nxt; rw [show t.1.toNatClampNeg = 7 from by rw [e]; decide]; first | done | rfl
theorem prf_8 {T : Nat → Nat} {t : tA} {s : tS} (e : t.1 = nI 8) : prf T t s = pItm T s (aA t) (aB t) (aC t) (aD t) := by unfold prf; rw [show t.1.toNatClampNeg = 8 from by rw [e]; decide]; first | done | rfl
theorem nxt_8 {t : tA} {p : Nat} {s : tS} (e : t.1 = nI 8) : nxt t p s = p + 1 := by unfold nxt; rw [show t.1.toNatClampNeg = 8 from by rw [e]; decide]; first | done | rfl
theorem prf_9 {T : Nat → Nat} {t : tA} {s : tS} (e : t.1 = nI 9) : prf T t s = pLay T s (aA t) (aB t) (aC t) (aD t) := by unfold prf; rw [show t.1.toNatClampNeg = 9 from by rw [e]; decide]; first | done | rfl
theorem nxt_9 {t : tA} {p : Nat} {s : tS} (e : t.1 = nI 9) : nxt t p s = p + 1 := by unfold nxt; rw [show t.1.toNatClampNeg = 9 from by rw [e]; decide]; first | done | rfl
theorem prf_10 {T : Nat → Nat} {t : tA} {s : tS} (e : t.1 = nI 10) : prf T t s = pRow T s (aA t) (aB t) (vaS s (aC t)) := by unfold prf; rw [show t.1.toNatClampNeg = 10 from by rw [e]; decide]; first | done | rfl
theorem nxt_10 {t : tA} {p : Nat} {s : tS} (e : t.1 = nI 10) : nxt t p s = p + 1 := by unfold nxt; rw [show t.1.toNatClampNeg = 10 from by rw [e]; decide]; first | done | rfl
theorem prf_11 {T : Nat → Nat} {t : tA} {s : tS} (e : t.1 = nI 11) : prf T t s = pShf T s (aA t) (aB t) (aC t) (aD t) (aE t) := by unfold prf; rw [show t.1.toNatClampNeg = 11 from by rw [e]; decide]; first | done | rfl
theorem nxt_11 {t : tA} {p : Nat} {s : tS} (e : t.1 = nI 11) : nxt t p s = p + 1 := by unfold nxt; rw [show t.1.toNatClampNeg = 11 from by rw [e]; decide]; first | done | rfl
theorem prf_12 {T : Nat → Nat} {t : tA} {s : tS} (e : t.1 = nI 12) : prf T t s = (0, sVa s (aA t) (if haS s (aB t) = haS s (aC t) then 1 else 0)) := by unfold prf; rw [show t.1.toNatClampNeg = 12 from by rw [e]; decide]; first | done | rfl
theorem nxt_12 {t : tA} {p : Nat} {s : tS} (e : t.1 = nI 12) : nxt t p s = p + 1 := by unfold nxt; rw [show t.1.toNatClampNeg = 12 from by rw [e]; decide]; first | done | rfl
theorem prf_13 {T : Nat → Nat} {t : tA} {s : tS} (e : t.1 = nI 13) : prf T t s = (0, sVa (lik T s (haS s (aB t)) (haS s (aC t))).2 (aA t) (if (lik T s (haS s (aB t)) (haS s (aC t))).1 = true then 1 else 0)) := by unfold prf; rw [show t.1.toNatClampNeg = 13 from by rw [e]; decide]; first | done | rfl
theorem nxt_13 {t : tA} {p : Nat} {s : tS} (e : t.1 = nI 13) : nxt t p s = p + 1 := by unfold nxt; rw [show t.1.toNatClampNeg = 13 from by rw [e]; decide]; first | done | rfl
theorem prf_14 {T : Nat → Nat} {t : tA} {s : tS} (e : t.1 = nI 14) : prf T t s = (0, s) := by unfold prf; rw [show t.1.toNatClampNeg = 14 from by rw [e]; decide]; first | done | rfl
theorem nxt_14 {t : tA} {p : Nat} {s : tS} (e : t.1 = nI 14) : nxt t p s = aB t := by unfold nxt; rw [show t.1.toNatClampNeg = 14 from by rw [e]; decide]; first | done | rfl
theorem prf_15 {T : Nat → Nat} {t : tA} {s : tS} (e : t.1 = nI 15) : prf T t s = (0, s) := by unfold prf; rw [show t.1.toNatClampNeg = 15 from by rw [e]; decide]; first | done | rfl
theorem nxt_15 {t : tA} {p : Nat} {s : tS} (e : t.1 = nI 15) : nxt t p s = (if 0 < (vaS s (aA t)).toInt then aB t else p + 1) := by unfold nxt; rw [show t.1.toNatClampNeg = 15 from by rw [e]; decide]; first | done | rfl
theorem prf_16 {T : Nat → Nat} {t : tA} {s : tS} (e : t.1 = nI 16) : prf T t s = (0, sGf s (vaS s (aA t))) := by unfold prf; rw [show t.1.toNatClampNeg = 16 from by rw [e]; decide]; first | done | rfl
theorem nxt_16 {t : tA} {p : Nat} {s : tS} (e : t.1 = nI 16) : nxt t p s = 32 := by unfold nxt; rw [show t.1.toNatClampNeg = 16 from by rw [e]; decide]; first | done | rfl
theorem prf_17 {T : Nat → Nat} {t : tA} {s : tS} (e : t.1 = nI 17) : prf T t s = (6, s) := by unfold prf; rw [show t.1.toNatClampNeg = 17 from by rw [e]; decide]; first | done | rfl
theorem nxt_17 {t : tA} {p : Nat} {s : tS} (e : t.1 = nI 17) : nxt t p s = p + 1 := by unfold nxt; rw [show t.1.toNatClampNeg = 17 from by rw [e]; decide]; first | done | rfl
theorem ask_use {n hd j st : Nat} {T : Nat → Nat} {s : tS} (h : okS n T s) (hh : hd < 4) (h0 : (ask T s hd j st).1 = 0) : okS n T (ask T s hd j st).2 ∧ hob (ask T s hd j st).2 hd < n ∧ srt (T (hob (ask T s hd j st).2 hd)) j = st ∧ srt (T (hob (ask T s hd j st).2 hd)) j ≠ 0 ∧ okBd n (T (hob (ask T s hd j st).2 hd)) (bdS (ask T s hd j st).2 (hob (ask T s hd j st).2 hd)) := by
  have h1 := ask_ok (j := j) (st := st) h hh
  have h2 := ask_n h hh h0
  have h3 := ask_0 h0
  rw [hob_ask]
  exact ⟨h1, h2, h3.2.1, h3.2.2.1, h1.1 _ h2⟩
theorem aB_nat {t : tA} {m : Nat} (h : 0 ≤ t.2.2.1.toInt ∧ t.2.2.1.toInt ≤ (m : Int)) : aB t < m + 1 := by show t.2.2.1.toInt.toNat < m + 1; omega
theorem a_nat {x : Int32} {m : Nat} (h : 0 ≤ x.toInt ∧ x.toInt ≤ (m : Int)) : x.toNatClampNeg < m + 1 := by show x.toInt.toNat < m + 1; omega
theorem iRf_0 {b : tB} {j : Nat} {v : Int64} (h : iRf b j v = 0) : 0 ≤ v.toInt ∧ v.toInt < (b.1 j).toInt := by
  unfold iRf at h
  split at h
  · cases h
  · split at h
    · assumption
    · cases h
theorem shR_0 {b1 b2 : tB} {j1 j2 : Nat} {m : Int64} (h : shR b1 b2 j1 j2 m = 0) : 0 ≤ m.toInt ∧ m.toInt ≤ (b1.1 j1).toInt ∧ m.toInt ≤ (b2.1 j2).toInt := by
  unfold shR at h
  split at h
  · cases h
  · split at h
    · cases h
    · rename_i q; omega
section PK
variable {n : Nat} {T : Nat → Nat} {s : tS}
theorem pGet_ok {x hd j : Nat} (hn : n ≤ 24) (h : okS n T s) (hh : hd < 4) (hj : j < 8) : okS n T (pGet T s x hd j).2 :=
  thn_ok (ask_ok h hh) (fun q => okS_va (rd_ok (ask_use h hh q).1 hn hj (ask_use h hh q).2.1))
theorem pFol_ok {x hd j : Nat} (hn : n ≤ 24) (h : okS n T s) (hh : hd < 4) (hj : j < 8) : okS n T (pFol T s x hd j).2 :=
  thn_ok (ask_ok h hh) (fun q => okS_ha (rd_ok (ask_use h hh q).1 hn hj (ask_use h hh q).2.1) (by
    have hb := ((ask_use h hh q).2.2.2.2 j hj).2.1 (ask_use h hh q).2.2.1
    have e := ic_l2i (y := ((bdS (ask T s hd j 2).2 (hob (ask T s hd j 2).2 hd)).1 j).toInt32) rfl rfl (by omega) (by omega)
    unfold okHa
    omega))
theorem pPut_ok {hd j st : Nat} {v : Int64} (hn : n ≤ 24) (h : okS n T s) (hh : hd < 4) (hj : j < 8) (hs : st ≠ 3) (hv : st = 2 → v.toInt = -3 ∨ (0 ≤ v.toInt ∧ v.toInt < n)) : okS n T (pPut T s hd j st v).2 :=
  thn_ok (ask_ok h hh) (fun q => okS_bd (ch_ok (ask_use h hh q).1 hn hj (ask_use h hh q).2.1) (okBd_C (ask_use h hh q).2.2.2.2 (ask_use h hh q).2.2.2.1 (by rw [(ask_use h hh q).2.2.1]; exact hs) (by rw [(ask_use h hh q).2.2.1]; exact hv)))
theorem pItm_ok {x hd j y : Nat} (hn : n ≤ 24) (h : okS n T s) (hh : hd < 4) (hj : j < 8) : okS n T (pItm T s x hd j y).2 :=
  thn_ok (ask_ok h hh) (fun q => thn_ok (rd_ok (ask_use h hh q).1 hn hj (ask_use h hh q).2.1) (fun _ => okS_va (rd_ok (ask_use h hh q).1 hn hj (ask_use h hh q).2.1)))
theorem pLay_ok {hd j y x : Nat} (hn : n ≤ 24) (hT : ∀ o, T o < 3) (h : okS n T s) (hh : hd < 4) (hj : j < 8) : okS n T (pLay T s hd j y x).2 := by
  refine thn_ok (ask_ok h hh) (fun q => ?_)
  obtain ⟨a1, a2, a3, a4, a5⟩ := ask_use h hh q
  generalize (ask T s hd j 3).2 = s1 at a1 a2 a3 a4 a5
  refine thn_ok (rd_ok a1 hn hj a2) (fun q2 => ?_)
  have q2 : iRf (bdS s1 (hob s1 hd)) j (vaS s1 y) = 0 := q2
  have hb := iRf_0 q2
  have h8 := ((a5 j hj).2.2 a3).1
  exact okS_bd (s := chL (rdL s1 hd j) hd j) (o := hob s1 hd) (ch_ok (rd_ok a1 hn hj a2) hn hj a2) (okBd_M (i := (vaS s1 y).toInt.toNat) (b := bdS s1 (hob s1 hd)) (hT _) hj a5 a3 (by omega) (by omega))
theorem pRow_ok {hd j : Nat} {v : Int64} (hn : n ≤ 24) (hT : ∀ o, T o < 3) (h : okS n T s) (hh : hd < 4) (hj : j < 8) : okS n T (pRow T s hd j v).2 := by
  refine thn_ok (ask_ok h hh) (fun q => ?_)
  obtain ⟨a1, a2, a3, a4, a5⟩ := ask_use h hh q
  generalize (ask T s hd j 3).2 = s1 at a1 a2 a3 a4 a5
  show okS n T (if v.toInt < 0 then (4, s1) else if 8 < v.toInt then (8, s1) else (0, sBd (chL s1 hd j) (hob s1 hd) (renB (bdS s1 (hob s1 hd)) j v))).2
  split
  · exact a1
  · split
    · exact a1
    · exact okS_bd (ch_ok a1 hn hj a2) (okBd_ren (hT _) hj a5 a3 (by omega))
theorem pShf_ok {h1 j1 h2 j2 y : Nat} (hn : n ≤ 24) (hT : ∀ o, T o < 3) (h : okS n T s) (hh1 : h1 < 4) (hj1 : j1 < 8) (hh2 : h2 < 4) (hj2 : j2 < 8) : okS n T (pShf T s h1 j1 h2 j2 y).2 := by
  refine thn_ok (ask_ok h hh1) (fun q => ?_)
  obtain ⟨a1, a2, a3, a4, a5⟩ := ask_use h hh1 q
  generalize (ask T s h1 j1 3).2 = s1 at a1 a2 a3 a4 a5
  have b1 : okS n T (rdL s1 h1 j1) := rd_ok a1 hn hj1 a2
  refine thn_ok (ask_ok b1 hh2) (fun q2 => ?_)
  obtain ⟨c1, c2, c3, c4, c5⟩ := ask_use b1 hh2 q2
  generalize (ask T (rdL s1 h1 j1) h2 j2 3).2 = s2 at c1 c2 c3 c4 c5
  refine thn_ok (rd_ok c1 hn hj2 c2) (fun q3 => ?_)
  have q3 : shR (bdS s2 (hob s2 h1)) (bdS s2 (hob s2 h2)) j1 j2 (vaS s2 y) = 0 := q3
  have hb := shR_0 q3
  exact okS_bd (s := chL (rdL s2 h2 j2) h2 j2) (o := hob s2 h2) (ch_ok (rd_ok c1 hn hj2 c2) hn hj2 c2) (okBd_cpy (t1 := 0) (hT _) hj2 c5 c3 (by show (((vaS s2 y).toInt.toNat : Nat) : Int) ≤ ((bdS s2 (hob s2 h2)).1 j2).toInt; omega))
end PK
theorem prf_ok {n : Nat} {T : Nat → Nat} {t : tA} {s : tS} (hn : n ≤ 24) (hT : ∀ o, T o < 3) (h : okS n T s) (ht : okA t) : okS n T (prf T t s).2 := by
  obtain ⟨κ, hκ, e1, f0, f1, f2, f3, f4⟩ := ht
  have hc : κ = 0 ∨ κ = 1 ∨ κ = 2 ∨ κ = 3 ∨ κ = 4 ∨ κ = 5 ∨ κ = 6 ∨ κ = 7 ∨ κ = 8 ∨ κ = 9 ∨ κ = 10 ∨ κ = 11 ∨ κ = 12 ∨ κ = 13 ∨ κ = 14 ∨ κ = 15 ∨ κ = 16 ∨ κ = 17 := by omega
  rcases hc with rfl | rfl | rfl | rfl | rfl | rfl | rfl | rfl | rfl | rfl | rfl | rfl | rfl | rfl | rfl | rfl | rfl | rfl
  · rw [prf_0 e1]
    exact okS_va h
  · rw [prf_1 e1]
    exact okS_va h
  · rw [prf_2 e1]
    exact okS_va h
  · rw [prf_3 e1]
    split <;> first | exact h | exact okS_va h
  · rw [prf_4 e1]
    have g0 : aA t < 4 := a_nat (fit_get (m := 3) rfl (by decide) kI_3 f0)
    have g1 : aB t < 4 := aB_nat (fit_get (m := 3) rfl (by decide) kI_3 f1)
    have g2 : aC t < 8 := a_nat (fit_get (m := 7) rfl (by decide) kI_7 f2)
    exact pGet_ok hn h g1 g2
  · rw [prf_5 e1]
    have g0 : aA t < 4 := a_nat (fit_get (m := 3) rfl (by decide) kI_3 f0)
    have g1 : aB t < 8 := aB_nat (fit_get (m := 7) rfl (by decide) kI_7 f1)
    have g2 : aC t < 4 := a_nat (fit_get (m := 3) rfl (by decide) kI_3 f2)
    exact pPut_ok hn h g0 g1 (by decide) (fun q => by cases q)
  · rw [prf_6 e1]
    have g0 : aA t < 4 := a_nat (fit_get (m := 3) rfl (by decide) kI_3 f0)
    have g1 : aB t < 4 := aB_nat (fit_get (m := 3) rfl (by decide) kI_3 f1)
    have g2 : aC t < 8 := a_nat (fit_get (m := 7) rfl (by decide) kI_7 f2)
    exact pFol_ok hn h g1 g2
  · rw [prf_7 e1]
    have g0 : aA t < 4 := a_nat (fit_get (m := 3) rfl (by decide) kI_3 f0)
    have g1 : aB t < 8 := aB_nat (fit_get (m := 7) rfl (by decide) kI_7 f1)
    have g2 : aC t < 4 := a_nat (fit_get (m := 3) rfl (by decide) kI_3 f2)
    exact pPut_ok hn h g0 g1 (by decide) (fun _ => by rw [Int32.toInt_toInt64]; exact h.2.1 _ g2)
  · rw [prf_8 e1]
    have g0 : aA t < 4 := a_nat (fit_get (m := 3) rfl (by decide) kI_3 f0)
    have g1 : aB t < 4 := aB_nat (fit_get (m := 3) rfl (by decide) kI_3 f1)
    have g2 : aC t < 8 := a_nat (fit_get (m := 7) rfl (by decide) kI_7 f2)
    have g3 : aD t < 4 := a_nat (fit_get (m := 3) rfl (by decide) kI_3 f3)
    exact pItm_ok hn h g1 g2
  · rw [prf_9 e1]
    have g0 : aA t < 4 := a_nat (fit_get (m := 3) rfl (by decide) kI_3 f0)
    have g1 : aB t < 8 := aB_nat (fit_get (m := 7) rfl (by decide) kI_7 f1)
    have g2 : aC t < 4 := a_nat (fit_get (m := 3) rfl (by decide) kI_3 f2)
    have g3 : aD t < 4 := a_nat (fit_get (m := 3) rfl (by decide) kI_3 f3)
    exact pLay_ok hn hT h g0 g1
  · rw [prf_10 e1]
    have g0 : aA t < 4 := a_nat (fit_get (m := 3) rfl (by decide) kI_3 f0)
    have g1 : aB t < 8 := aB_nat (fit_get (m := 7) rfl (by decide) kI_7 f1)
    have g2 : aC t < 4 := a_nat (fit_get (m := 3) rfl (by decide) kI_3 f2)
    exact pRow_ok hn hT h g0 g1
  · rw [prf_11 e1]
    have g0 : aA t < 4 := a_nat (fit_get (m := 3) rfl (by decide) kI_3 f0)
    have g1 : aB t < 8 := aB_nat (fit_get (m := 7) rfl (by decide) kI_7 f1)
    have g2 : aC t < 4 := a_nat (fit_get (m := 3) rfl (by decide) kI_3 f2)
    have g3 : aD t < 8 := a_nat (fit_get (m := 7) rfl (by decide) kI_7 f3)
    have g4 : aE t < 4 := a_nat (fit_get (m := 3) rfl (by decide) kI_3 f4)
    exact pShf_ok hn hT h g0 g1 g2 g3
  · rw [prf_12 e1]
    exact okS_va h
  · rw [prf_13 e1]
    have g0 : aA t < 4 := a_nat (fit_get (m := 3) rfl (by decide) kI_3 f0)
    have g1 : aB t < 4 := aB_nat (fit_get (m := 3) rfl (by decide) kI_3 f1)
    have g2 : aC t < 4 := a_nat (fit_get (m := 3) rfl (by decide) kI_3 f2)
    exact okS_va (lik_ok hn h (h.2.1 _ g1) (h.2.1 _ g2))
  · rw [prf_14 e1]
    exact h
  · rw [prf_15 e1]
    exact h
  · rw [prf_16 e1]
    exact okS_gf h
  · rw [prf_17 e1]
    exact h
theorem nxt_ok {t : tA} {p : Nat} {s : tS} (hp : p < 32) (ht : okA t) : nxt t p s ≤ 32 := by
  obtain ⟨κ, hκ, e1, f0, f1, f2, f3, f4⟩ := ht
  have hc : κ = 14 ∨ κ = 15 ∨ κ = 16 ∨ (κ ≠ 14 ∧ κ ≠ 15 ∧ κ ≠ 16) := by omega
  rcases hc with rfl | rfl | rfl | hc
  · rw [nxt_14 e1]; have := aB_nat (m := 32) (fit_get (m := 32) rfl (by decide) kI_32 f1); omega
  · rw [nxt_15 e1]; have := aB_nat (m := 32) (fit_get (m := 32) rfl (by decide) kI_32 f1); split <;> omega
  · rw [nxt_16 e1]; omega
  · unfold nxt
    have e2 : t.1.toNatClampNeg = κ := by rw [e1]; show (nI κ).toInt.toNat = κ; rw [nI_toInt (by omega)]; omega
    rw [e2]
    split <;> first | omega | exact absurd rfl hc.1 | exact absurd rfl hc.2.1 | exact absurd rfl hc.2.2
theorem rnS_ok {n z : Nat} {T : Nat → Nat} {A : Nat → tA} (hn : n ≤ 24) (hT : ∀ o, T o < 3) (hA : ∀ p, p < z → okA (A p)) : ∀ (m p c : Nat) (s : tS), okS n T s → okS n T (rnS T A z m p c s).2.2.2
  | 0, p, c, s, h => by unfold rnS; split <;> exact h
  | m + 1, p, c, s, h => by
    unfold rnS
    split
    · rename_i hp
      split
      · exact rnS_ok hn hT hA m _ _ _ (prf_ok hn hT h (hA p hp))
      · exact prf_ok hn hT h (hA p hp)
    · exact h
end
section
/-! what is loaded does not show in what a call does -/
def eS (s1 s2 : tS) : Prop := s1.1 = s2.1 ∧ s1.2.2 = s2.2.2
def pE (r1 r2 : Nat × tS) : Prop := r1.1 = r2.1 ∧ eS r1.2 r2.2
theorem eS.rf {s : tS} : eS s s := ⟨rfl, rfl⟩
theorem eS_el {P : tS → tS → Prop} (h : ∀ b l1 l2 r, P (b, l1, r) (b, l2, r)) {s1 s2 : tS} (e : eS s1 s2) : P s1 s2 := by
  obtain ⟨b1, l1, r1⟩ := s1
  obtain ⟨b2, l2, r2⟩ := s2
  obtain ⟨e1, e2⟩ := e
  have e1 : b1 = b2 := e1
  have e2 : r1 = r2 := e2
  subst e1 e2
  exact h b1 l1 l2 r1
theorem thn_e {r1 r2 : Nat × tS} {k : tS → Nat × tS} (h : pE r1 r2) (hk : ∀ s1 s2, eS s1 s2 → pE (k s1) (k s2)) : pE (thn r1 k) (thn r2 k) := by
  by_cases h0 : r1.1 = 0
  · rw [thn_0 h0, thn_0 (h.1 ▸ h0)]; exact hk _ _ h.2
  · rw [thn_1 h0, thn_1 (h.1 ▸ h0)]; exact h
theorem ask_e {T : Nat → Nat} {hd j st : Nat} {s1 s2 : tS} (e : eS s1 s2) : pE (ask T s1 hd j st) (ask T s2 hd j st) := by
  refine eS_el (P := fun s1 s2 => pE (ask T s1 hd j st) (ask T s2 hd j st)) (fun b l1 l2 r => ?_) e
  unfold ask
  by_cases h : r.1 hd = -3
  · rw [if_pos (show haS (b, l1, r) hd = -3 from h), if_pos (show haS (b, l2, r) hd = -3 from h)]; exact ⟨rfl, rfl, rfl⟩
  · rw [if_neg (show ¬ haS (b, l1, r) hd = -3 from h), if_neg (show ¬ haS (b, l2, r) hd = -3 from h)]; exact ⟨rfl, rfl, rfl⟩
section EQ
variable {T : Nat → Nat} {s1 s2 : tS}
theorem pGet_e {x hd j : Nat} (e : eS s1 s2) : pE (pGet T s1 x hd j) (pGet T s2 x hd j) := thn_e (ask_e e) (fun _ _ e => eS_el (P := fun s1 s2 => pE (0, sVa (rdL s1 hd j) x ((bdS s1 (hob s1 hd)).1 j)) (0, sVa (rdL s2 hd j) x ((bdS s2 (hob s2 hd)).1 j))) (fun _ _ _ _ => ⟨rfl, rfl, rfl⟩) e)
theorem pFol_e {x hd j : Nat} (e : eS s1 s2) : pE (pFol T s1 x hd j) (pFol T s2 x hd j) := thn_e (ask_e e) (fun _ _ e => eS_el (P := fun s1 s2 => pE (0, sHa (rdL s1 hd j) x ((bdS s1 (hob s1 hd)).1 j).toInt32) (0, sHa (rdL s2 hd j) x ((bdS s2 (hob s2 hd)).1 j).toInt32)) (fun _ _ _ _ => ⟨rfl, rfl, rfl⟩) e)
theorem pPut_e {hd j st : Nat} {v : Int64} (e : eS s1 s2) : pE (pPut T s1 hd j st v) (pPut T s2 hd j st v) := thn_e (ask_e e) (fun _ _ e => eS_el (P := fun s1 s2 => pE (0, sBd (chL s1 hd j) (hob s1 hd) (setC (bdS s1 (hob s1 hd)) j v)) (0, sBd (chL s2 hd j) (hob s2 hd) (setC (bdS s2 (hob s2 hd)) j v))) (fun _ _ _ _ => ⟨rfl, rfl, rfl⟩) e)
theorem pItm_e {x hd j y : Nat} (e : eS s1 s2) : pE (pItm T s1 x hd j y) (pItm T s2 x hd j y) := thn_e (ask_e e) (fun _ _ e => thn_e (eS_el (P := fun s1 s2 => pE (iRf (bdS s1 (hob s1 hd)) j (vaS s1 y), rdL s1 hd j) (iRf (bdS s2 (hob s2 hd)) j (vaS s2 y), rdL s2 hd j)) (fun _ _ _ _ => ⟨rfl, rfl, rfl⟩) e) (fun _ _ e => eS_el (P := fun s1 s2 => pE (0, sVa s1 x ((bdS s1 (hob s1 hd)).2 (plc j (vaS s1 y).toInt.toNat)).toInt64) (0, sVa s2 x ((bdS s2 (hob s2 hd)).2 (plc j (vaS s2 y).toInt.toNat)).toInt64)) (fun _ _ _ _ => ⟨rfl, rfl, rfl⟩) e))
theorem pLay_e {hd j y x : Nat} (e : eS s1 s2) : pE (pLay T s1 hd j y x) (pLay T s2 hd j y x) := thn_e (ask_e e) (fun _ _ e => thn_e (eS_el (P := fun s1 s2 => pE (iRf (bdS s1 (hob s1 hd)) j (vaS s1 y), rdL s1 hd j) (iRf (bdS s2 (hob s2 hd)) j (vaS s2 y), rdL s2 hd j)) (fun _ _ _ _ => ⟨rfl, rfl, rfl⟩) e) (fun _ _ e => eS_el (P := fun s1 s2 => pE (0, sBd (chL s1 hd j) (hob s1 hd) (setM (bdS s1 (hob s1 hd)) (plc j (vaS s1 y).toInt.toNat) (vaS s1 x).toInt32)) (0, sBd (chL s2 hd j) (hob s2 hd) (setM (bdS s2 (hob s2 hd)) (plc j (vaS s2 y).toInt.toNat) (vaS s2 x).toInt32))) (fun _ _ _ _ => ⟨rfl, rfl, rfl⟩) e))
theorem pRow_e {hd j : Nat} {v : Int64} (e : eS s1 s2) : pE (pRow T s1 hd j v) (pRow T s2 hd j v) := thn_e (ask_e e) (fun _ _ e => by
  refine eS_el (P := fun s1 s2 => pE (if v.toInt < 0 then (4, s1) else if 8 < v.toInt then (8, s1) else (0, sBd (chL s1 hd j) (hob s1 hd) (renB (bdS s1 (hob s1 hd)) j v))) (if v.toInt < 0 then (4, s2) else if 8 < v.toInt then (8, s2) else (0, sBd (chL s2 hd j) (hob s2 hd) (renB (bdS s2 (hob s2 hd)) j v)))) (fun _ _ _ _ => ?_) e
  by_cases h1 : v.toInt < 0
  · rw [if_pos h1, if_pos h1]; exact ⟨rfl, rfl, rfl⟩
  · rw [if_neg h1, if_neg h1]
    by_cases h2 : 8 < v.toInt
    · rw [if_pos h2, if_pos h2]; exact ⟨rfl, rfl, rfl⟩
    · rw [if_neg h2, if_neg h2]; exact ⟨rfl, rfl, rfl⟩)
theorem pShf_e {h1 j1 h2 j2 y : Nat} (e : eS s1 s2) : pE (pShf T s1 h1 j1 h2 j2 y) (pShf T s2 h1 j1 h2 j2 y) := thn_e (ask_e e) (fun _ _ e => thn_e (ask_e (eS_el (P := fun s1 s2 => eS (rdL s1 h1 j1) (rdL s2 h1 j1)) (fun _ _ _ _ => ⟨rfl, rfl⟩) e)) (fun _ _ e => thn_e (eS_el (P := fun s1 s2 => pE (shR (bdS s1 (hob s1 h1)) (bdS s1 (hob s1 h2)) j1 j2 (vaS s1 y), rdL s1 h2 j2) (shR (bdS s2 (hob s2 h1)) (bdS s2 (hob s2 h2)) j1 j2 (vaS s2 y), rdL s2 h2 j2)) (fun _ _ _ _ => ⟨rfl, rfl, rfl⟩) e) (fun _ _ e => eS_el (P := fun s1 s2 => pE (0, sBd (chL s1 h2 j2) (hob s1 h2) (cpyM (bdS s1 (hob s1 h1)) (bdS s1 (hob s1 h2)) j1 j2 (vaS s1 y).toInt.toNat)) (0, sBd (chL s2 h2 j2) (hob s2 h2) (cpyM (bdS s2 (hob s2 h1)) (bdS s2 (hob s2 h2)) j1 j2 (vaS s2 y).toInt.toNat))) (fun _ _ _ _ => ⟨rfl, rfl, rfl⟩) e)))
theorem lkF_e {t p q : Nat} : ∀ (m j : Nat) (s1 s2 : tS), eS s1 s2 → (lkF t p q m j s1).1 = (lkF t p q m j s2).1 ∧ eS (lkF t p q m j s1).2 (lkF t p q m j s2).2
  | 0, _, _, _, e => ⟨rfl, e⟩
  | m + 1, j, s1, s2, e => by
    refine eS_el (P := fun s1 s2 => (lkF t p q (m + 1) j s1).1 = (lkF t p q (m + 1) j s2).1 ∧ eS (lkF t p q (m + 1) j s1).2 (lkF t p q (m + 1) j s2).2) (fun b l1 l2 r => ?_) e
    unfold lkF
    by_cases h0 : srt t j = 0
    · rw [if_pos h0, if_pos h0]; exact ⟨rfl, rfl, rfl⟩
    · rw [if_neg h0, if_neg h0]
      by_cases h1 : sameD t j (b p) (b q) = true
      · rw [if_pos (show sameD t j (bdS (b, l1, r) p) (bdS (b, l1, r) q) = true from h1), if_pos (show sameD t j (bdS (b, l2, r) p) (bdS (b, l2, r) q) = true from h1)]
        exact lkF_e m (j + 1) _ _ ⟨rfl, rfl⟩
      · rw [if_neg (show ¬ sameD t j (bdS (b, l1, r) p) (bdS (b, l1, r) q) = true from h1), if_neg (show ¬ sameD t j (bdS (b, l2, r) p) (bdS (b, l2, r) q) = true from h1)]
        exact ⟨rfl, rfl, rfl⟩
theorem lik_e {p q : Int32} (e : eS s1 s2) : (lik T s1 p q).1 = (lik T s2 p q).1 ∧ eS (lik T s1 p q).2 (lik T s2 p q).2 := by
  unfold lik
  by_cases h1 : p = q
  · rw [if_pos h1, if_pos h1]; exact ⟨rfl, e⟩
  · rw [if_neg h1, if_neg h1]
    by_cases h2 : p = -3 ∨ q = -3 ∨ T p.toNatClampNeg ≠ T q.toNatClampNeg
    · rw [if_pos h2, if_pos h2]; exact ⟨rfl, e⟩
    · rw [if_neg h2, if_neg h2]
      exact lkF_e 8 0 _ _ (eS_el (P := fun s1 s2 => eS (sLd (sLd s1 p.toNatClampNeg) q.toNatClampNeg) (sLd (sLd s2 p.toNatClampNeg) q.toNatClampNeg)) (fun _ _ _ _ => ⟨rfl, rfl⟩) e)
theorem prf_e {t : tA} (e : eS s1 s2) (ht : okA t) : pE (prf T t s1) (prf T t s2) := by
  obtain ⟨κ, hκ, e1, -, -, -, -, -⟩ := ht
  have hc : κ = 0 ∨ κ = 1 ∨ κ = 2 ∨ κ = 3 ∨ κ = 4 ∨ κ = 5 ∨ κ = 6 ∨ κ = 7 ∨ κ = 8 ∨ κ = 9 ∨ κ = 10 ∨ κ = 11 ∨ κ = 12 ∨ κ = 13 ∨ κ = 14 ∨ κ = 15 ∨ κ = 16 ∨ κ = 17 := by omega
  have hv : vaS s1 = vaS s2 := by show s1.2.2.2.1 = s2.2.2.2.1; rw [e.2]
  have hh : haS s1 = haS s2 := by show s1.2.2.1 = s2.2.2.1; rw [e.2]
  have hS : ∀ x v, eS (sVa s1 x v) (sVa s2 x v) := fun x v => eS_el (P := fun s1 s2 => eS (sVa s1 x v) (sVa s2 x v)) (fun _ _ _ _ => ⟨rfl, rfl⟩) e
  rcases hc with rfl | rfl | rfl | rfl | rfl | rfl | rfl | rfl | rfl | rfl | rfl | rfl | rfl | rfl | rfl | rfl | rfl | rfl
  · rw [prf_0 e1, prf_0 e1]; exact ⟨rfl, hS _ _⟩
  · rw [prf_1 e1, prf_1 e1, hv]; exact ⟨rfl, hS _ _⟩
  · rw [prf_2 e1, prf_2 e1, hv]; exact ⟨rfl, hS _ _⟩
  · rw [prf_3 e1, prf_3 e1, hv]
    by_cases h : vaS s2 (aC t) = 0
    · rw [if_pos h, if_pos h]; exact ⟨rfl, e⟩
    · rw [if_neg h, if_neg h]; exact ⟨rfl, hS _ _⟩
  · rw [prf_4 e1, prf_4 e1]; exact pGet_e e
  · rw [prf_5 e1, prf_5 e1, hv]; exact pPut_e e
  · rw [prf_6 e1, prf_6 e1]; exact pFol_e e
  · rw [prf_7 e1, prf_7 e1, hh]; exact pPut_e e
  · rw [prf_8 e1, prf_8 e1]; exact pItm_e e
  · rw [prf_9 e1, prf_9 e1]; exact pLay_e e
  · rw [prf_10 e1, prf_10 e1, hv]; exact pRow_e e
  · rw [prf_11 e1, prf_11 e1]; exact pShf_e e
  · rw [prf_12 e1, prf_12 e1, hh]; exact ⟨rfl, hS _ _⟩
  · rw [prf_13 e1, prf_13 e1, hh]
    have hl := lik_e (T := T) (p := haS s2 (aB t)) (q := haS s2 (aC t)) e
    rw [hl.1]
    exact ⟨rfl, eS_el (P := fun s1 s2 => eS (sVa s1 (aA t) _) (sVa s2 (aA t) _)) (fun _ _ _ _ => ⟨rfl, rfl⟩) hl.2⟩
  · rw [prf_14 e1, prf_14 e1]; exact ⟨rfl, e⟩
  · rw [prf_15 e1, prf_15 e1]; exact ⟨rfl, e⟩
  · rw [prf_16 e1, prf_16 e1, hv]
    exact ⟨rfl, eS_el (P := fun s1 s2 => eS (sGf s1 _) (sGf s2 _)) (fun _ _ _ _ => ⟨rfl, rfl⟩) e⟩
  · rw [prf_17 e1, prf_17 e1]; exact ⟨rfl, e⟩
theorem nxt_e {t : tA} {p : Nat} (e : eS s1 s2) : nxt t p s1 = nxt t p s2 := by
  have hv : vaS s1 = vaS s2 := by show s1.2.2.2.1 = s2.2.2.2.1; rw [e.2]
  unfold nxt
  rw [hv]
end EQ
theorem rnS_e {z : Nat} {T : Nat → Nat} {A : Nat → tA} (hA : ∀ p, p < z → okA (A p)) : ∀ (m p c : Nat) (s1 s2 : tS), eS s1 s2 → (rnS T A z m p c s1).1 = (rnS T A z m p c s2).1 ∧ (rnS T A z m p c s1).2.1 = (rnS T A z m p c s2).2.1 ∧ (rnS T A z m p c s1).2.2.1 = (rnS T A z m p c s2).2.2.1 ∧ eS (rnS T A z m p c s1).2.2.2 (rnS T A z m p c s2).2.2.2
  | 0, p, c, s1, s2, e => by
    unfold rnS
    by_cases h : p < z
    · rw [if_pos h, if_pos h]; exact ⟨rfl, rfl, rfl, e⟩
    · rw [if_neg h, if_neg h]; exact ⟨rfl, rfl, rfl, e⟩
  | m + 1, p, c, s1, s2, e => by
    unfold rnS
    by_cases h : p < z
    · rw [if_pos h, if_pos h]
      have hp := prf_e (T := T) e (hA p h)
      by_cases h0 : (prf T (A p) s2).1 = 0
      · rw [if_pos (hp.1.trans h0), if_pos h0, nxt_e e]
        exact rnS_e hA m _ _ _ _ hp.2
      · rw [if_neg (fun q => h0 (hp.1.symm.trans q)), if_neg h0]
        exact ⟨hp.1, rfl, rfl, hp.2⟩
    · rw [if_neg h, if_neg h]; exact ⟨rfl, rfl, rfl, e⟩
/-! the gift: none where the call throws -/
theorem thn_gf {r : Nat × tS} {k : tS → Nat × tS} {g : Int64} (h : gfS r.2 = g) (hk : gfS (k r.2).2 = gfS r.2) : gfS (thn r k).2 = g := by
  unfold thn
  split
  · exact hk.trans h
  · exact h
theorem lkF_gf {t p q : Nat} : ∀ (m j : Nat) (s : tS), gfS (lkF t p q m j s).2 = gfS s
  | 0, _, _ => rfl
  | m + 1, j, s => by
    unfold lkF
    split
    · rfl
    · split
      · exact lkF_gf m (j + 1) _
      · rfl
theorem lik_gf {T : Nat → Nat} {s : tS} {p q : Int32} : gfS (lik T s p q).2 = gfS s := by
  unfold lik
  split
  · rfl
  · split
    · rfl
    · exact lkF_gf 8 0 _
theorem prf_gf {T : Nat → Nat} {t : tA} {s : tS} (ht : okA t) (h16 : t.1 ≠ nI 16) : gfS (prf T t s).2 = gfS s := by
  obtain ⟨κ, hκ, e1, -, -, -, -, -⟩ := ht
  have hc : κ = 0 ∨ κ = 1 ∨ κ = 2 ∨ κ = 3 ∨ κ = 4 ∨ κ = 5 ∨ κ = 6 ∨ κ = 7 ∨ κ = 8 ∨ κ = 9 ∨ κ = 10 ∨ κ = 11 ∨ κ = 12 ∨ κ = 13 ∨ κ = 14 ∨ κ = 15 ∨ κ = 16 ∨ κ = 17 := by omega
  rcases hc with rfl | rfl | rfl | rfl | rfl | rfl | rfl | rfl | rfl | rfl | rfl | rfl | rfl | rfl | rfl | rfl | rfl | rfl
  · rw [prf_0 e1]; rfl
  · rw [prf_1 e1]; rfl
  · rw [prf_2 e1]; rfl
  · rw [prf_3 e1]; split <;> rfl
  · rw [prf_4 e1]; exact thn_gf ask_gf rfl
  · rw [prf_5 e1]; exact thn_gf ask_gf rfl
  · rw [prf_6 e1]; exact thn_gf ask_gf rfl
  · rw [prf_7 e1]; exact thn_gf ask_gf rfl
  · rw [prf_8 e1]; exact thn_gf ask_gf (thn_gf rfl rfl)
  · rw [prf_9 e1]; exact thn_gf ask_gf (thn_gf rfl rfl)
  · rw [prf_10 e1]
    refine thn_gf ask_gf ?_
    show gfS (if (vaS s (aC t)).toInt < 0 then (4, _) else if 8 < (vaS s (aC t)).toInt then (8, _) else (0, _) : Nat × tS).2 = _
    split
    · rfl
    · split <;> rfl
  · rw [prf_11 e1]; exact thn_gf ask_gf (thn_gf (ask_gf.trans rfl) (thn_gf rfl rfl))
  · rw [prf_12 e1]; rfl
  · rw [prf_13 e1]; exact lik_gf
  · rw [prf_14 e1]
  · rw [prf_15 e1]
  · exact absurd e1 h16
  · rw [prf_17 e1]
theorem rnS_gf {z : Nat} {T : Nat → Nat} {A : Nat → tA} (hz : z ≤ 32) (hA : ∀ p, p < z → okA (A p)) : ∀ (m p c : Nat) (s : tS), gfS s = 0 → (rnS T A z m p c s).1 ≠ 0 → gfS (rnS T A z m p c s).2.2.2 = 0
  | 0, p, c, s, h, ht => by
    unfold rnS at ht ⊢
    split at ht
    · rw [if_pos ‹_›]; exact h
    · exact absurd rfl ht
  | m + 1, p, c, s, h, ht => by
    unfold rnS at ht ⊢
    by_cases hp : p < z
    · rw [if_pos hp] at ht ⊢
      by_cases h0 : (prf T (A p) s).1 = 0
      · rw [if_pos h0] at ht ⊢
        by_cases h16 : (A p).1 = nI 16
        · rw [nxt_16 h16] at ht
          exfalso
          apply ht
          cases m with
          | zero => unfold rnS; rw [if_neg (by omega)]
          | succ m => unfold rnS; rw [if_neg (by omega)]
        · exact rnS_gf hz hA m _ _ _ ((prf_gf (hA p hp) h16).trans h) ht
      · rw [if_neg h0]
        by_cases h16 : (A p).1 = nI 16
        · rw [prf_16 h16] at h0; exact absurd rfl h0
        · exact (prf_gf (hA p hp) h16).trans h
    · rw [if_neg hp] at ht; exact absurd rfl ht
theorem rnS_gz {z : Nat} {T : Nat → Nat} {A : Nat → tA} : ∀ (m p c : Nat) (s : tS), (rnS T A z m p c s).2.2.1 ≤ c + m
  | 0, p, c, s => by unfold rnS; split <;> exact Nat.le_refl _
  | m + 1, p, c, s => by
    unfold rnS
    split
    · split
      · have := rnS_gz (z := z) (T := T) (A := A) m (nxt (A p) p s) (c + 1) (prf T (A p) s).2
        omega
      · show c + 1 ≤ c + (m + 1)
        omega
    · show c ≤ c + (m + 1)
      omega
/-! counting -/
def cnt (p : Nat → Bool) : Nat → Nat
  | 0 => 0
  | m + 1 => cnt p m + (if p m = true then 1 else 0)
theorem cnt_le (p : Nat → Bool) : ∀ m, cnt p m ≤ m
  | 0 => Nat.le_refl 0
  | m + 1 => by
    have := cnt_le p m
    show cnt p m + (if p m = true then 1 else 0) ≤ m + 1
    split <;> omega
theorem cnt_c {p q : Nat → Bool} : ∀ m, (∀ o, o < m → p o = q o) → cnt p m = cnt q m
  | 0, _ => rfl
  | m + 1, h => by
    show cnt p m + _ = cnt q m + _
    rw [cnt_c m (fun o ho => h o (by omega)), h m (by omega)]
theorem cnt_up {p : Nat → Bool} {o : Nat} (hp : p o = false) : ∀ m, o < m → cnt (va_up p o true) m = cnt p m + 1
  | 0, h => by omega
  | m + 1, h => by
    show cnt (va_up p o true) m + (if va_up p o true m = true then 1 else 0) = cnt p m + (if p m = true then 1 else 0) + 1
    by_cases ho : o = m
    · subst ho
      rw [cnt_c (q := p) o (fun x hx => va_up_ne _ _ (by omega)), va_up_self, hp, if_pos rfl, if_neg (by simp)]
    · rw [cnt_up hp m (by omega), va_up_ne _ _ (Ne.symm ho)]
      omega
theorem cnt_0 {p : Nat → Bool} : ∀ m, (∀ o, o < m → p o = false) → cnt p m = 0
  | 0, _ => rfl
  | m + 1, h => by
    show cnt p m + _ = 0
    rw [cnt_0 m (fun o ho => h o (by omega)), h m (by omega)]
    rfl
end
section
/-! the reference's memory, exactly: c its numbers (height, fetches, calls, gave, where, touchedMany, writtenMany, acts, threw, status), I its rows of ints by field, J its rows of longs -/
abbrev tC : Type := Int32 × Int32 × Int32 × Int64 × Int32 × Int32 × Int32 × Int32 × Int32 × Int32
def tyM (k : Nat) : Nat := if k = 6 ∨ k = 24 then 2 else 0
def lenM (k : Nat) : Nat := match k with
  | 1 => 24
  | 3 => 8064
  | 4 => 8064
  | 5 => 64512
  | 6 => 24
  | 8 => 192
  | 9 => 6
  | 10 => 192
  | 11 => 192
  | 12 => 192
  | 13 => 192
  | 14 => 192
  | 15 => 192
  | 20 => 400
  | 21 => 400
  | 23 => 192
  | 24 => 24
  | 26 => 4
  | 27 => 4
  | _ => 0
def rI (k : Nat) : Bool := [1, 4, 5, 6, 8, 9, 10, 11, 13, 14, 15, 20, 21, 23, 24, 26].contains k
def rJ (k : Nat) : Bool := [3, 12, 27].contains k
abbrev m0 (h : Nat → Nat) (n : Nat) (c : tC) : va_E := .inr (6, [.int (nI n), .ref (h 1), .int c.1, .ref (h 3), .ref (h 4), .ref (h 5), .ref (h 6), .int c.2.1, .ref (h 8), .ref (h 9), .ref (h 10), .ref (h 11), .ref (h 12), .ref (h 13), .ref (h 14), .ref (h 15), .int c.2.2.1, .long c.2.2.2.1, .int c.2.2.2.2.1, .int c.2.2.2.2.2.1, .ref (h 20), .ref (h 21), .int c.2.2.2.2.2.2.1, .ref (h 23), .ref (h 24), .int c.2.2.2.2.2.2.2.1, .ref (h 26), .ref (h 27), .int c.2.2.2.2.2.2.2.2.1, .int c.2.2.2.2.2.2.2.2.2])
def MEM (G : mG) (h : Nat → Nat) (n : Nat) (c : tC) (I : Nat → Nat → Int32) (J : Nat → Nat → Int64) (f : mF) : Prop :=
  f (h 0) = some (m0 h n c) ∧ (∀ k, k < 30 → rI k = true → f (h k) = some (.inl (gk G (tyM k), lenM k, .inl (I k)))) ∧ (∀ k, k < 30 → rJ k = true → f (h k) = some (.inl (gk G 1, lenM k, .inr (.inl (J k))))) ∧ injM h
theorem rI_M : ∀ k, k < 30 → rI k = true → rM k = true ∧ k ≠ 0 ∧ rJ k = false := by decide +kernel
theorem rJ_M : ∀ k, k < 30 → rJ k = true → rM k = true ∧ k ≠ 0 ∧ rI k = false := by decide +kernel
section ME
variable {G : mG} {h : Nat → Nat} {n : Nat} {c c2 : tC} {I : Nat → Nat → Int32} {J : Nat → Nat → Int64} {f f2 : mF}
theorem MEM.neI (hM : MEM G h n c I J f) {i k : Nat} (hi : i < 30) (hk : k < 30) (h1 : rM i = true) (h2 : rM k = true) (hne : i ≠ k) : h i ≠ h k := fun q => hne (hM.2.2.2 i k hi hk q h1 h2)
theorem MEM.setI (hM : MEM G h n c I J f) (k : Nat) (hk : k < 30) (hr : rI k = true) {g : Nat → Int32} (ef : f2 = va_up f (h k) (some (.inl (gk G (tyM k), lenM k, .inl g)))) : MEM G h n c (va_up I k g) J f2 := by
  subst ef
  have hm := rI_M k hk hr
  refine ⟨?_, fun q hq hqr => ?_, fun q hq hqr => ?_, hM.2.2.2⟩
  · rw [va_up_ne _ _ (hM.neI (by omega) hk rfl hm.1 (Ne.symm hm.2.1))]; exact hM.1
  · by_cases e : q = k
    · subst e; rw [va_up_self, va_up_self]
    · rw [va_up_ne _ _ (hM.neI hq hk (rI_M q hq hqr).1 hm.1 e), va_up_ne _ _ e]; exact hM.2.1 q hq hqr
  · have e : q ≠ k := fun e => by rw [e, hm.2.2] at hqr; cases hqr
    rw [va_up_ne _ _ (hM.neI hq hk (rJ_M q hq hqr).1 hm.1 e)]; exact hM.2.2.1 q hq hqr
theorem MEM.setJ (hM : MEM G h n c I J f) (k : Nat) (hk : k < 30) (hr : rJ k = true) {g : Nat → Int64} (ef : f2 = va_up f (h k) (some (.inl (gk G 1, lenM k, .inr (.inl g))))) : MEM G h n c I (va_up J k g) f2 := by
  subst ef
  have hm := rJ_M k hk hr
  refine ⟨?_, fun q hq hqr => ?_, fun q hq hqr => ?_, hM.2.2.2⟩
  · rw [va_up_ne _ _ (hM.neI (by omega) hk rfl hm.1 (Ne.symm hm.2.1))]; exact hM.1
  · have e : q ≠ k := fun e => by rw [e, hm.2.2] at hqr; cases hqr
    rw [va_up_ne _ _ (hM.neI hq hk (rI_M q hq hqr).1 hm.1 e)]; exact hM.2.1 q hq hqr
  · by_cases e : q = k
    · subst e; rw [va_up_self, va_up_self]
    · rw [va_up_ne _ _ (hM.neI hq hk (rJ_M q hq hqr).1 hm.1 e), va_up_ne _ _ e]; exact hM.2.2.1 q hq hqr
theorem MEM.set0 (hM : MEM G h n c I J f) {n2 : Nat} (ef : f2 = va_up f (h 0) (some (m0 h n2 c2))) : MEM G h n2 c2 I J f2 := by
  subst ef
  refine ⟨va_up_self _ _ _, fun q hq hqr => ?_, fun q hq hqr => ?_, hM.2.2.2⟩
  · rw [va_up_ne _ _ (hM.neI hq (by omega) (rI_M q hq hqr).1 rfl (rI_M q hq hqr).2.1)]; exact hM.2.1 q hq hqr
  · rw [va_up_ne _ _ (hM.neI hq (by omega) (rJ_M q hq hqr).1 rfl (rJ_M q hq hqr).2.1)]; exact hM.2.2.1 q hq hqr
end ME
/-! copies of blocks -/
theorem cpy_0 {α : Type} (f g : Nat → α) (a b : Nat) : va_cpy f g a b 0 = g := by
  funext k; unfold va_cpy; rw [if_neg (by omega)]
theorem cpy_at {α : Type} {f g : Nat → α} {a b n k : Nat} (h : k < n) : va_cpy f g a b n (b + k) = f (a + k) := by
  unfold va_cpy; rw [if_pos (by omega)]; congr 1; omega
theorem cpy_out {α : Type} {f g : Nat → α} {a b n k : Nat} (h : k < b ∨ b + n ≤ k) : va_cpy f g a b n k = g k := by
  unfold va_cpy; rw [if_neg (by omega)]
theorem cpyL_step {g : Nat → Int64} {a b k N : Nat} (hk : k < N) (hd : a + N ≤ b ∨ b + N ≤ a ∨ a = b) : vp_updL (va_cpy g g a b k) (b + k) (va_cpy g g a b k (a + k)) = va_cpy g g a b (k + 1) := by
  have e : va_cpy g g a b k (a + k) = g (a + k) := cpy_out (by omega)
  rw [e]
  funext x
  unfold vp_updL va_cpy
  by_cases hx : x = b + k
  · rw [if_pos hx, if_pos (by omega)]; congr 1; omega
  · rw [if_neg hx]
    by_cases h2 : b ≤ x ∧ x < b + k
    · rw [if_pos h2, if_pos (by omega)]
    · rw [if_neg h2, if_neg (by omega)]
theorem cpyI_step {g : Nat → Int32} {a b k N : Nat} (hk : k < N) (hd : a + N ≤ b ∨ b + N ≤ a ∨ a = b) : upd (va_cpy g g a b k) (b + k) (va_cpy g g a b k (a + k)) = va_cpy g g a b (k + 1) := by
  have e : va_cpy g g a b k (a + k) = g (a + k) := cpy_out (by omega)
  rw [e]
  funext x
  unfold upd va_cpy
  by_cases hx : x = b + k
  · rw [if_pos hx, if_pos (by omega)]; congr 1; omega
  · rw [if_neg hx]
    by_cases h2 : b ≤ x ∧ x < b + k
    · rw [if_pos h2, if_pos (by omega)]
    · rw [if_neg h2, if_neg (by omega)]
theorem cpy_cat {α : Type} {g : Nat → α} {a b k m N : Nat} (hk : k + m ≤ N) (hd : a + N ≤ b ∨ b + N ≤ a ∨ a = b) : va_cpy (va_cpy g g a b k) (va_cpy g g a b k) (a + k) (b + k) m = va_cpy g g a b (k + m) := by
  funext x
  by_cases h1 : b + k ≤ x ∧ x < b + k + m
  · have e1 : va_cpy (va_cpy g g a b k) (va_cpy g g a b k) (a + k) (b + k) m x = va_cpy g g a b k (a + k + (x - (b + k))) := by
      conv => lhs; unfold va_cpy
      rw [if_pos h1]
      rfl
    rw [e1, cpy_out (by omega)]
    unfold va_cpy
    rw [if_pos (by omega)]
    congr 1
    omega
  · rw [cpy_out (by omega)]
    unfold va_cpy
    by_cases h2 : b ≤ x ∧ x < b + k
    · rw [if_pos h2, if_pos (by omega)]
    · rw [if_neg h2, if_neg (by omega)]
theorem va_up_id {α : Type} (f : Nat → α) (k : Nat) : va_up f k (f k) = f := by
  funext x
  by_cases e : x = k
  · rw [e, va_up_self]
  · exact va_up_ne _ _ e
section ME2
variable {G : mG} {h : Nat → Nat} {n : Nat} {c : tC} {I : Nat → Nat → Int32} {J : Nat → Nat → Int64} {f : mF}
theorem MEM.idI (hM : MEM G h n c I J f) (k : Nat) : MEM G h n c (va_up I k (I k)) J f := by rw [va_up_id]; exact hM
theorem MEM.cp0 {a b a2 b2 : Nat} (hM : MEM G h n c I J f) : MEM G h n c (va_up (va_up I 4 (va_cpy (I 4) (I 4) a b 0)) 5 (va_cpy (I 5) (I 5) a2 b2 (8 * 0))) (va_up J 3 (va_cpy (J 3) (J 3) a b 0)) f := by
  rw [Nat.mul_zero, cpy_0, cpy_0, cpy_0, va_up_id, va_up_id, va_up_id]; exact hM
theorem up4 {α : Type} (I : Nat → α) (x y u v : α) : va_up (va_up (va_up (va_up I 4 x) 5 y) 4 u) 5 v = va_up (va_up I 4 u) 5 v := by
  funext k
  unfold va_up
  by_cases h5 : k = 5
  · simp only [if_pos h5]
  · by_cases h4 : k = 4
    · simp only [if_neg h5, if_pos h4]
    · simp only [if_neg h5, if_neg h4]
theorem MEM.cpA {a b k : Nat} (hk : k < 192) (hM : MEM G h n c (va_up (va_up (va_up (va_up I 4 (va_cpy (I 4) (I 4) (192 * a) (192 * b) k)) 5 (va_cpy (I 5) (I 5) (1536 * a) (1536 * b) (8 * k))) 4 (upd (va_cpy (I 4) (I 4) (192 * a) (192 * b) k) (192 * b + k) (va_cpy (I 4) (I 4) (192 * a) (192 * b) k (192 * a + k)))) 5 (va_cpy (va_cpy (I 5) (I 5) (1536 * a) (1536 * b) (8 * k)) (va_cpy (I 5) (I 5) (1536 * a) (1536 * b) (8 * k)) (8 * (192 * a + k)) (8 * (192 * b + k)) 8)) (va_up (va_up J 3 (va_cpy (J 3) (J 3) (192 * a) (192 * b) k)) 3 (vp_updL (va_cpy (J 3) (J 3) (192 * a) (192 * b) k) (192 * b + k) (va_cpy (J 3) (J 3) (192 * a) (192 * b) k (192 * a + k)))) f) :
    MEM G h n c (va_up (va_up I 4 (va_cpy (I 4) (I 4) (192 * a) (192 * b) (k + 1))) 5 (va_cpy (I 5) (I 5) (1536 * a) (1536 * b) (8 * (k + 1)))) (va_up J 3 (va_cpy (J 3) (J 3) (192 * a) (192 * b) (k + 1))) f := by
  rw [cpyI_step (N := 192) hk (by omega), cpyL_step (N := 192) hk (by omega), up4, bx_uu, show 8 * (192 * a + k) = 1536 * a + 8 * k by omega, show 8 * (192 * b + k) = 1536 * b + 8 * k by omega, cpy_cat (N := 1536) (by omega) (by omega), show 8 * k + 8 = 8 * (k + 1) by omega] at hM
  exact hM
end ME2
end
section
/-! what the reference's memory says: n objects of types T, behaviours z and A, height hg, versions ver, cached cq, times tms, written wl, and the picture s of the call (its bodies in the area of height 41) -/
def b2i (b : Bool) : Int32 := if b = true then 1 else 0
theorem b2i_t {b : Bool} : b2i b = 0 ↔ b = false := by cases b <;> decide
def nuOf (t j : Nat) (v : Int64) : Int64 := if srt t j = 3 then 0 else v
def szOf (t j : Nat) (v : Int64) : Int32 := if srt t j = 3 then v.toInt32 else -3
def arO (t : Nat) (nu : Nat → Int64) (sz it : Nat → Int32) (a o : Nat) (b : tB) : Prop := ∀ j, j < 8 → nu (192 * a + 8 * o + j) = nuOf t j (b.1 j) ∧ sz (192 * a + 8 * o + j) = szOf t j (b.1 j) ∧ (srt t j = 3 → ∀ i, i < 8 → it (8 * (192 * a + 8 * o + j) + i) = b.2 (plc j i))
def arZ (nu : Nat → Int64) (sz it : Nat → Int32) (a o : Nat) : Prop := ∀ j, j < 8 → nu (192 * a + 8 * o + j) = 0 ∧ sz (192 * a + 8 * o + j) = 0 ∧ ∀ i, i < 8 → it (8 * (192 * a + 8 * o + j) + i) = 0
def arA (n : Nat) (T : Nat → Nat) (nu : Nat → Int64) (sz it : Nat → Int32) (a : Nat) (b : Nat → tB) : Prop := (∀ o, o < n → arO (T o) nu sz it a o (b o)) ∧ ∀ o, n ≤ o → o < 24 → arZ nu sz it a o
def bsM (n : Nat) (T z : Nat → Nat) (A : Nat → tA) : Prop := n ≤ 24 ∧ (∀ o, T o < 3) ∧ (∀ b, z b ≤ 32) ∧ ∀ b, b < 6 → ∀ p, p < z b → okA (A (32 * b + p))
def acM (n : Nat) (T z : Nat → Nat) (A : Nat → tA) (I : Nat → Nat → Int32) (J : Nat → Nat → Int64) : Prop := (∀ o, o < n → I 1 o = nI (T o)) ∧ (∀ b, b < 6 → I 9 b = nI (z b)) ∧ ∀ k, vld z k → I 10 k = (A k).1 ∧ I 11 k = (A k).2.1 ∧ J 12 k = (A k).2.2.1 ∧ I 13 k = (A k).2.2.2.1 ∧ I 14 k = (A k).2.2.2.2.1 ∧ I 15 k = (A k).2.2.2.2.2
def MR (n : Nat) (T z : Nat → Nat) (A : Nat → tA) (hg : Nat) (ver : Nat → Nat → tB) (cq : Nat → Bool) (tms : Nat → Int32) (wl : List Nat) (s : tS) (I : Nat → Nat → Int32) (J : Nat → Nat → Int64) : Prop :=
  bsM n T z A ∧ acM n T z A I J ∧ (hg ≤ 40 ∧ ∀ a, a ≤ hg → ∀ o, o < n → okBd n (T o) (ver a o)) ∧ okS n T s ∧ (∀ a, a ≤ hg → arA n T (J 3) (I 4) (I 5) a (ver a)) ∧ arA n T (J 3) (I 4) (I 5) 41 (bdS s) ∧ (∀ o, o < 24 → I 6 o = b2i (cq o)) ∧ (∀ o, o < 24 → I 24 o = b2i (ldS s o)) ∧ (∀ L, L < 192 → I 8 L = tms L) ∧ (wl.length ≤ 192 ∧ ∀ i, i < wl.length → I 23 i = nI (wl.getD i 0)) ∧ (∀ i, i < (trS s).length → I 20 i = nI ((trS s).getD i 0 / 2) ∧ I 21 i = nI ((trS s).getD i 0 % 2)) ∧ (∀ x, x < 4 → I 26 x = haS s x) ∧ (∀ x, x < 4 → J 27 x = vaS s x) ∧ ∀ o, cq o = true → o < n
def FM (G : mG) (h : Nat → Nat) (n : Nat) (T z : Nat → Nat) (A : Nat → tA) (hg : Nat) (ver : Nat → Nat → tB) (cq : Nat → Bool) (fe : Int32) (tms : Nat → Int32) (ca : Int32) (wl : List Nat) (wh : Int32) (ac th : Nat) (sx : Int32) (s : tS) (f : mF) : Prop :=
  ∃ (I : Nat → Nat → Int32) (J : Nat → Nat → Int64), MEM G h n (nI hg, fe, ca, gfS s, wh, nI (trS s).length, nI wl.length, nI ac, nI th, sx) I J f ∧ MR n T z A hg ver cq tms wl s I J ∧ ac ≤ 200 ∧ th ≤ 8
theorem nd_inj {l : List Nat} (h : l.Nodup) {i j : Nat} (hi : i < l.length) (hj : j < l.length) (e : l[i] = l[j]) : i = j := by
  have q := List.pairwise_iff_getElem.mp h
  rcases Nat.lt_trichotomy i j with z | z | z
  · exact absurd e (q i j hi hj z)
  · exact z
  · exact absurd e.symm (q j i hj hi z)
theorem len_b {l : List Nat} (h : okTc l) : l.length ≤ 384 := by
  refine inj_bound 384 l.length (fun i => l.getD i 0) (fun i hi => ?_) (fun i j hi hj e => ?_)
  · show l.getD i 0 < 384
    rw [List.getD_eq_getElem?_getD, List.getElem?_eq_getElem hi]
    exact h.2 _ (List.getElem_mem hi)
  · have e : l.getD i 0 = l.getD j 0 := e
    rw [List.getD_eq_getElem?_getD, List.getElem?_eq_getElem hi, List.getD_eq_getElem?_getD, List.getElem?_eq_getElem hj] at e
    exact nd_inj h.1 hi hj e
theorem getD_mem {l : List Nat} {i : Nat} (hi : i < l.length) : l.getD i 0 ∈ l := by
  rw [List.getD_eq_getElem?_getD, List.getElem?_eq_getElem hi]; exact List.getElem_mem hi
theorem mem_getD {l : List Nat} {c : Nat} (h : c ∈ l) : ∃ i, i < l.length ∧ l.getD i 0 = c := by
  obtain ⟨i, hi, e⟩ := List.getElem_of_mem h
  exact ⟨i, hi, by rw [List.getD_eq_getElem?_getD, List.getElem?_eq_getElem hi]; exact e⟩
theorem getD_app {l : List Nat} {c i : Nat} (hi : i < l.length) : (l ++ [c]).getD i 0 = l.getD i 0 := by
  rw [List.getD_eq_getElem?_getD, List.getD_eq_getElem?_getD, List.getElem?_append_left hi]
theorem getD_last {l : List Nat} {c : Nat} : (l ++ [c]).getD l.length 0 = c := by
  rw [List.getD_eq_getElem?_getD, List.getElem?_append_right (Nat.le_refl _), Nat.sub_self]; rfl
theorem srt_M : ∀ t : Nat, t < 3 → ∀ j : Nat, j < 8 → (((j : Int) < fldM (t : Int)) ↔ srt t j ≠ 0) ∧ (srt t j ≠ 0 → srtM (t : Int) (j : Int) + 1 = (srt t j : Int)) := by decide +kernel
section MRl
variable {n : Nat} {T z : Nat → Nat} {A : Nat → tA} {hg : Nat} {ver : Nat → Nat → tB} {cq : Nat → Bool} {tms : Nat → Int32} {wl : List Nat} {s : tS} {I : Nat → Nat → Int32} {J : Nat → Nat → Int64}
theorem MR.va (h : MR n T z A hg ver cq tms wl s I J) (x : Nat) (v : Int64) : MR n T z A hg ver cq tms wl (sVa s x v) I (va_up J 27 (vp_updL (J 27) x v)) := by
  obtain ⟨r1, r2, r3, r4, r5, r6, r7, r8, r9, r10, r11, r12, r13, r14⟩ := h
  refine ⟨r1, r2, r3, r4, r5, r6, r7, r8, r9, r10, r11, r12, fun y hy => ?_, r14⟩
  show vp_updL (J 27) x v y = va_up (vaS s) x v y
  unfold vp_updL va_up
  split
  · rfl
  · exact r13 y hy
theorem MR.ha (h : MR n T z A hg ver cq tms wl s I J) (x : Nat) {v : Int32} (hv : okHa n v) : MR n T z A hg ver cq tms wl (sHa s x v) (va_up I 26 (upd (I 26) x v)) J := by
  obtain ⟨r1, r2, r3, r4, r5, r6, r7, r8, r9, r10, r11, r12, r13, r14⟩ := h
  refine ⟨r1, r2, r3, okS_ha r4 hv, r5, r6, r7, r8, r9, r10, r11, fun y hy => ?_, r13, r14⟩
  show upd (I 26) x v y = va_up (haS s) x v y
  unfold upd va_up
  split
  · rfl
  · exact r12 y hy
theorem MR.gf (h : MR n T z A hg ver cq tms wl s I J) (v : Int64) : MR n T z A hg ver cq tms wl (sGf s v) I J := h
/-- a number or a link of an object gets new contents, as the call sees it -/
theorem arA_nu {nu : Nat → Int64} {sz it : Nat → Int32} {b : Nat → tB} {o j : Nat} {v : Int64} (hn : n ≤ 24) (h : arA n T nu sz it 41 b) (ho : o < n) (hj : j < 8) (hs : srt (T o) j ≠ 3) : arA n T (vp_updL nu (192 * 41 + 8 * o + j) v) sz it 41 (va_up b o (setC (b o) j v)) := by
  refine ⟨fun q hq i hi => ?_, fun q hq hq2 i hi => ?_⟩
  · have hh := h.1 q hq i hi
    by_cases e : q = o
    · subst e
      rw [va_up_self]
      show vp_updL nu _ v _ = nuOf (T q) i (va_up (b q).1 j v i) ∧ sz _ = szOf (T q) i (va_up (b q).1 j v i) ∧ _
      by_cases e2 : i = j
      · subst e2
        rw [va_up_self]
        refine ⟨?_, ?_, hh.2.2⟩
        · unfold vp_updL nuOf; rw [if_pos rfl, if_neg hs]
        · rw [hh.2.1]; unfold szOf; rw [if_neg hs, if_neg hs]
      · rw [va_up_ne _ _ e2]
        refine ⟨?_, hh.2⟩
        unfold vp_updL; rw [if_neg (by omega)]; exact hh.1
    · rw [va_up_ne _ _ e]
      refine ⟨?_, hh.2⟩
      unfold vp_updL; rw [if_neg (by omega)]; exact hh.1
  · have hh := h.2 q hq hq2 i hi
    refine ⟨?_, hh.2⟩
    unfold vp_updL; rw [if_neg (by omega)]; exact hh.1
theorem arA_nuX {nu : Nat → Int64} {sz it : Nat → Int32} {b : Nat → tB} {a L : Nat} {v : Int64} (h : arA n T nu sz it a b) (ha : a ≤ 40) (hn : n ≤ 24) (hL : 7872 ≤ L) : arA n T (vp_updL nu L v) sz it a b :=
  ⟨fun q hq i hi => ⟨by unfold vp_updL; rw [if_neg (by omega)]; exact (h.1 q hq i hi).1, (h.1 q hq i hi).2⟩, fun q hq hq2 i hi => ⟨by unfold vp_updL; rw [if_neg (by omega)]; exact (h.2 q hq hq2 i hi).1, (h.2 q hq hq2 i hi).2⟩⟩
theorem MR.nu (h : MR n T z A hg ver cq tms wl s I J) {o j : Nat} {v : Int64} (ho : o < n) (hj : j < 8) (hs : srt (T o) j ≠ 3) (hok : okBd n (T o) (setC (bdS s o) j v)) : MR n T z A hg ver cq tms wl (sBd s o (setC (bdS s o) j v)) I (va_up J 3 (vp_updL (J 3) (192 * 41 + 8 * o + j) v)) := by
  obtain ⟨r1, r2, r3, r4, r5, r6, r7, r8, r9, r10, r11, r12, r13, r14⟩ := h
  exact ⟨r1, r2, r3, okS_bd r4 hok, fun a ha => arA_nuX (r5 a ha) (by omega) r1.1 (by omega), arA_nu r1.1 r6 ho hj hs, r7, r8, r9, r10, r11, r12, r13, r14⟩
/-- rows: a size, the items of a block -/
theorem arA_blk {nu : Nat → Int64} {sz it sz2 it2 : Nat → Int32} {b : Nat → tB} {o j : Nat} {b2 : tB} (hn : n ≤ 24) (h : arA n T nu sz it 41 b) (ho : o < n) (hj : j < 8) (hT : T o < 3) (hs : srt (T o) j = 3)
    (hz : ∀ L, L ≠ 192 * 41 + 8 * o + j → sz2 L = sz L) (hi2 : ∀ x, (x < 8 * (192 * 41 + 8 * o + j) ∨ 8 * (192 * 41 + 8 * o + j) + 8 ≤ x) → it2 x = it x) (c1 : ∀ i, i < 8 → i ≠ j → b2.1 i = (b o).1 i) (c2 : sz2 (192 * 41 + 8 * o + j) = (b2.1 j).toInt32) (c3 : ∀ i, i < 8 → it2 (8 * (192 * 41 + 8 * o + j) + i) = b2.2 (plc j i)) (c4 : ∀ q, q < 8 → q ≠ j → srt (T o) q = 3 → ∀ i, i < 8 → b2.2 (plc q i) = (b o).2 (plc q i)) : arA n T nu sz2 it2 41 (va_up b o b2) := by
  refine ⟨fun q hq i hi => ?_, fun q hq hq2 i hi => ?_⟩
  · have hh := h.1 q hq i hi
    by_cases e : q = o
    · subst e
      rw [va_up_self]
      by_cases e2 : i = j
      · subst e2
        refine ⟨?_, ?_, fun _ y hy => c3 y hy⟩
        · rw [hh.1]; unfold nuOf; rw [if_pos hs, if_pos hs]
        · rw [c2]; unfold szOf; rw [if_pos hs]
      · refine ⟨by rw [c1 i hi e2]; exact hh.1, by rw [c1 i hi e2, hz _ (by omega)]; exact hh.2.1, fun h3 y hy => ?_⟩
        rw [hi2 _ (by omega), c4 i hi e2 h3 y hy]; exact hh.2.2 h3 y hy
    · rw [va_up_ne _ _ e]
      exact ⟨hh.1, by rw [hz _ (by omega)]; exact hh.2.1, fun h3 y hy => by rw [hi2 _ (by omega)]; exact hh.2.2 h3 y hy⟩
  · have hh := h.2 q hq hq2 i hi
    exact ⟨hh.1, by rw [hz _ (by omega)]; exact hh.2.1, fun y hy => by rw [hi2 _ (by omega)]; exact hh.2.2 y hy⟩
theorem arA_blkX {nu : Nat → Int64} {sz it sz2 it2 : Nat → Int32} {b : Nat → tB} {a : Nat} (h : arA n T nu sz it a b) (ha : a ≤ 40) (hn : n ≤ 24) (hz : ∀ L, L < 7872 → sz2 L = sz L) (hi2 : ∀ x, x < 62976 → it2 x = it x) : arA n T nu sz2 it2 a b :=
  ⟨fun q hq i hi => ⟨(h.1 q hq i hi).1, by rw [hz _ (by omega)]; exact (h.1 q hq i hi).2.1, fun h3 y hy => by rw [hi2 _ (by omega)]; exact (h.1 q hq i hi).2.2 h3 y hy⟩, fun q hq hq2 i hi => ⟨(h.2 q hq hq2 i hi).1, by rw [hz _ (by omega)]; exact (h.2 q hq hq2 i hi).2.1, fun y hy => by rw [hi2 _ (by omega)]; exact (h.2 q hq hq2 i hi).2.2 y hy⟩⟩
theorem MR.it (h : MR n T z A hg ver cq tms wl s I J) {o j i : Nat} {v : Int32} (ho : o < n) (hj : j < 8) (hs : srt (T o) j = 3) (hi : i < 8) (hlt : (i : Int) < ((bdS s o).1 j).toInt) : MR n T z A hg ver cq tms wl (sBd s o (setM (bdS s o) (plc j i) v)) (va_up I 5 (upd (I 5) (8 * (192 * 41 + 8 * o + j) + i) v)) J := by
  obtain ⟨r1, r2, r3, r4, r5, r6, r7, r8, r9, r10, r11, r12, r13, r14⟩ := h
  have hT := r1.2.1 o
  refine ⟨r1, r2, r3, okS_bd r4 (okBd_M hT hj (r4.1 o ho) hs hi hlt), fun a ha => arA_blkX (sz := I 4) (it := I 5) (r5 a ha) (by omega) r1.1 (fun _ _ => rfl) (fun x hx => upd_far (by omega)), arA_blk (sz := I 4) (it := I 5) r1.1 r6 ho hj hT hs (fun _ _ => rfl) (fun x hx => upd_far (by omega)) (fun _ _ _ => rfl) ?_ (fun y hy => ?_) (fun q hq hne h3 y hy => ?_), r7, r8, r9, r10, r11, r12, r13, r14⟩
  · have := (r6.1 o ho j hj).2.1
    rw [show szOf (T o) j ((bdS s o).1 j) = ((bdS s o).1 j).toInt32 from if_pos hs] at this
    exact this
  · show upd (I 5) _ v _ = va_up (bdS s o).2 (plc j i) v (plc j y)
    unfold upd va_up
    by_cases e : y = i
    · subst e; rw [if_pos rfl, if_pos rfl]
    · rw [if_neg (by omega), if_neg (fun q => e (plc_inj q))]
      exact (r6.1 o ho j hj).2.2 hs y hy
  · show va_up (bdS s o).2 (plc j i) v (plc q y) = _
    exact va_up_ne _ _ (plc_ne (T o) hT q hq j hj h3 hs hne y hy i hi)
theorem MR.row (h : MR n T z A hg ver cq tms wl s I J) {o j : Nat} {v : Int64} {sz2 it2 : Nat → Int32} (ho : o < n) (hj : j < 8) (hs : srt (T o) j = 3) (hv : v.toInt = -3 ∨ (0 ≤ v.toInt ∧ v.toInt ≤ 8)) (hz : sz2 = upd (I 4) (192 * 41 + 8 * o + j) v.toInt32) (hi2 : ∀ x, it2 x = if 8 * (192 * 41 + 8 * o + j) ≤ x ∧ x < 8 * (192 * 41 + 8 * o + j) + 8 then 0 else I 5 x) : MR n T z A hg ver cq tms wl (sBd s o (renB (bdS s o) j v)) (va_up (va_up I 4 sz2) 5 it2) J := by
  obtain ⟨r1, r2, r3, r4, r5, r6, r7, r8, r9, r10, r11, r12, r13, r14⟩ := h
  have hT := r1.2.1 o
  refine ⟨r1, r2, r3, okS_bd r4 (okBd_ren hT hj (r4.1 o ho) hs hv), fun a ha => arA_blkX (sz := I 4) (it := I 5) (r5 a ha) (by omega) r1.1 (fun L hL => by show sz2 L = _; rw [hz]; exact upd_far (by omega)) (fun x hx => by show it2 x = _; rw [hi2, if_neg (by omega)]), arA_blk (sz := I 4) (it := I 5) r1.1 r6 ho hj hT hs (fun L hL => by show sz2 L = _; rw [hz]; unfold upd; rw [if_neg hL]) (fun x hx => by show it2 x = _; rw [hi2, if_neg (by omega)]) (fun i hi hne => va_up_ne _ _ hne) ?_ (fun y hy => ?_) (fun q hq hne h3 y hy => ?_), r7, r8, r9, r10, r11, r12, r13, r14⟩
  · show sz2 _ = (va_up (bdS s o).1 j v j).toInt32
    rw [hz, va_up_self]; unfold upd; rw [if_pos rfl]
  · show it2 _ = (if plc j 0 ≤ plc j y ∧ plc j y < plc j 0 + 8 then (0 : Int32) else _)
    rw [hi2, if_pos (by omega), if_pos (by unfold plc; omega)]
  · show (if plc j 0 ≤ plc q y ∧ plc q y < plc j 0 + 8 then (0 : Int32) else (bdS s o).2 (plc q y)) = _
    rw [if_neg (fun z => by
      have := plc_ne (T o) hT q hq j hj h3 hs hne y hy (plc q y - plc j 0) (by omega)
      unfold plc at this z; omega)]
theorem MR.cpy (h : MR n T z A hg ver cq tms wl s I J) {o1 j1 o j m : Nat} {it2 : Nat → Int32} (ho1 : o1 < n) (hj1 : j1 < 8) (hs1 : srt (T o1) j1 = 3) (ho : o < n) (hj : j < 8) (hs : srt (T o) j = 3) (hm : (m : Int) ≤ ((bdS s o).1 j).toInt) (hm8 : m ≤ 8) (hi2 : it2 = va_cpy (I 5) (I 5) (8 * (192 * 41 + 8 * o1 + j1)) (8 * (192 * 41 + 8 * o + j)) m) : MR n T z A hg ver cq tms wl (sBd s o (cpyM (bdS s o1) (bdS s o) j1 j m)) (va_up I 5 it2) J := by
  obtain ⟨r1, r2, r3, r4, r5, r6, r7, r8, r9, r10, r11, r12, r13, r14⟩ := h
  have hT := r1.2.1 o
  have hI2 : ∀ x, (x < 8 * (192 * 41 + 8 * o + j) ∨ 8 * (192 * 41 + 8 * o + j) + m ≤ x) → it2 x = I 5 x := fun x hx => by rw [hi2]; exact cpy_out hx
  refine ⟨r1, r2, r3, okS_bd r4 (okBd_cpy (t1 := 0) hT hj (r4.1 o ho) hs hm), fun a ha => arA_blkX (sz := I 4) (it := I 5) (r5 a ha) (by omega) r1.1 (fun _ _ => rfl) (fun x hx => hI2 x (by omega)), arA_blk (sz := I 4) (it := I 5) r1.1 r6 ho hj hT hs (fun _ _ => rfl) (fun x hx => hI2 x (by omega)) (fun _ _ _ => rfl) ?_ (fun y hy => ?_) (fun q hq hne h3 y hy => ?_), r7, r8, r9, r10, r11, r12, r13, r14⟩
  · have := (r6.1 o ho j hj).2.1
    rw [show szOf (T o) j ((bdS s o).1 j) = ((bdS s o).1 j).toInt32 from if_pos hs] at this
    exact this
  · show it2 _ = (if plc j 0 ≤ plc j y ∧ plc j y < plc j 0 + m then (bdS s o1).2 (plc j1 0 + (plc j y - plc j 0)) else (bdS s o).2 (plc j y))
    by_cases hy2 : y < m
    · rw [if_pos (by unfold plc; omega), hi2, cpy_at hy2, show plc j1 0 + (plc j y - plc j 0) = plc j1 y from by unfold plc; omega]
      exact (r6.1 o1 ho1 j1 hj1).2.2 hs1 y (by omega)
    · rw [if_neg (by unfold plc; omega), hI2 _ (by omega)]
      exact (r6.1 o ho j hj).2.2 hs y hy
  · show (if plc j 0 ≤ plc q y ∧ plc q y < plc j 0 + m then _ else (bdS s o).2 (plc q y)) = _
    rw [if_neg (fun z => by
      have := plc_ne (T o) hT q hq j hj h3 hs hne y hy (plc q y - plc j 0) (by omega)
      unfold plc at this z; omega)]
/-- reading the area of the call -/
theorem MR.gnu (h : MR n T z A hg ver cq tms wl s I J) {o j : Nat} (ho : o < n) (hj : j < 8) (hs : srt (T o) j ≠ 3) : J 3 (192 * 41 + 8 * o + j) = (bdS s o).1 j := by
  have := (h.2.2.2.2.2.1.1 o ho j hj).1
  rw [this]; unfold nuOf; rw [if_neg hs]
theorem MR.gsz (h : MR n T z A hg ver cq tms wl s I J) {o j : Nat} (ho : o < n) (hj : j < 8) (hs : srt (T o) j = 3) : (I 4 (192 * 41 + 8 * o + j)).toInt = ((bdS s o).1 j).toInt := by
  have := (h.2.2.2.2.2.1.1 o ho j hj).2.1
  rw [this]; unfold szOf; rw [if_pos hs]
  have hb := ((h.2.2.2.1.1 o ho j hj).2.2 hs).1
  exact ic_l2i rfl rfl (by omega) (by omega)
theorem MR.git (h : MR n T z A hg ver cq tms wl s I J) {o j i : Nat} (ho : o < n) (hj : j < 8) (hs : srt (T o) j = 3) (hi : i < 8) : I 5 (8 * (192 * 41 + 8 * o + j) + i) = (bdS s o).2 (plc j i) := (h.2.2.2.2.2.1.1 o ho j hj).2.2 hs i hi
/-- touching -/
theorem MR.tc1 (h : MR n T z A hg ver cq tms wl s I J) {c : Nat} (hc : c < 384) (hn : c ∉ trS s) {g20 g21 : Nat → Int32} (e20 : g20 = upd (I 20) (trS s).length (nI (c / 2))) (e21 : g21 = upd (I 21) (trS s).length (nI (c % 2))) : MR n T z A hg ver cq tms wl (sTc s c) (va_up (va_up I 20 g20) 21 g21) J := by
  obtain ⟨r1, r2, r3, r4, r5, r6, r7, r8, r9, r10, r11, r12, r13, r14⟩ := h
  have et : trS (sTc s c) = trS s ++ [c] := if_neg hn
  refine ⟨r1, r2, r3, okS_tc r4 hc, r5, r6, r7, r8, r9, r10, fun i hi => ?_, r12, r13, r14⟩
  rw [et] at hi ⊢
  rw [List.length_append] at hi
  have hi : i < (trS s).length + 1 := hi
  show g20 i = _ ∧ g21 i = _
  rw [e20, e21]
  by_cases e : i = (trS s).length
  · subst e
    rw [getD_last]
    unfold upd
    exact ⟨if_pos rfl, if_pos rfl⟩
  · rw [getD_app (by omega)]
    unfold upd
    rw [if_neg e, if_neg e]
    exact r11 i (by omega)
/-- loading -/
theorem sLd_id {s : tS} {o : Nat} (h : ldS s o = true) : sLd s o = s := by
  unfold sLd
  have : va_up (ldS s) o true = ldS s := by
    funext q
    by_cases e : q = o
    · rw [e, va_up_self, h]
    · exact va_up_ne _ _ e
  rw [this]
theorem sTc_id {s : tS} {c : Nat} (h : c ∈ trS s) : sTc s c = s := by
  unfold sTc tch
  rw [if_pos h]
theorem MR.ld (h : MR n T z A hg ver cq tms wl s I J) {o : Nat} (ho : o < n) : MR n T z A hg ver (va_up cq o true) tms wl (sLd s o) (va_up (va_up I 24 (upd (I 24) o 1)) 6 (upd (I 6) o 1)) J := by
  obtain ⟨r1, r2, r3, r4, r5, r6, r7, r8, r9, r10, r11, r12, r13, r14⟩ := h
  refine ⟨r1, r2, r3, okS_ld r4 ho, r5, r6, fun q hq => ?_, fun q hq => ?_, r9, r10, r11, r12, r13, fun q hq => ?_⟩
  · show upd (I 6) o 1 q = b2i (va_up cq o true q)
    unfold upd va_up
    split
    · rfl
    · exact r7 q hq
  · show upd (I 24) o 1 q = b2i (va_up (ldS s) o true q)
    unfold upd va_up
    split
    · rfl
    · exact r8 q hq
  · by_cases e : q = o
    · rw [e]; exact ho
    · rw [va_up_ne _ _ e] at hq; exact r14 q hq
end MRl
end
section
theorem nI_cl {m : Nat} (h : m < 2147483648) : (nI m).toNatClampNeg = m := by
  have := ic_clN (nI_toInt (by omega) : (nI m).toInt = (m : Int)) (by omega)
  omega
theorem nI_ofC {x : Int32} (h : 0 ≤ x.toInt) : nI x.toNatClampNeg = x := (ic_inj (ic_clN rfl h).symm (by have := ic_clN (rfl : x.toInt = _) h; have := ic_rng x; omega)).symm
theorem nI_inj {a b : Nat} (ha : a < 2147483648) (hb : b < 2147483648) (h : nI a = nI b) : a = b := by
  have := congrArg Int32.toNatClampNeg h
  rw [nI_cl ha, nI_cl hb] at this
  exact this
theorem b2i_ne {b : Bool} (h : (b2i b).toInt ≠ 0) : b = true := by
  cases b
  · exact absurd rfl h
  · rfl
theorem b2i_0 {b : Bool} (h : (b2i b).toInt = 0) : b = false := by
  cases b
  · rfl
  · exact absurd h (by decide)
def cqL (c0 : Nat → Bool) (s : tS) : Nat → Bool := fun o => c0 o || ldS s o
def feL (fe0 : Int32) (c0 : Nat → Bool) (s : tS) : Int32 := fe0 + nI (cnt (fun o => ldS s o && !c0 o) 24)
theorem cqL_ld {c0 : Nat → Bool} {s : tS} {o : Nat} : va_up (cqL c0 s) o true = cqL c0 (sLd s o) := by
  funext q
  show va_up (cqL c0 s) o true q = (c0 q || va_up (ldS s) o true q)
  by_cases e : q = o
  · rw [e, va_up_self, va_up_self]; cases c0 o <;> rfl
  · rw [va_up_ne _ _ e, va_up_ne _ _ e]; rfl
theorem nI_addC (a b : Nat) : nI (a + b) = nI a + nI b := by unfold nI; exact Int32.ofNat_add a b
theorem feL_ld1 {fe0 : Int32} {c0 : Nat → Bool} {s : tS} {o : Nat} (hc : c0 o = true) : feL fe0 c0 (sLd s o) = feL fe0 c0 s := by
  unfold feL
  rw [cnt_c (p := fun q => ldS (sLd s o) q && !c0 q) (q := fun q => ldS s q && !c0 q) 24 (fun q _ => by
    show (va_up (ldS s) o true q && !c0 q) = (ldS s q && !c0 q)
    by_cases e : q = o
    · rw [e, hc]; simp
    · rw [va_up_ne _ _ e])]
theorem feL_ld0 {fe0 : Int32} {c0 : Nat → Bool} {s : tS} {o : Nat} (hc : c0 o = false) (hl : ldS s o = false) (ho : o < 24) : feL fe0 c0 (sLd s o) = feL fe0 c0 s + 1 := by
  unfold feL
  rw [cnt_c (p := fun q => ldS (sLd s o) q && !c0 q) (q := va_up (fun q => ldS s q && !c0 q) o true) 24 (fun q _ => by
    show (va_up (ldS s) o true q && !c0 q) = _
    by_cases e : q = o
    · rw [e, va_up_self, va_up_self, hc]; rfl
    · rw [va_up_ne _ _ e, va_up_ne _ _ e]), cnt_up (by show (ldS s o && !c0 o) = false; rw [hl]; rfl) 24 ho, nI_addC, Int32.add_assoc]
  rfl
theorem ask_neg {T : Nat → Nat} {s : tS} {hd j st : Nat} (h : haS s hd = -3) : ask T s hd j st = (1, s) := by unfold ask; rw [if_pos h]
theorem ask_abs {T : Nat → Nat} {s : tS} {hd j st : Nat} (h : haS s hd ≠ -3) (h2 : srt (T (hob s hd)) j = 0) : ask T s hd j st = (3, sLd s (hob s hd)) := by unfold ask; rw [if_neg h, if_pos h2]
theorem ask_cast {T : Nat → Nat} {s : tS} {hd j st : Nat} (h : haS s hd ≠ -3) (h2 : srt (T (hob s hd)) j ≠ 0) (h3 : srt (T (hob s hd)) j ≠ st) : ask T s hd j st = (2, sLd s (hob s hd)) := by unfold ask; rw [if_neg h, if_neg h2, if_neg h3]
theorem ask_yes {T : Nat → Nat} {s : tS} {hd j st : Nat} (h : haS s hd ≠ -3) (h2 : srt (T (hob s hd)) j ≠ 0) (h3 : srt (T (hob s hd)) j = st) : ask T s hd j st = (0, sLd s (hob s hd)) := by unfold ask; rw [if_neg h, if_neg h2, if_pos h3]
theorem ask_le {T : Nat → Nat} {s : tS} {hd j st : Nat} : (ask T s hd j st).1 ≤ 3 := by
  unfold ask
  split
  · show 1 ≤ 3; omega
  · show (if srt (T (hob s hd)) j = 0 then 3 else if srt (T (hob s hd)) j = st then 0 else 2) ≤ 3
    split
    · omega
    · split <;> omega
theorem sVa_id {s : tS} {x : Nat} : sVa s x (vaS s x) = s := by unfold sVa; rw [va_up_id]
theorem sHa_id {s : tS} {x : Nat} : sHa s x (haS s x) = s := by unfold sHa; rw [va_up_id]
theorem len_tc {s : tS} {c : Nat} (h : c ∉ trS s) : (trS (sTc s c)).length = (trS s).length + 1 := by
  show (tch c (trS s)).length = _
  unfold tch
  rw [if_neg h, List.length_append]
  rfl
section MRa
variable {n : Nat} {T z : Nat → Nat} {A : Nat → tA} {hg : Nat} {ver : Nat → Nat → tB} {cq : Nat → Bool} {tms : Nat → Int32} {wl : List Nat} {s : tS} {I : Nat → Nat → Int32} {J : Nat → Nat → Int64}
theorem MR.n24 (h : MR n T z A hg ver cq tms wl s I J) : n ≤ 24 := h.1.1
theorem MR.T3 (h : MR n T z A hg ver cq tms wl s I J) : ∀ o, T o < 3 := h.1.2.1
theorem MR.z32 (h : MR n T z A hg ver cq tms wl s I J) : ∀ b, z b ≤ 32 := h.1.2.2.1
theorem MR.okA (h : MR n T z A hg ver cq tms wl s I J) {k : Nat} (hv : vld z k) : okA (A k) := by
  have := h.1.2.2.2 (k / 32) (by have := hv.1; omega) (k % 32) hv.2
  rwa [show 32 * (k / 32) + k % 32 = k by omega] at this
theorem MR.ty (h : MR n T z A hg ver cq tms wl s I J) {o : Nat} (ho : o < n) : I 1 o = nI (T o) := h.2.1.1 o ho
theorem MR.ms (h : MR n T z A hg ver cq tms wl s I J) {b : Nat} (hb : b < 6) : I 9 b = nI (z b) := h.2.1.2.1 b hb
theorem MR.ac (h : MR n T z A hg ver cq tms wl s I J) {k : Nat} (hv : vld z k) : I 10 k = (A k).1 ∧ I 11 k = (A k).2.1 ∧ J 12 k = (A k).2.2.1 ∧ I 13 k = (A k).2.2.2.1 ∧ I 14 k = (A k).2.2.2.2.1 ∧ I 15 k = (A k).2.2.2.2.2 := h.2.1.2.2 k hv
theorem MR.hg40 (h : MR n T z A hg ver cq tms wl s I J) : hg ≤ 40 := h.2.2.1.1
theorem MR.okV (h : MR n T z A hg ver cq tms wl s I J) : ∀ a, a ≤ hg → ∀ o, o < n → okBd n (T o) (ver a o) := h.2.2.1.2
theorem MR.ok (h : MR n T z A hg ver cq tms wl s I J) : okS n T s := h.2.2.2.1
theorem MR.arV (h : MR n T z A hg ver cq tms wl s I J) : ∀ a, a ≤ hg → arA n T (J 3) (I 4) (I 5) a (ver a) := h.2.2.2.2.1
theorem MR.arS (h : MR n T z A hg ver cq tms wl s I J) : arA n T (J 3) (I 4) (I 5) 41 (bdS s) := h.2.2.2.2.2.1
theorem MR.cqI (h : MR n T z A hg ver cq tms wl s I J) {o : Nat} (ho : o < 24) : I 6 o = b2i (cq o) := h.2.2.2.2.2.2.1 o ho
theorem MR.ldI (h : MR n T z A hg ver cq tms wl s I J) {o : Nat} (ho : o < 24) : I 24 o = b2i (ldS s o) := h.2.2.2.2.2.2.2.1 o ho
theorem MR.tmI (h : MR n T z A hg ver cq tms wl s I J) {L : Nat} (hL : L < 192) : I 8 L = tms L := h.2.2.2.2.2.2.2.2.1 L hL
theorem MR.wl192 (h : MR n T z A hg ver cq tms wl s I J) : wl.length ≤ 192 := h.2.2.2.2.2.2.2.2.2.1.1
theorem MR.wlI (h : MR n T z A hg ver cq tms wl s I J) {i : Nat} (hi : i < wl.length) : I 23 i = nI (wl.getD i 0) := h.2.2.2.2.2.2.2.2.2.1.2 i hi
theorem MR.trI (h : MR n T z A hg ver cq tms wl s I J) {i : Nat} (hi : i < (trS s).length) : I 20 i = nI ((trS s).getD i 0 / 2) ∧ I 21 i = nI ((trS s).getD i 0 % 2) := h.2.2.2.2.2.2.2.2.2.2.1 i hi
theorem MR.haI (h : MR n T z A hg ver cq tms wl s I J) {x : Nat} (hx : x < 4) : I 26 x = haS s x := h.2.2.2.2.2.2.2.2.2.2.2.1 x hx
theorem MR.vaI (h : MR n T z A hg ver cq tms wl s I J) {x : Nat} (hx : x < 4) : J 27 x = vaS s x := h.2.2.2.2.2.2.2.2.2.2.2.2.1 x hx
theorem MR.cqn (h : MR n T z A hg ver cq tms wl s I J) : ∀ o, cq o = true → o < n := h.2.2.2.2.2.2.2.2.2.2.2.2.2
theorem MR.trB (h : MR n T z A hg ver cq tms wl s I J) {i : Nat} (hi : i < (trS s).length) : (trS s).getD i 0 < 384 := h.ok.2.2.1.2 _ (getD_mem hi)
end MRa
theorem tch_hit {lf hw : Int32} {c : Nat} (h1 : 0 ≤ lf.toInt) (h2 : 0 ≤ hw.toInt) (hc : c < 384) (e1 : nI (c / 2) = lf) (e2 : nI (c % 2) = hw) : c = 2 * lf.toNatClampNeg + hw.toNatClampNeg := by
  rw [← e1, ← e2, nI_cl (by omega), nI_cl (by omega)]
  omega
theorem tch_a {lf hw : Int32} (h1 : 0 ≤ lf.toInt) (h2 : 0 ≤ hw.toInt ∧ hw.toInt < 2) : nI ((2 * lf.toNatClampNeg + hw.toNatClampNeg) / 2) = lf := by
  have := ic_clN (rfl : hw.toInt = _) h2.1
  rw [show (2 * lf.toNatClampNeg + hw.toNatClampNeg) / 2 = lf.toNatClampNeg by omega, nI_ofC h1]
theorem tch_b {lf hw : Int32} (h1 : 0 ≤ lf.toInt) (h2 : 0 ≤ hw.toInt ∧ hw.toInt < 2) : nI ((2 * lf.toNatClampNeg + hw.toNatClampNeg) % 2) = hw := by
  have := ic_clN (rfl : hw.toInt = _) h2.1
  rw [show (2 * lf.toNatClampNeg + hw.toNatClampNeg) % 2 = hw.toNatClampNeg by omega, nI_ofC h2.1]
theorem rd_eq {s1 : tS} {hd j o : Nat} {x : Int32} (hx : x.toInt = 8 * (o : Int) + (j : Int)) (h0 : 0 ≤ x.toInt) (ho : hob s1 hd = o) : rdL s1 hd j = sTc s1 (2 * x.toNatClampNeg + (0 : Int32).toNatClampNeg) := by
  have := ic_clN (rfl : x.toInt = _) h0
  unfold rdL
  rw [ho, show (0 : Int32).toNatClampNeg = 0 from rfl, show x.toNatClampNeg = 8 * o + j by omega]
  rfl
theorem i64_m3 {v : Int64} (h : v.toInt = -3) : v = -3 := Int64.toInt_inj.mp (h.trans (by decide))
theorem iRf_1 {b : tB} {j : Nat} {v : Int64} (h : (b.1 j).toInt = -3) : iRf b j v = 1 := by unfold iRf; rw [if_pos (i64_m3 h)]
theorem iRf_y {b : tB} {j : Nat} {v : Int64} (h : (b.1 j).toInt ≠ -3) (h2 : 0 ≤ v.toInt) (h3 : v.toInt < (b.1 j).toInt) : iRf b j v = 0 := by
  unfold iRf; rw [if_neg (fun z => h (by rw [z]; decide)), if_pos ⟨h2, h3⟩]
theorem iRf_n {b : tB} {j : Nat} {v : Int64} (h : (b.1 j).toInt ≠ -3) (h2 : v.toInt < 0 ∨ (b.1 j).toInt ≤ v.toInt) : iRf b j v = 3 := by
  unfold iRf; rw [if_neg (fun z => h (by rw [z]; decide)), if_neg (by omega)]
theorem shR_1 {b1 b2 : tB} {j1 j2 : Nat} {m : Int64} (h : (b1.1 j1).toInt = -3 ∨ (b2.1 j2).toInt = -3) : shR b1 b2 j1 j2 m = 1 := by
  unfold shR; rw [if_pos (h.elim (fun q => Or.inl (i64_m3 q)) (fun q => Or.inr (i64_m3 q)))]
theorem shR_n {b1 b2 : tB} {j1 j2 : Nat} {m : Int64} (h1 : (b1.1 j1).toInt ≠ -3) (h2 : (b2.1 j2).toInt ≠ -3) (h : m.toInt < 0 ∨ (b1.1 j1).toInt < m.toInt ∨ (b2.1 j2).toInt < m.toInt) : shR b1 b2 j1 j2 m = 3 := by
  unfold shR; rw [if_neg (fun z => z.elim (fun q => h1 (by rw [q]; decide)) (fun q => h2 (by rw [q]; decide))), if_pos h]
theorem shR_y {b1 b2 : tB} {j1 j2 : Nat} {m : Int64} (h1 : (b1.1 j1).toInt ≠ -3) (h2 : (b2.1 j2).toInt ≠ -3) (h : ¬ (m.toInt < 0 ∨ (b1.1 j1).toInt < m.toInt ∨ (b2.1 j2).toInt < m.toInt)) : shR b1 b2 j1 j2 m = 0 := by
  unfold shR; rw [if_neg (fun z => z.elim (fun q => h1 (by rw [q]; decide)) (fun q => h2 (by rw [q]; decide))), if_neg h]
/-- two leaves are alike just where their bodies have the same field -/
theorem alk_iff {n t : Nat} {nu : Nat → Int64} {sz it : Nat → Int32} {a1 o1 a2 o2 j : Nat} {b1 b2 : tB} (hj : j < 8) (h1 : arO t nu sz it a1 o1 b1) (h2 : arO t nu sz it a2 o2 b2) (k1 : okBd n t b1) (k2 : okBd n t b2) : (nu (192 * a1 + 8 * o1 + j) = nu (192 * a2 + 8 * o2 + j) ∧ sz (192 * a1 + 8 * o1 + j) = sz (192 * a2 + 8 * o2 + j) ∧ ∀ i : Nat, (i : Int) < (sz (192 * a1 + 8 * o1 + j)).toInt → it (8 * (192 * a1 + 8 * o1 + j) + i) = it (8 * (192 * a2 + 8 * o2 + j) + i)) ↔ sameF t j b1 b2 := by
  obtain ⟨p1, p2, p3⟩ := h1 j hj
  obtain ⟨q1, q2, q3⟩ := h2 j hj
  rw [p1, p2, q1, q2]
  by_cases hs : srt t j = 3
  · have e1 := ((k1 j hj).2.2 hs).1
    have e2 := ((k2 j hj).2.2 hs).1
    have z1 := ((k1 j hj).2.2 hs).2
    have z2 := ((k2 j hj).2.2 hs).2
    have c1 : (b1.1 j).toInt32.toInt = (b1.1 j).toInt := ic_l2i rfl rfl (by omega) (by omega)
    have c2 : (b2.1 j).toInt32.toInt = (b2.1 j).toInt := ic_l2i rfl rfl (by omega) (by omega)
    unfold nuOf szOf sameF
    rw [if_pos hs, if_pos hs, if_pos hs, if_pos hs]
    constructor
    · rintro ⟨-, hz, hi⟩
      have hc : b1.1 j = b2.1 j := Int64.toInt_inj.mp (by rw [← c1, ← c2, hz])
      refine ⟨hc, fun _ i hi8 => ?_⟩
      by_cases hlt : (i : Int) < (b1.1 j).toInt
      · have := hi i (by omega)
        rw [p3 hs i hi8, q3 hs i hi8] at this
        exact this
      · rw [z1 i hi8 (by omega), z2 i hi8 (by rw [← hc]; omega)]
    · rintro ⟨hc, hi⟩
      refine ⟨rfl, by rw [hc], fun i hlt => ?_⟩
      have hi8 : i < 8 := by omega
      rw [p3 hs i hi8, q3 hs i hi8]
      exact hi hs i hi8
  · unfold nuOf szOf sameF
    rw [if_neg hs, if_neg hs, if_neg hs, if_neg hs]
    constructor
    · rintro ⟨hc, -, -⟩
      exact ⟨hc, fun z => absurd z hs⟩
    · rintro ⟨hc, -⟩
      exact ⟨hc, rfl, fun i hi => by have : (-3 : Int32).toInt = -3 := (by decide); omega⟩
theorem arO_sz {n t : Nat} {nu : Nat → Int64} {sz it : Nat → Int32} {a o j : Nat} {b : tB} (hj : j < 8) (h : arO t nu sz it a o b) (k : okBd n t b) : (sz (192 * a + 8 * o + j)).toInt ≤ 8 := by
  rw [(h j hj).2.1]
  unfold szOf
  split
  · rename_i hs
    have e1 := ((k j hj).2.2 hs).1
    have c1 : (b.1 j).toInt32.toInt = (b.1 j).toInt := ic_l2i rfl rfl (by omega) (by omega)
    omega
  · decide
theorem lkF_0 {t p q m j : Nat} {s : tS} (h : srt t j = 0) : lkF t p q m j s = (true, s) := by
  cases m with
  | zero => rfl
  | succ m => unfold lkF; rw [if_pos h]
theorem lkF_y {t p q m j : Nat} {s : tS} (h : srt t j ≠ 0) (h2 : sameF t j (bdS s p) (bdS s q)) : lkF t p q (m + 1) j s = lkF t p q m (j + 1) (sTc (sTc s (2 * (8 * p + j))) (2 * (8 * q + j))) := by
  conv => lhs; unfold lkF
  rw [if_neg h, if_pos (sameD_t.mpr h2)]
theorem lkF_n {t p q m j : Nat} {s : tS} (h : srt t j ≠ 0) (h2 : ¬ sameF t j (bdS s p) (bdS s q)) : lkF t p q (m + 1) j s = (false, sTc (sTc s (2 * (8 * p + j))) (2 * (8 * q + j))) := by
  conv => lhs; unfold lkF
  rw [if_neg h, if_neg (fun z => h2 (sameD_t.mp z))]
theorem srt_8 : ∀ t, t < 3 → srt t 7 = 0 ∧ srt t 6 = 0 := by decide +kernel
theorem srt_88 : ∀ t, t < 3 → srt t 8 = srt (t + 1) 0 := by intro t _; unfold srt; congr 2
theorem zr_step {g g0 : Nat → Int32} {a k : Nat} (h : ∀ x, g x = if a ≤ x ∧ x < a + k then 0 else g0 x) : ∀ x, upd g (a + k) 0 x = if a ≤ x ∧ x < a + (k + 1) then 0 else g0 x := by
  intro x
  unfold upd
  by_cases hx : x = a + k
  · rw [if_pos hx, if_pos (by omega)]
  · rw [if_neg hx, h x]
    by_cases h2 : a ≤ x ∧ x < a + k
    · rw [if_pos h2, if_pos (by omega)]
    · rw [if_neg h2, if_neg (by omega)]
end
section
/-! a height's area is copied -/
section CPA
variable {n : Nat} {T : Nat → Nat} {nu : Nat → Int64} {sz it : Nat → Int32} {a c x : Nat} {b : Nat → tB}
theorem arA_cp (hn : n ≤ 24) (h : arA n T nu sz it a b) : arA n T (va_cpy nu nu (192 * a) (192 * c) 192) (va_cpy sz sz (192 * a) (192 * c) 192) (va_cpy it it (1536 * a) (1536 * c) (8 * 192)) c b := by
  have e1 : ∀ {α : Type} (g : Nat → α) (o j : Nat), o < 24 → j < 8 → va_cpy g g (192 * a) (192 * c) 192 (192 * c + 8 * o + j) = g (192 * a + 8 * o + j) := fun g o j ho hj => by
    rw [show 192 * c + 8 * o + j = 192 * c + (8 * o + j) by omega, cpy_at (by omega), show 192 * a + (8 * o + j) = 192 * a + 8 * o + j by omega]
  have e2 : ∀ (o j i : Nat), o < 24 → j < 8 → i < 8 → va_cpy it it (1536 * a) (1536 * c) (8 * 192) (8 * (192 * c + 8 * o + j) + i) = it (8 * (192 * a + 8 * o + j) + i) := fun o j i ho hj hi => by
    rw [show 8 * (192 * c + 8 * o + j) + i = 1536 * c + (8 * (8 * o + j) + i) by omega, cpy_at (by omega), show 1536 * a + (8 * (8 * o + j) + i) = 8 * (192 * a + 8 * o + j) + i by omega]
  refine ⟨fun o ho j hj => ?_, fun o ho ho2 j hj => ?_⟩
  · rw [e1 nu o j (by omega) hj, e1 sz o j (by omega) hj]
    exact ⟨(h.1 o ho j hj).1, (h.1 o ho j hj).2.1, fun hs i hi => by rw [e2 o j i (by omega) hj hi]; exact (h.1 o ho j hj).2.2 hs i hi⟩
  · rw [e1 nu o j ho2 hj, e1 sz o j ho2 hj]
    exact ⟨(h.2 o ho ho2 j hj).1, (h.2 o ho ho2 j hj).2.1, fun i hi => by rw [e2 o j i ho2 hj hi]; exact (h.2 o ho ho2 j hj).2.2 i hi⟩
theorem arA_cpX (hn : n ≤ 24) (hx : x ≠ c) (h : arA n T nu sz it x b) : arA n T (va_cpy nu nu (192 * a) (192 * c) 192) (va_cpy sz sz (192 * a) (192 * c) 192) (va_cpy it it (1536 * a) (1536 * c) (8 * 192)) x b := by
  have e1 : ∀ {α : Type} (g : Nat → α) (o j : Nat), o < 24 → j < 8 → va_cpy g g (192 * a) (192 * c) 192 (192 * x + 8 * o + j) = g (192 * x + 8 * o + j) := fun g o j ho hj => cpy_out (by omega)
  have e2 : ∀ (o j i : Nat), o < 24 → j < 8 → i < 8 → va_cpy it it (1536 * a) (1536 * c) (8 * 192) (8 * (192 * x + 8 * o + j) + i) = it (8 * (192 * x + 8 * o + j) + i) := fun o j i ho hj hi => cpy_out (by omega)
  refine ⟨fun o ho j hj => ?_, fun o ho ho2 j hj => ?_⟩
  · rw [e1 nu o j (by omega) hj, e1 sz o j (by omega) hj]
    exact ⟨(h.1 o ho j hj).1, (h.1 o ho j hj).2.1, fun hs i hi => by rw [e2 o j i (by omega) hj hi]; exact (h.1 o ho j hj).2.2 hs i hi⟩
  · rw [e1 nu o j ho2 hj, e1 sz o j ho2 hj]
    exact ⟨(h.2 o ho ho2 j hj).1, (h.2 o ho ho2 j hj).2.1, fun i hi => by rw [e2 o j i ho2 hj hi]; exact (h.2 o ho ho2 j hj).2.2 i hi⟩
end CPA
/-- other bodies -/
def sAll (s : tS) (b : Nat → tB) : tS := (b, ldS s, haS s, vaS s, trS s, gfS s)
theorem okS_all {n : Nat} {T : Nat → Nat} {s : tS} {b : Nat → tB} (h : okS n T s) (hb : ∀ o, o < n → okBd n (T o) (b o)) : okS n T (sAll s b) := ⟨hb, h.2⟩
section MRc
variable {n : Nat} {T z : Nat → Nat} {A : Nat → tA} {hg : Nat} {ver : Nat → Nat → tB} {cq : Nat → Bool} {tms : Nat → Int32} {wl : List Nat} {s : tS} {I : Nat → Nat → Int32} {J : Nat → Nat → Int64}
theorem MR.toAT (h : MR n T z A hg ver cq tms wl s I J) : MR n T z A hg ver cq tms wl (sAll s (ver hg)) (va_up (va_up I 4 (va_cpy (I 4) (I 4) (192 * hg) (192 * 41) 192)) 5 (va_cpy (I 5) (I 5) (1536 * hg) (1536 * 41) (8 * 192))) (va_up J 3 (va_cpy (J 3) (J 3) (192 * hg) (192 * 41) 192)) := by
  obtain ⟨r1, r2, r3, r4, r5, r6, r7, r8, r9, r10, r11, r12, r13, r14⟩ := h
  have h40 := r3.1
  exact ⟨r1, r2, r3, okS_all r4 (r3.2 hg (Nat.le_refl _)), fun a ha => arA_cpX r1.1 (by omega) (r5 a ha), arA_cp r1.1 (r5 hg (Nat.le_refl _)), r7, r8, r9, r10, r11, r12, r13, r14⟩
theorem MR.rise (h : MR n T z A hg ver cq tms wl s I J) (h39 : hg ≤ 39) {g6 : Nat → Int32} (h6 : ∀ o, o < 24 → g6 o = 0) : MR n T z A (hg + 1) (va_up ver (hg + 1) (bdS s)) (fun _ => false) tms wl s (va_up (va_up (va_up I 4 (va_cpy (I 4) (I 4) (192 * 41) (192 * (hg + 1)) 192)) 5 (va_cpy (I 5) (I 5) (1536 * 41) (1536 * (hg + 1)) (8 * 192))) 6 g6) (va_up J 3 (va_cpy (J 3) (J 3) (192 * 41) (192 * (hg + 1)) 192)) := by
  obtain ⟨r1, r2, r3, r4, r5, r6, r7, r8, r9, r10, r11, r12, r13, r14⟩ := h
  refine ⟨r1, r2, ⟨by omega, fun a ha o ho => ?_⟩, r4, fun a ha => ?_, arA_cpX r1.1 (by omega) r6, fun o ho => h6 o ho, r8, r9, r10, r11, r12, r13, fun o h_ => by cases h_⟩
  · by_cases e : a = hg + 1
    · subst e; rw [va_up_self]; exact r4.1 o ho
    · rw [va_up_ne _ _ e]; exact r3.2 a (by omega) o ho
  · by_cases e : a = hg + 1
    · rw [e, show va_up ver (hg + 1) (bdS s) (hg + 1) = bdS s from va_up_self _ _ _]; exact arA_cp r1.1 r6
    · rw [show va_up ver (hg + 1) (bdS s) a = ver a from va_up_ne _ _ e]; exact arA_cpX r1.1 e (r5 a (by omega))
/-- a call begins -/
def s0C (b : Nat → tB) (o : Int32) (v : Int64) : tS := (b, fun _ => false, fun x => if x = 0 then o else -3, fun x => if x = 0 then v else 0, [], 0)
theorem okS_0 {b : Nat → tB} {o : Int32} {v : Int64} (hb : ∀ o, o < n → okBd n (T o) (b o)) (ho : okHa n o) : okS n T (s0C b o v) := ⟨hb, fun x _ => by
  show okHa n (if x = 0 then o else -3)
  split
  · exact ho
  · exact Or.inl (by decide), ⟨List.nodup_nil, fun c h => absurd h List.not_mem_nil⟩, fun o h => by cases h⟩
theorem MR.beg (h : MR n T z A hg ver cq tms wl s I J) {o : Int32} {v : Int64} {g24 g26 : Nat → Int32} {g27 : Nat → Int64} (ho : okHa n o) (h24 : ∀ q, q < 24 → g24 q = 0) (h26 : ∀ x, x < 4 → g26 x = if x = 0 then o else -3) (h27 : ∀ x, x < 4 → g27 x = if x = 0 then v else 0) : MR n T z A hg ver cq tms [] (s0C (bdS s) o v) (va_up (va_up I 24 g24) 26 g26) (va_up J 27 g27) := by
  obtain ⟨r1, r2, r3, r4, r5, r6, r7, r8, r9, r10, r11, r12, r13, r14⟩ := h
  exact ⟨r1, r2, r3, okS_0 r4.1 ho, r5, r6, r7, fun q hq => h24 q hq, r9, ⟨Nat.zero_le _, fun i hi => absurd hi (Nat.not_lt_zero i)⟩, fun i hi => absurd hi (Nat.not_lt_zero i), h26, h27, r14⟩
end MRc
/-! what a call has written -/
noncomputable def dif (n : Nat) (T : Nat → Nat) (b0 b1 : Nat → tB) (L : Nat) : Bool := decide (L / 8 < n) && !sameD (T (L / 8)) (L % 8) (b1 (L / 8)) (b0 (L / 8))
def wls (p : Nat → Bool) : Nat → List Nat
  | 0 => []
  | m + 1 => if p m = true then wls p m ++ [m] else wls p m
theorem wls_len (p : Nat → Bool) : ∀ m, (wls p m).length ≤ m
  | 0 => Nat.le_refl 0
  | m + 1 => by
    have := wls_len p m
    show (if p m = true then wls p m ++ [m] else wls p m).length ≤ m + 1
    split
    · rw [List.length_append]; show (wls p m).length + 1 ≤ m + 1; omega
    · omega
theorem wls_1 {p : Nat → Bool} {m : Nat} (h : p m = true) : wls p (m + 1) = wls p m ++ [m] := if_pos h
theorem wls_0 {p : Nat → Bool} {m : Nat} (h : p m = false) : wls p (m + 1) = wls p m := if_neg (by rw [h]; simp)
theorem wls_mem {p : Nat → Bool} {c : Nat} : ∀ m, c ∈ wls p m ↔ c < m ∧ p c = true
  | 0 => ⟨fun h => absurd h List.not_mem_nil, fun h => absurd h.1 (Nat.not_lt_zero c)⟩
  | m + 1 => by
    by_cases h : p m = true
    · rw [wls_1 h, List.mem_append, List.mem_singleton, wls_mem m]
      constructor
      · rintro (q | q)
        · exact ⟨by omega, q.2⟩
        · subst q; exact ⟨by omega, h⟩
      · intro q
        by_cases e : c = m
        · exact Or.inr e
        · exact Or.inl ⟨by omega, q.2⟩
    · have h0 : p m = false := by cases hp : p m with | true => exact absurd hp h | false => rfl
      rw [wls_0 h0, wls_mem m]
      constructor
      · exact fun q => ⟨by omega, q.2⟩
      · exact fun q => ⟨by have : c ≠ m := (fun e => by rw [e] at q; exact h q.2); omega, q.2⟩
def tmS (tms : Nat → Int32) (p : Nat → Bool) (m : Nat) : Nat → Int32 := fun L => if L < m ∧ p L = true then tms L + 1 else tms L
theorem tmS_0 {tms : Nat → Int32} {p : Nat → Bool} : tmS tms p 0 = tms := by funext L; unfold tmS; rw [if_neg (by omega)]
theorem tmS_s {tms : Nat → Int32} {p : Nat → Bool} {m : Nat} (h : p m = false) : tmS tms p (m + 1) = tmS tms p m := by
  funext L
  unfold tmS
  by_cases q : L < m ∧ p L = true
  · rw [if_pos q, if_pos ⟨by omega, q.2⟩]
  · rw [if_neg q, if_neg (fun w => q ⟨by have : L ≠ m := (fun e => by rw [e, h] at w; cases w.2); omega, w.2⟩)]
theorem tmS_u {tms : Nat → Int32} {p : Nat → Bool} {m : Nat} (h : p m = true) : upd (tmS tms p m) m (tmS tms p m m + 1) = tmS tms p (m + 1) := by
  funext L
  unfold upd
  by_cases e : L = m
  · subst e
    rw [if_pos rfl]
    unfold tmS
    rw [if_neg (by omega), if_pos ⟨by omega, h⟩]
  · rw [if_neg e]
    unfold tmS
    by_cases q : L < m ∧ p L = true
    · rw [if_pos q, if_pos ⟨by omega, q.2⟩]
    · rw [if_neg q, if_neg (fun w => q ⟨by omega, w.2⟩)]
section MRw
variable {n : Nat} {T z : Nat → Nat} {A : Nat → tA} {hg : Nat} {ver : Nat → Nat → tB} {cq : Nat → Bool} {tms : Nat → Int32} {wl : List Nat} {s : tS} {I : Nat → Nat → Int32} {J : Nat → Nat → Int64}
theorem MR.wr (h : MR n T z A hg ver cq tms wl s I J) {c : Nat} {tms2 : Nat → Int32} {g8 g23 : Nat → Int32} (hl : wl.length < 192) (e23 : g23 = upd (I 23) wl.length (nI c)) (h8 : ∀ L, L < 192 → g8 L = tms2 L) : MR n T z A hg ver cq tms2 (wl ++ [c]) s (va_up (va_up I 23 g23) 8 g8) J := by
  obtain ⟨r1, r2, r3, r4, r5, r6, r7, r8, r9, r10, r11, r12, r13, r14⟩ := h
  refine ⟨r1, r2, r3, r4, r5, r6, r7, r8, fun L hL => h8 L hL, ⟨by rw [List.length_append]; show wl.length + 1 ≤ 192; omega, fun i hi => ?_⟩, r11, r12, r13, r14⟩
  rw [List.length_append] at hi
  have hi : i < wl.length + 1 := hi
  show g23 i = _
  rw [e23]
  by_cases e : i = wl.length
  · subst e
    rw [getD_last]
    unfold upd
    exact if_pos rfl
  · rw [getD_app (by omega)]
    unfold upd
    rw [if_neg e]
    exact r10.2 i (by omega)
/-- whether a leaf is as it was, by what the reference compares -/
theorem MR.alk (h : MR n T z A hg ver cq tms wl s I J) {L : Nat} (hL : L < 192) : (J 3 (192 * 41 + L) = J 3 (192 * hg + L) ∧ I 4 (192 * 41 + L) = I 4 (192 * hg + L) ∧ ∀ i : Nat, (i : Int) < (I 4 (192 * 41 + L)).toInt → I 5 (8 * (192 * 41 + L) + i) = I 5 (8 * (192 * hg + L) + i)) ↔ dif n T (ver hg) (bdS s) L = false := by
  have hn := h.n24
  have e1 : ∀ q, 192 * q + L = 192 * q + 8 * (L / 8) + L % 8 := fun q => by omega
  rw [e1 41, e1 hg]
  unfold dif
  by_cases ho : L / 8 < n
  · rw [alk_iff (n := n) (by omega) (h.arS.1 _ ho) ((h.arV hg (Nat.le_refl _)).1 _ ho) (h.ok.1 _ ho) (h.okV hg (Nat.le_refl _) _ ho)]
    rw [← sameD_t]
    simp [ho]
  · have z1 := h.arS.2 (L / 8) (by omega) (by omega) (L % 8) (by omega)
    have z2 := (h.arV hg (Nat.le_refl _)).2 (L / 8) (by omega) (by omega) (L % 8) (by omega)
    rw [z1.1, z1.2.1, z2.1, z2.2.1]
    have : (0 : Int32).toInt = 0 := rfl
    constructor
    · intro _; simp [ho]
    · intro _; exact ⟨rfl, rfl, fun i hi => by omega⟩
theorem MR.sz8 (h : MR n T z A hg ver cq tms wl s I J) {L : Nat} (hL : L < 192) : (I 4 (192 * 41 + L)).toInt ≤ 8 := by
  have hn := h.n24
  rw [show 192 * 41 + L = 192 * 41 + 8 * (L / 8) + L % 8 by omega]
  by_cases ho : L / 8 < n
  · exact arO_sz (n := n) (by omega) (h.arS.1 _ ho) (h.ok.1 _ ho)
  · rw [(h.arS.2 (L / 8) (by omega) (by omega) (L % 8) (by omega)).2.1]; decide
theorem MR.wl0 (h : MR n T z A hg ver cq tms wl s I J) : MR n T z A hg ver cq tms [] s I J := ⟨h.1, h.2.1, h.2.2.1, h.2.2.2.1, h.2.2.2.2.1, h.2.2.2.2.2.1, h.2.2.2.2.2.2.1, h.2.2.2.2.2.2.2.1, h.2.2.2.2.2.2.2.2.1, ⟨Nat.zero_le _, fun i hi => absurd hi (Nat.not_lt_zero i)⟩, h.2.2.2.2.2.2.2.2.2.2⟩
end MRw
end
section
theorem rnS_end {T : Nat → Nat} {A : Nat → tA} {z m p c : Nat} {s : tS} (h : ¬ p < z) : rnS T A z m p c s = (0, 0, c, s) := by
  cases m with
  | zero => unfold rnS; rw [if_neg h]
  | succ m => unfold rnS; rw [if_neg h]
theorem rnS_7 {T : Nat → Nat} {A : Nat → tA} {z p c : Nat} {s : tS} (h : p < z) : rnS T A z 0 p c s = (7, p, c, s) := by unfold rnS; rw [if_pos h]
theorem rnS_t {T : Nat → Nat} {A : Nat → tA} {z m p c : Nat} {s : tS} (h : p < z) (h0 : (prf T (A p) s).1 ≠ 0) : rnS T A z (m + 1) p c s = ((prf T (A p) s).1, p, c + 1, (prf T (A p) s).2) := by
  conv => lhs; unfold rnS
  rw [if_pos h, if_neg h0]
theorem rnS_g {T : Nat → Nat} {A : Nat → tA} {z m p c : Nat} {s : tS} (h : p < z) (h0 : (prf T (A p) s).1 = 0) : rnS T A z (m + 1) p c s = rnS T A z m (nxt (A p) p s) (c + 1) (prf T (A p) s).2 := by
  conv => lhs; unfold rnS
  rw [if_pos h, if_pos h0]
theorem cqL_0 {c : Nat → Bool} {b : Nat → tB} {o : Int32} {v : Int64} : cqL c (s0C b o v) = c := by
  funext q
  show (c q || false) = c q
  cases c q <;> rfl
theorem feL_0 {fe : Int32} {c : Nat → Bool} {b : Nat → tB} {o : Int32} {v : Int64} : feL fe c (s0C b o v) = fe := by
  unfold feL
  rw [cnt_0 24 (fun q _ => by show (false && !c q) = false; rfl)]
  exact Int32.add_zero fe
noncomputable def rnC (T z : Nat → Nat) (A : Nat → tA) (bd : Nat → tB) (b : Nat) (o : Int32) (v : Int64) : Nat × Nat × Nat × tS := rnS T (fun q => A (32 * b + q)) (z b) 200 0 0 (s0C bd o v)
theorem rnC_gf {T z : Nat → Nat} {A : Nat → tA} {bd : Nat → tB} {b : Nat} {o : Int32} {v : Int64} (hz : z b ≤ 32) (hA : ∀ p, p < z b → okA (A (32 * b + p))) (h : (rnC T z A bd b o v).1 ≠ 0) : gfS (rnC T z A bd b o v).2.2.2 = 0 := rnS_gf (A := fun q => A (32 * b + q)) hz hA 200 0 0 _ rfl h
theorem tmS_nil {tms : Nat → Int32} {p : Nat → Bool} {m : Nat} (h : wls p m = []) : tmS tms p m = tms := by
  funext L
  unfold tmS
  rw [if_neg (fun q => by have := (wls_mem (p := p) (c := L) m).mpr q; rw [h] at this; exact absurd this List.not_mem_nil)]
end
section
/-! a new object -/
def fstN (t j : Nat) : Int64 := if srt t j = 2 then -3 else 0
def fstB (t : Nat) : tB := (fun j => if srt t j = 2 ∨ srt t j = 3 then -3 else 0, fun _ => 0)
def dnF (n h f x : Nat) : Prop := x % 192 / 8 = n ∧ (x / 192 < h ∨ (x / 192 = h ∧ x % 8 < f))
def isF {α : Type} (n h f : Nat) (F : Nat → α) (g g0 : Nat → α) : Prop := ∀ x, (dnF n h f x → g x = F (x % 8)) ∧ (¬ dnF n h f x → g x = g0 x)
theorem isF_0 {α : Type} {n : Nat} {F g : Nat → α} : isF n 0 0 F g g := fun x => ⟨fun h => by unfold dnF at h; omega, fun _ => rfl⟩
theorem isF_up {α : Type} {n h : Nat} {F g g0 : Nat → α} (hi : isF n h 8 F g g0) : isF n (h + 1) 0 F g g0 := fun x => ⟨fun q => (hi x).1 (by unfold dnF at q ⊢; omega), fun q => (hi x).2 (by unfold dnF at q ⊢; omega)⟩
theorem isF_st {α : Type} {n h f : Nat} {F g g0 g2 : Nat → α} (hf : f < 8) (hn : n < 24) (hi : isF n h f F g g0) (h1 : g2 (192 * h + 8 * n + f) = F f) (h2 : ∀ x, x ≠ 192 * h + 8 * n + f → g2 x = g x) : isF n h (f + 1) F g2 g0 := fun x => by
  by_cases e : x = 192 * h + 8 * n + f
  · subst e
    refine ⟨fun _ => ?_, fun q => absurd ?_ q⟩
    · rw [h1, show (192 * h + 8 * n + f) % 8 = f by omega]
    · unfold dnF; omega
  · rw [h2 x e]
    exact ⟨fun q => (hi x).1 (by unfold dnF at q ⊢; omega), fun q => (hi x).2 (by unfold dnF at q ⊢; omega)⟩
theorem okBd_up {n t : Nat} {b : tB} (h : okBd n t b) : okBd (n + 1) t b := fun j hj => ⟨(h j hj).1, fun q => by have := (h j hj).2.1 q; omega, (h j hj).2.2⟩
theorem okBd_f {n t : Nat} : okBd n t (fstB t) := fun j hj => by
  refine ⟨fun q => ?_, fun q => ?_, fun q => ⟨?_, fun _ _ _ => rfl⟩⟩
  · show (if srt t j = 2 ∨ srt t j = 3 then (-3 : Int64) else 0) = 0
    rw [if_neg (by omega)]
  · show (if srt t j = 2 ∨ srt t j = 3 then (-3 : Int64) else 0).toInt = -3 ∨ _
    rw [if_pos (by omega)]; exact Or.inl (by decide)
  · show (if srt t j = 2 ∨ srt t j = 3 then (-3 : Int64) else 0).toInt = -3 ∨ _
    rw [if_pos (by omega)]; exact Or.inl (by decide)
theorem okHa_up {n : Nat} {x : Int32} (h : okHa n x) : okHa (n + 1) x := by unfold okHa at *; omega
section MRo
variable {n : Nat} {T z : Nat → Nat} {A : Nat → tA} {hg : Nat} {ver : Nat → Nat → tB} {cq : Nat → Bool} {tms : Nat → Int32} {wl : List Nat} {s : tS} {I : Nat → Nat → Int32} {J : Nat → Nat → Int64}
theorem arA_new {nu nu2 : Nat → Int64} {sz sz2 it : Nat → Int32} {a t : Nat} {b : Nat → tB} (hn : n < 24) (ha : a ≤ 41) (h : arA n T nu sz it a b) (hnu : isF n 42 0 (fstN t) nu2 nu) (hsz : isF n 42 0 (fun _ => -3) sz2 sz) : arA (n + 1) (va_up T n t) nu2 sz2 it a (va_up b n (fstB t)) := by
  have e1 : ∀ o j, o < 24 → j < 8 → o ≠ n → nu2 (192 * a + 8 * o + j) = nu (192 * a + 8 * o + j) ∧ sz2 (192 * a + 8 * o + j) = sz (192 * a + 8 * o + j) := fun o j ho hj hne => ⟨(hnu _).2 (by unfold dnF; omega), (hsz _).2 (by unfold dnF; omega)⟩
  refine ⟨fun o ho j hj => ?_, fun o ho ho2 j hj => ?_⟩
  · by_cases e : o = n
    · subst e
      rw [va_up_self, va_up_self, (hnu _).1 (by unfold dnF; omega), (hsz _).1 (by unfold dnF; omega), show (192 * a + 8 * o + j) % 8 = j by omega]
      refine ⟨?_, ?_, fun hs i hi => (h.2 o (Nat.le_refl _) hn j hj).2.2 i hi⟩
      · show fstN t j = nuOf t j (if srt t j = 2 ∨ srt t j = 3 then -3 else 0)
        unfold fstN nuOf
        by_cases h3 : srt t j = 3
        · rw [if_pos h3, if_neg (by omega)]
        · rw [if_neg h3]
          by_cases h2 : srt t j = 2
          · rw [if_pos h2, if_pos (Or.inl h2)]
          · rw [if_neg h2, if_neg (by omega)]
      · show (-3 : Int32) = szOf t j (if srt t j = 2 ∨ srt t j = 3 then -3 else 0)
        unfold szOf
        split
        · rename_i h3; rw [if_pos (Or.inr h3)]; decide
        · rfl
    · rw [va_up_ne _ _ e, va_up_ne _ _ e, (e1 o j (by omega) hj e).1, (e1 o j (by omega) hj e).2]
      exact h.1 o (by omega) j hj
  · rw [(e1 o j ho2 hj (by omega)).1, (e1 o j ho2 hj (by omega)).2]
    exact h.2 o (by omega) ho2 j hj
theorem MR.obj (h : MR n T z A hg ver cq tms wl s I J) {t : Nat} {g1 sz2 : Nat → Int32} {nu2 : Nat → Int64} (hn : n < 24) (ht : t < 3) (h1 : g1 = upd (I 1) n (nI t)) (hnu : isF n 42 0 (fstN t) nu2 (J 3)) (hsz : isF n 42 0 (fun _ => -3) sz2 (I 4)) : MR (n + 1) (va_up T n t) z A hg (fun a => va_up (ver a) n (fstB t)) cq tms wl (sBd s n (fstB t)) (va_up (va_up I 1 g1) 4 sz2) (va_up J 3 nu2) := by
  obtain ⟨r1, r2, r3, r4, r5, r6, r7, r8, r9, r10, r11, r12, r13, r14⟩ := h
  have hbd : ∀ (b : Nat → tB), (∀ o, o < n → okBd n (T o) (b o)) → ∀ o, o < n + 1 → okBd (n + 1) (va_up T n t o) (va_up b n (fstB t) o) := fun b hb o ho => by
    by_cases e : o = n
    · subst e; rw [va_up_self, va_up_self]; exact okBd_f
    · rw [va_up_ne _ _ e, va_up_ne _ _ e]; exact okBd_up (hb o (by omega))
  refine ⟨⟨by omega, fun o => ?_, r1.2.2⟩, ⟨fun o ho => ?_, r2.2⟩, ⟨r3.1, fun a ha => hbd _ (r3.2 a ha)⟩, ⟨hbd _ r4.1, fun x hx => okHa_up (r4.2.1 x hx), r4.2.2.1, fun o ho => by have := r4.2.2.2 o ho; omega⟩, fun a ha => arA_new hn (by have := r3.1; omega) (r5 a ha) hnu hsz, arA_new hn (by omega) r6 hnu hsz, r7, r8, r9, r10, r11, r12, r13, fun o ho => by have := r14 o ho; omega⟩
  · by_cases e : o = n
    · rw [e, va_up_self]; exact ht
    · rw [va_up_ne _ _ e]; exact r1.2.1 o
  · show g1 o = nI (va_up T n t o)
    rw [h1]
    unfold upd va_up
    by_cases e : o = n
    · rw [if_pos e, if_pos e]
    · rw [if_neg e, if_neg e]; exact r2.1 o (by omega)
/-- an act more, no acts any more -/
theorem mrAct (h : MR n T z A hg ver cq tms wl s I J) {b : Nat} {t : tA} (hb : b < 6) (hz : z b < 32) (ht : okA t) : MR n T (va_up z b (z b + 1)) (va_up A (32 * b + z b) t) hg ver cq tms wl s (va_up (va_up (va_up (va_up (va_up (va_up I 10 (upd (I 10) (32 * b + z b) t.1)) 11 (upd (I 11) (32 * b + z b) t.2.1)) 13 (upd (I 13) (32 * b + z b) t.2.2.2.1)) 14 (upd (I 14) (32 * b + z b) t.2.2.2.2.1)) 15 (upd (I 15) (32 * b + z b) t.2.2.2.2.2)) 9 (upd (I 9) b (nI (z b + 1)))) (va_up J 12 (vp_updL (J 12) (32 * b + z b) t.2.2.1)) := by
  obtain ⟨r1, r2, r3, r4, r5, r6, r7, r8, r9, r10, r11, r12, r13, r14⟩ := h
  refine ⟨⟨r1.1, r1.2.1, fun q => ?_, fun q hq p hp => ?_⟩, ⟨r2.1, fun q hq => ?_, fun k hk => ?_⟩, r3, r4, r5, r6, r7, r8, r9, r10, r11, r12, r13, r14⟩
  · by_cases e : q = b
    · subst e; rw [va_up_self]; omega
    · rw [va_up_ne _ _ e]; exact r1.2.2.1 q
  · by_cases e : q = b
    · subst e
      rw [va_up_self] at hp
      by_cases e2 : p = z q
      · subst e2; rw [va_up_self]; exact ht
      · rw [va_up_ne _ _ (by omega)]; exact r1.2.2.2 q hq p (by omega)
    · rw [va_up_ne _ _ e] at hp
      have := r1.2.2.1 q
      rw [va_up_ne _ _ (by omega)]; exact r1.2.2.2 q hq p hp
  · show upd (I 9) b (nI (z b + 1)) q = nI (va_up z b (z b + 1) q)
    unfold upd va_up
    split
    · rfl
    · exact r2.2.1 q hq
  · show upd (I 10) (32 * b + z b) t.1 k = (va_up A (32 * b + z b) t k).1 ∧ upd (I 11) (32 * b + z b) t.2.1 k = (va_up A (32 * b + z b) t k).2.1 ∧ vp_updL (J 12) (32 * b + z b) t.2.2.1 k = (va_up A (32 * b + z b) t k).2.2.1 ∧ upd (I 13) (32 * b + z b) t.2.2.2.1 k = (va_up A (32 * b + z b) t k).2.2.2.1 ∧ upd (I 14) (32 * b + z b) t.2.2.2.2.1 k = (va_up A (32 * b + z b) t k).2.2.2.2.1 ∧ upd (I 15) (32 * b + z b) t.2.2.2.2.2 k = (va_up A (32 * b + z b) t k).2.2.2.2.2
    by_cases e : k = 32 * b + z b
    · subst e
      rw [va_up_self]
      unfold upd vp_updL
      exact ⟨if_pos rfl, if_pos rfl, if_pos rfl, if_pos rfl, if_pos rfl, if_pos rfl⟩
    · rw [va_up_ne _ _ e]
      unfold upd vp_updL
      rw [if_neg e, if_neg e, if_neg e, if_neg e, if_neg e, if_neg e]
      refine r2.2.2 k ⟨hk.1, ?_⟩
      have h2 := hk.2
      by_cases e2 : k / 32 = b
      · rw [e2, va_up_self] at h2
        rw [e2]
        omega
      · rw [va_up_ne _ _ e2] at h2; exact h2
theorem MR.clr (h : MR n T z A hg ver cq tms wl s I J) {b : Nat} (hb : b < 6) : MR n T (va_up z b 0) A hg ver cq tms wl s (va_up I 9 (upd (I 9) b 0)) J := by
  obtain ⟨r1, r2, r3, r4, r5, r6, r7, r8, r9, r10, r11, r12, r13, r14⟩ := h
  have hz : ∀ q, va_up z b 0 q ≤ z q := fun q => by
    by_cases e : q = b
    · rw [e, va_up_self]; omega
    · rw [va_up_ne _ _ e]; exact Nat.le_refl _
  refine ⟨⟨r1.1, r1.2.1, fun q => Nat.le_trans (hz q) (r1.2.2.1 q), fun q hq p hp => r1.2.2.2 q hq p (Nat.lt_of_lt_of_le hp (hz q))⟩, ⟨r2.1, fun q hq => ?_, fun k hk => r2.2.2 k ⟨hk.1, Nat.lt_of_lt_of_le hk.2 (hz _)⟩⟩, r3, r4, r5, r6, r7, r8, r9, r10, r11, r12, r13, r14⟩
  show upd (I 9) b 0 q = nI (va_up z b 0 q)
  unfold upd va_up
  split
  · rfl
  · exact r2.2.1 q hq
theorem MR.hint (h : MR n T z A hg ver cq tms wl s I J) {o : Nat} (ho : o < n) : MR n T z A hg ver (va_up cq o true) tms wl s (va_up I 6 (upd (I 6) o 1)) J := by
  obtain ⟨r1, r2, r3, r4, r5, r6, r7, r8, r9, r10, r11, r12, r13, r14⟩ := h
  refine ⟨r1, r2, r3, r4, r5, r6, fun q hq => ?_, r8, r9, r10, r11, r12, r13, fun q hq => ?_⟩
  · show upd (I 6) o 1 q = b2i (va_up cq o true q)
    unfold upd va_up
    split
    · rfl
    · exact r7 q hq
  · by_cases e : q = o
    · rw [e]; exact ho
    · rw [va_up_ne _ _ e] at hq; exact r14 q hq
end MRo
end
section
/-! what the readers answer -/
def ocK (l : List Nat) : Nat → Nat
  | 0 => 0
  | k + 1 => ocK l k + l.getD k 0 % 2
def ocn (l : List Nat) : Nat := ocK l l.length
theorem ocK_ext {l m : List Nat} : ∀ k, (∀ i, i < k → l.getD i 0 = m.getD i 0) → ocK l k = ocK m k
  | 0, _ => rfl
  | k + 1, h => by
    show ocK l k + l.getD k 0 % 2 = ocK m k + m.getD k 0 % 2
    rw [ocK_ext k (fun i hi => h i (by omega)), h k (by omega)]
theorem ocn_app (l : List Nat) (c : Nat) : ocn (l ++ [c]) = ocn l + c % 2 := by
  unfold ocn
  rw [List.length_append]
  show ocK (l ++ [c]) l.length + (l ++ [c]).getD l.length 0 % 2 = _
  rw [getD_last, ocK_ext (l := l ++ [c]) (m := l) l.length (fun i hi => getD_app hi)]
theorem ocK_le (l : List Nat) : ∀ k, ocK l k ≤ k
  | 0 => Nat.le_refl 0
  | k + 1 => by
    have := ocK_le l k
    show ocK l k + l.getD k 0 % 2 ≤ k + 1
    omega
theorem ocn_le (l : List Nat) : ocn l ≤ l.length := ocK_le l _
def tchA (l : List Nat) (k w : Int32) : Int32 := if k.toInt < 0 ∨ w.toInt < 0 ∨ 1 < w.toInt then -1 else if (l.length : Int) ≤ k.toInt then -3 else if w.toInt = 0 then nI (l.getD k.toNatClampNeg 0 / 2) else nI (l.getD k.toNatClampNeg 0 % 2)
def wrA (l : List Nat) (k : Int32) : Int32 := if k.toInt < 0 then -1 else if (l.length : Int) ≤ k.toInt then -3 else nI (l.getD k.toNatClampNeg 0)
def obA (n : Nat) (p : Nat → Bool) (o : Int32) : Int32 := if 0 ≤ o.toInt ∧ o.toInt < n then b2i (p o.toNatClampNeg) else -1
def htA (n : Nat) (p : Nat → Bool) (o : Int32) : Int32 := if 0 ≤ o.toInt ∧ o.toInt < n then b2i (!p o.toNatClampNeg) else -1
def tmA (n : Nat) (T : Nat → Nat) (tms : Nat → Int32) (j : Int32) : Int32 := if 0 ≤ j.toInt ∧ j.toInt < 192 ∧ j.toNatClampNeg / 8 < n ∧ srt (T (j.toNatClampNeg / 8)) (j.toNatClampNeg % 8) ≠ 0 then tms j.toNatClampNeg else -1
def alA (n hg : Nat) (o b : Int32) : Int32 := if 0 ≤ o.toInt ∧ o.toInt < n ∧ 0 ≤ b.toInt ∧ b.toInt < 6 then (if hg = 40 then -2 else 1) else -1
def vwP (n : Nat) (T : Nat → Nat) (hg : Nat) (o j a : Int32) : Prop := 0 ≤ o.toInt ∧ o.toInt < n ∧ 0 ≤ j.toInt ∧ j.toInt < 8 ∧ srt (T o.toNatClampNeg) j.toNatClampNeg ≠ 0 ∧ 0 ≤ a.toInt ∧ a.toInt ≤ hg
/-- a view's answer, and the status behind it -/
def vwA (n : Nat) (T : Nat → Nat) (hg : Nat) (ver : Nat → Nat → tB) (o j a i : Int32) (r : Int64) (sx : Int32) : Prop :=
  (¬ vwP n T hg o j a ∧ r = -1 ∧ sx = -1) ∨ (vwP n T hg o j a ∧ i.toInt = -3 ∧ r = (ver a.toNatClampNeg o.toNatClampNeg).1 j.toNatClampNeg ∧ sx = 0) ∨ (vwP n T hg o j a ∧ srt (T o.toNatClampNeg) j.toNatClampNeg = 3 ∧ 0 ≤ i.toInt ∧ i.toInt < ((ver a.toNatClampNeg o.toNatClampNeg).1 j.toNatClampNeg).toInt ∧ r = ((ver a.toNatClampNeg o.toNatClampNeg).2 (plc j.toNatClampNeg i.toNatClampNeg)).toInt64 ∧ sx = 0) ∨ (vwP n T hg o j a ∧ i.toInt ≠ -3 ∧ (srt (T o.toNatClampNeg) j.toNatClampNeg ≠ 3 ∨ i.toInt < 0 ∨ ((ver a.toNatClampNeg o.toNatClampNeg).1 j.toNatClampNeg).toInt ≤ i.toInt) ∧ r = -1 ∧ sx = -1)
def tdA (n hg : Nat) (fe : Int32) (l wl : List Nat) (ld : Nat → Bool) (ac : Nat) (ca : Int32) (w : Int32) : Int32 := if w.toInt = 0 then nI n else if w.toInt = 1 then nI hg else if w.toInt = 2 then fe else if w.toInt = 3 then nI l.length else if w.toInt = 4 then nI (ocn l) else if w.toInt = 5 then nI wl.length else if w.toInt = 6 then nI (cnt ld 24) else if w.toInt = 7 then nI ac else if w.toInt = 8 then ca else -1
end
section
/-! the class's memory, exactly. A body: its tag (0 and its object: a version; i + 1 and its object: a copy of the i-th Run), its type, its cells, its items, since, before, its contents. D: bodies, acts, the object's numbers (heightNow, callCount, fetchCount, cachedBits, writtenCount, viewStatus), the Runs' (loadedBits, done, gift, thrown, thrownAt, state, next), the Traces' (count, changedCount), rows of ints, of longs, of references by the number of their cell -/
abbrev tR : Type := Nat → Nat × Nat
abbrev tBo : Type := (Nat × Nat) × Nat × Nat × Nat × Int32 × Option Nat × tB
abbrev gB (b : tBo) : Nat × Nat := b.1
abbrev yB (b : tBo) : Nat := b.2.1
abbrev caB (b : tBo) : Nat := b.2.2.1
abbrev iaB (b : tBo) : Nat := b.2.2.2.1
abbrev siB (b : tBo) : Int32 := b.2.2.2.2.1
abbrev bfB (b : tBo) : Option Nat := b.2.2.2.2.2.1
abbrev cB (b : tBo) : tB := b.2.2.2.2.2.2
def stB (b : tBo) (c : tB) : tBo := (gB b, yB b, caB b, iaB b, siB b, bfB b, c)
abbrev tL : Type := Int32 × Int32 × Int32 × Int32 × Int32 × Int32
abbrev tQ : Type := Int32 × Int32 × Int64 × Int32 × Int32 × Option Nat × Int32
abbrev tD : Type := (Nat → Option tBo) × (Nat → Option tA) × tL × (Nat → tQ) × (Nat → Int32 × Int32) × (Nat → Nat → Int32) × (Nat → Nat → Int64) × (Nat → Nat → Option Nat)
abbrev BD (D : tD) : Nat → Option tBo := D.1
abbrev AD (D : tD) : Nat → Option tA := D.2.1
abbrev lD (D : tD) : tL := D.2.2.1
abbrev rD (D : tD) : Nat → tQ := D.2.2.2.1
abbrev eD (D : tD) : Nat → Int32 × Int32 := D.2.2.2.2.1
abbrev ID (D : tD) : Nat → Nat → Int32 := D.2.2.2.2.2.1
abbrev JD (D : tD) : Nat → Nat → Int64 := D.2.2.2.2.2.2.1
abbrev QD (D : tD) : Nat → Nat → Option Nat := D.2.2.2.2.2.2.2
def dB (D : tD) (a : Nat) (b : tBo) : tD := (va_up (BD D) a (some b), AD D, lD D, rD D, eD D, ID D, JD D, QD D)
def dA (D : tD) (a : Nat) (t : tA) : tD := (BD D, va_up (AD D) a (some t), lD D, rD D, eD D, ID D, JD D, QD D)
def dL (D : tD) (c : tL) : tD := (BD D, AD D, c, rD D, eD D, ID D, JD D, QD D)
def dR (D : tD) (i : Nat) (q : tQ) : tD := (BD D, AD D, lD D, va_up (rD D) i q, eD D, ID D, JD D, QD D)
def dE (D : tD) (i : Nat) (q : Int32 × Int32) : tD := (BD D, AD D, lD D, rD D, va_up (eD D) i q, ID D, JD D, QD D)
def dI (D : tD) (j : Nat) (g : Nat → Int32) : tD := (BD D, AD D, lD D, rD D, eD D, va_up (ID D) j g, JD D, QD D)
def dJ (D : tD) (j : Nat) (g : Nat → Int64) : tD := (BD D, AD D, lD D, rD D, eD D, ID D, va_up (JD D) j g, QD D)
def dQ (D : tD) (j : Nat) (g : Nat → Option Nat) : tD := (BD D, AD D, lD D, rD D, eD D, ID D, JD D, va_up (QD D) j g)
theorem ID_s {D : tD} {j : Nat} {g : Nat → Int32} : ID (dI D j g) j = g := va_up_self _ _ _
theorem ID_n {D : tD} {j x : Nat} {g : Nat → Int32} (h : x ≠ j) : ID (dI D j g) x = ID D x := va_up_ne _ _ h
theorem JD_s {D : tD} {j : Nat} {g : Nat → Int64} : JD (dJ D j g) j = g := va_up_self _ _ _
theorem JD_n {D : tD} {j x : Nat} {g : Nat → Int64} (h : x ≠ j) : JD (dJ D j g) x = JD D x := va_up_ne _ _ h
theorem QD_s {D : tD} {j : Nat} {g : Nat → Option Nat} : QD (dQ D j g) j = g := va_up_self _ _ _
theorem QD_n {D : tD} {j x : Nat} {g : Nat → Option Nat} (h : x ≠ j) : QD (dQ D j g) x = QD D x := va_up_ne _ _ h
theorem rD_s {D : tD} {j : Nat} {g : tQ} : rD (dR D j g) j = g := va_up_self _ _ _
theorem rD_n {D : tD} {j x : Nat} {g : tQ} (h : x ≠ j) : rD (dR D j g) x = rD D x := va_up_ne _ _ h
theorem eD_s {D : tD} {j : Nat} {g : Int32 × Int32} : eD (dE D j g) j = g := va_up_self _ _ _
theorem eD_n {D : tD} {j x : Nat} {g : Int32 × Int32} (h : x ≠ j) : eD (dE D j g) x = eD D x := va_up_ne _ _ h
theorem BD_s {D : tD} {a : Nat} {b : tBo} : BD (dB D a b) a = some b := va_up_self _ _ _
theorem BD_n {D : tD} {a x : Nat} {b : tBo} (h : x ≠ a) : BD (dB D a b) x = BD D x := va_up_ne _ _ h
def CM (G : mG) (k : Nat → Nat) (own : tR) (n : Nat) (z : Nat → Nat) (D : tD) (f : mF) : Prop :=
  (f (k 0) = some (.inr (5, [.ref (k 1), .int (nI n), .int (lD D).1, .ref (k 2), .ref (k 5), .ref (k 13), .ref (k 21), .int (lD D).2.1, .int (lD D).2.2.1, .int (lD D).2.2.2.1, .ref (k 3), .int (lD D).2.2.2.2.1, .ref (k 4), .int (lD D).2.2.2.2.2]))) ∧
  (f (k 1) = some (.inl (gk G 3, 24, .inr (.inr (.inr (.inr (QD D 1))))))) ∧
  (f (k 2) = some (.inl (gk G 4, 6, .inr (.inr (.inr (.inr (QD D 2))))))) ∧
  (f (k 3) = some (.inl (gk G 0, 192, .inl (ID D 3)))) ∧
  (f (k 4) = some (.inl (gk G 0, 192, .inl (ID D 4)))) ∧
  (∀ i, i < 3 → f (k (5 + 8 * i)) = some (.inr (3, [.ref (k (5 + 8 * i + 1)), .int (rD D i).1, .int (rD D i).2.1, .long (rD D i).2.2.1, .int (rD D i).2.2.2.1, .int (rD D i).2.2.2.2.1, va_rf (rD D i).2.2.2.2.2.1, .ref (k (5 + 8 * i + 5)), .ref (k (5 + 8 * i + 6)), .ref (k (5 + 8 * i + 7)), .int (rD D i).2.2.2.2.2.2]))) ∧
  (∀ i, i < 3 → f (k (5 + 8 * i + 1)) = some (.inr (4, [.ref (k (5 + 8 * i + 2)), .int (eD D i).1, .int (eD D i).2, .ref (k (5 + 8 * i + 3)), .ref (k (5 + 8 * i + 4))]))) ∧
  (∀ i, i < 3 → f (k (5 + 8 * i + 2)) = some (.inl (gk G 0, 384, .inl (ID D (5 + 8 * i + 2))))) ∧
  (∀ i, i < 3 → f (k (5 + 8 * i + 3)) = some (.inl (gk G 0, 24, .inl (ID D (5 + 8 * i + 3))))) ∧
  (∀ i, i < 3 → f (k (5 + 8 * i + 4)) = some (.inl (gk G 0, 24, .inl (ID D (5 + 8 * i + 4))))) ∧
  (∀ i, i < 3 → f (k (5 + 8 * i + 5)) = some (.inl (gk G 3, 24, .inr (.inr (.inr (.inr (QD D (5 + 8 * i + 5)))))))) ∧
  (∀ i, i < 3 → f (k (5 + 8 * i + 6)) = some (.inl (gk G 0, 4, .inl (ID D (5 + 8 * i + 6))))) ∧
  (∀ i, i < 3 → f (k (5 + 8 * i + 7)) = some (.inl (gk G 1, 4, .inr (.inl (JD D (5 + 8 * i + 7)))))) ∧
  (∀ b, b < 6 → f (k (29 + 2 * b)) = some (.inr (1, [.ref (k (29 + 2 * b + 1)), .int (nI (z b))]))) ∧
  (∀ b, b < 6 → f (k (29 + 2 * b + 1)) = some (.inl (gk G 5, 32, .inr (.inr (.inr (.inr (QD D (29 + 2 * b + 1)))))))) ∧
  (∀ a b, BD D a = some b → f (a) = some (.inr (2, [.int (nI (yB b)), .ref (caB b), .ref (iaB b), .int (siB b), va_rf (bfB b)]))) ∧
  (∀ a b, BD D a = some b → f (caB b) = some (.inl (gk G 1, 8, .inr (.inl (cB b).1)))) ∧
  (∀ a b, BD D a = some b → f (iaB b) = some (.inl (gk G 0, 16, .inl (cB b).2))) ∧
  (∀ a t, AD D a = some t → f (a) = some (.inr (0, [.int t.1, .int t.2.1, .long t.2.2.1, .int t.2.2.2.1, .int t.2.2.2.2.1, .int t.2.2.2.2.2]))) ∧
  (∀ j, j < 41 → own (k j) = (1, j)) ∧ (∀ a b, BD D a = some b → own a = (2, a) ∧ own (caB b) = (3, a) ∧ own (iaB b) = (4, a)) ∧ (∀ a t, AD D a = some t → own a = (5, a)) ∧ ∀ b, b < 6 → QD D 2 b = some (k (29 + 2 * b))
theorem ow_ne {own : tR} {x y : Nat} {p q : Nat × Nat} (hx : own x = p) (hy : own y = q) (h : p.1 ≠ q.1 ∨ p.2 ≠ q.2) : x ≠ y := fun e_ => by
  rw [e_, hy] at hx
  rcases h with h | h
  · exact h (congrArg Prod.fst hx).symm
  · exact h (congrArg Prod.snd hx).symm
section CMg
variable {G : mG} {k : Nat → Nat} {own : tR} {n : Nat} {z : Nat → Nat} {D : tD} {f f2 : mF}
theorem CM.c0 (h : CM G k own n z D f) : f (k 0) = some (.inr (5, [.ref (k 1), .int (nI n), .int (lD D).1, .ref (k 2), .ref (k 5), .ref (k 13), .ref (k 21), .int (lD D).2.1, .int (lD D).2.2.1, .int (lD D).2.2.2.1, .ref (k 3), .int (lD D).2.2.2.2.1, .ref (k 4), .int (lD D).2.2.2.2.2])) := h.1
theorem CM.c1 (h : CM G k own n z D f) : f (k 1) = some (.inl (gk G 3, 24, .inr (.inr (.inr (.inr (QD D 1)))))) := h.2.1
theorem CM.c2 (h : CM G k own n z D f) : f (k 2) = some (.inl (gk G 4, 6, .inr (.inr (.inr (.inr (QD D 2)))))) := h.2.2.1
theorem CM.c3 (h : CM G k own n z D f) : f (k 3) = some (.inl (gk G 0, 192, .inl (ID D 3))) := h.2.2.2.1
theorem CM.c4 (h : CM G k own n z D f) : f (k 4) = some (.inl (gk G 0, 192, .inl (ID D 4))) := h.2.2.2.2.1
theorem CM.r0 (h : CM G k own n z D f) : ∀ i, i < 3 → f (k (5 + 8 * i)) = some (.inr (3, [.ref (k (5 + 8 * i + 1)), .int (rD D i).1, .int (rD D i).2.1, .long (rD D i).2.2.1, .int (rD D i).2.2.2.1, .int (rD D i).2.2.2.2.1, va_rf (rD D i).2.2.2.2.2.1, .ref (k (5 + 8 * i + 5)), .ref (k (5 + 8 * i + 6)), .ref (k (5 + 8 * i + 7)), .int (rD D i).2.2.2.2.2.2])) := h.2.2.2.2.2.1
theorem CM.r1 (h : CM G k own n z D f) : ∀ i, i < 3 → f (k (5 + 8 * i + 1)) = some (.inr (4, [.ref (k (5 + 8 * i + 2)), .int (eD D i).1, .int (eD D i).2, .ref (k (5 + 8 * i + 3)), .ref (k (5 + 8 * i + 4))])) := h.2.2.2.2.2.2.1
theorem CM.r2 (h : CM G k own n z D f) : ∀ i, i < 3 → f (k (5 + 8 * i + 2)) = some (.inl (gk G 0, 384, .inl (ID D (5 + 8 * i + 2)))) := h.2.2.2.2.2.2.2.1
theorem CM.r3 (h : CM G k own n z D f) : ∀ i, i < 3 → f (k (5 + 8 * i + 3)) = some (.inl (gk G 0, 24, .inl (ID D (5 + 8 * i + 3)))) := h.2.2.2.2.2.2.2.2.1
theorem CM.r4 (h : CM G k own n z D f) : ∀ i, i < 3 → f (k (5 + 8 * i + 4)) = some (.inl (gk G 0, 24, .inl (ID D (5 + 8 * i + 4)))) := h.2.2.2.2.2.2.2.2.2.1
theorem CM.r5 (h : CM G k own n z D f) : ∀ i, i < 3 → f (k (5 + 8 * i + 5)) = some (.inl (gk G 3, 24, .inr (.inr (.inr (.inr (QD D (5 + 8 * i + 5))))))) := h.2.2.2.2.2.2.2.2.2.2.1
theorem CM.r6 (h : CM G k own n z D f) : ∀ i, i < 3 → f (k (5 + 8 * i + 6)) = some (.inl (gk G 0, 4, .inl (ID D (5 + 8 * i + 6)))) := h.2.2.2.2.2.2.2.2.2.2.2.1
theorem CM.r7 (h : CM G k own n z D f) : ∀ i, i < 3 → f (k (5 + 8 * i + 7)) = some (.inl (gk G 1, 4, .inr (.inl (JD D (5 + 8 * i + 7))))) := h.2.2.2.2.2.2.2.2.2.2.2.2.1
theorem CM.b0 (h : CM G k own n z D f) : ∀ b, b < 6 → f (k (29 + 2 * b)) = some (.inr (1, [.ref (k (29 + 2 * b + 1)), .int (nI (z b))])) := h.2.2.2.2.2.2.2.2.2.2.2.2.2.1
theorem CM.b1 (h : CM G k own n z D f) : ∀ b, b < 6 → f (k (29 + 2 * b + 1)) = some (.inl (gk G 5, 32, .inr (.inr (.inr (.inr (QD D (29 + 2 * b + 1))))))) := h.2.2.2.2.2.2.2.2.2.2.2.2.2.2.1
theorem CM.p0 (h : CM G k own n z D f) : ∀ a b, BD D a = some b → f (a) = some (.inr (2, [.int (nI (yB b)), .ref (caB b), .ref (iaB b), .int (siB b), va_rf (bfB b)])) := h.2.2.2.2.2.2.2.2.2.2.2.2.2.2.2.1
theorem CM.p1 (h : CM G k own n z D f) : ∀ a b, BD D a = some b → f (caB b) = some (.inl (gk G 1, 8, .inr (.inl (cB b).1))) := h.2.2.2.2.2.2.2.2.2.2.2.2.2.2.2.2.1
theorem CM.p2 (h : CM G k own n z D f) : ∀ a b, BD D a = some b → f (iaB b) = some (.inl (gk G 0, 16, .inl (cB b).2)) := h.2.2.2.2.2.2.2.2.2.2.2.2.2.2.2.2.2.1
theorem CM.a0 (h : CM G k own n z D f) : ∀ a t, AD D a = some t → f (a) = some (.inr (0, [.int t.1, .int t.2.1, .long t.2.2.1, .int t.2.2.2.1, .int t.2.2.2.2.1, .int t.2.2.2.2.2])) := h.2.2.2.2.2.2.2.2.2.2.2.2.2.2.2.2.2.2.1
theorem CM.ok (h : CM G k own n z D f) : ∀ j, j < 41 → own (k j) = (1, j) := h.2.2.2.2.2.2.2.2.2.2.2.2.2.2.2.2.2.2.2.1
theorem CM.ob (h : CM G k own n z D f) : ∀ a b, BD D a = some b → own a = (2, a) ∧ own (caB b) = (3, a) ∧ own (iaB b) = (4, a) := h.2.2.2.2.2.2.2.2.2.2.2.2.2.2.2.2.2.2.2.2.1
theorem CM.oa (h : CM G k own n z D f) : ∀ a t, AD D a = some t → own a = (5, a) := h.2.2.2.2.2.2.2.2.2.2.2.2.2.2.2.2.2.2.2.2.2.1
theorem CM.bq (h : CM G k own n z D f) : ∀ b, b < 6 → QD D 2 b = some (k (29 + 2 * b)) := h.2.2.2.2.2.2.2.2.2.2.2.2.2.2.2.2.2.2.2.2.2.2
theorem CM.ne (h : CM G k own n z D f) {i j : Nat} (hi : i < 41) (hj : j < 41) (hne : i ≠ j) : k i ≠ k j := ow_ne (h.ok i hi) (h.ok j hj) (Or.inr hne)
end CMg
section CMs
variable {G : mG} {k : Nat → Nat} {own : tR} {n : Nat} {z : Nat → Nat} {D : tD} {f f2 : mF}
theorem CM.setL (h : CM G k own n z D f) {n2 : Nat} {c : tL} (ef : f2 = va_up f (k 0) (some (.inr (5, [.ref (k 1), .int (nI n2), .int c.1, .ref (k 2), .ref (k 5), .ref (k 13), .ref (k 21), .int c.2.1, .int c.2.2.1, .int c.2.2.2.1, .ref (k 3), .int c.2.2.2.2.1, .ref (k 4), .int c.2.2.2.2.2])))) : CM G k own n2 z (dL D c) f2 := by
  subst ef
  refine ⟨?_, ?_, ?_, ?_, ?_, ?_, ?_, ?_, ?_, ?_, ?_, ?_, ?_, ?_, ?_, ?_, ?_, ?_, ?_, h.ok, h.ob, h.oa, h.bq⟩
  · exact va_up_self _ _ _
  · exact (va_up_ne _ _ (ow_ne (h.ok 1 (by omega)) (h.ok 0 (by omega)) (Or.inr (by omega)))).trans (h.c1)
  · exact (va_up_ne _ _ (ow_ne (h.ok 2 (by omega)) (h.ok 0 (by omega)) (Or.inr (by omega)))).trans (h.c2)
  · exact (va_up_ne _ _ (ow_ne (h.ok 3 (by omega)) (h.ok 0 (by omega)) (Or.inr (by omega)))).trans (h.c3)
  · exact (va_up_ne _ _ (ow_ne (h.ok 4 (by omega)) (h.ok 0 (by omega)) (Or.inr (by omega)))).trans (h.c4)
  · exact fun i hi => (va_up_ne _ _ (ow_ne (h.ok (5 + 8 * i) (by omega)) (h.ok 0 (by omega)) (Or.inr (by omega)))).trans (h.r0 i hi)
  · exact fun i hi => (va_up_ne _ _ (ow_ne (h.ok (5 + 8 * i + 1) (by omega)) (h.ok 0 (by omega)) (Or.inr (by omega)))).trans (h.r1 i hi)
  · exact fun i hi => (va_up_ne _ _ (ow_ne (h.ok (5 + 8 * i + 2) (by omega)) (h.ok 0 (by omega)) (Or.inr (by omega)))).trans (h.r2 i hi)
  · exact fun i hi => (va_up_ne _ _ (ow_ne (h.ok (5 + 8 * i + 3) (by omega)) (h.ok 0 (by omega)) (Or.inr (by omega)))).trans (h.r3 i hi)
  · exact fun i hi => (va_up_ne _ _ (ow_ne (h.ok (5 + 8 * i + 4) (by omega)) (h.ok 0 (by omega)) (Or.inr (by omega)))).trans (h.r4 i hi)
  · exact fun i hi => (va_up_ne _ _ (ow_ne (h.ok (5 + 8 * i + 5) (by omega)) (h.ok 0 (by omega)) (Or.inr (by omega)))).trans (h.r5 i hi)
  · exact fun i hi => (va_up_ne _ _ (ow_ne (h.ok (5 + 8 * i + 6) (by omega)) (h.ok 0 (by omega)) (Or.inr (by omega)))).trans (h.r6 i hi)
  · exact fun i hi => (va_up_ne _ _ (ow_ne (h.ok (5 + 8 * i + 7) (by omega)) (h.ok 0 (by omega)) (Or.inr (by omega)))).trans (h.r7 i hi)
  · exact fun b hb => (va_up_ne _ _ (ow_ne (h.ok (29 + 2 * b) (by omega)) (h.ok 0 (by omega)) (Or.inr (by omega)))).trans (h.b0 b hb)
  · exact fun b hb => (va_up_ne _ _ (ow_ne (h.ok (29 + 2 * b + 1) (by omega)) (h.ok 0 (by omega)) (Or.inr (by omega)))).trans (h.b1 b hb)
  · exact fun a b hb => (va_up_ne _ _ (ow_ne (h.ob a b hb).1 (h.ok 0 (by omega)) (Or.inl (show (2 : Nat) ≠ 1 from by decide)))).trans (h.p0 a b hb)
  · exact fun a b hb => (va_up_ne _ _ (ow_ne (h.ob a b hb).2.1 (h.ok 0 (by omega)) (Or.inl (show (3 : Nat) ≠ 1 from by decide)))).trans (h.p1 a b hb)
  · exact fun a b hb => (va_up_ne _ _ (ow_ne (h.ob a b hb).2.2 (h.ok 0 (by omega)) (Or.inl (show (4 : Nat) ≠ 1 from by decide)))).trans (h.p2 a b hb)
  · exact fun a t ht => (va_up_ne _ _ (ow_ne (h.oa a t ht) (h.ok 0 (by omega)) (Or.inl (show (5 : Nat) ≠ 1 from by decide)))).trans (h.a0 a t ht)
theorem CM.setR (h : CM G k own n z D f) {i0 : Nat} (hi0 : i0 < 3) {q : tQ} (ef : f2 = va_up f (k (5 + 8 * i0)) (some (.inr (3, [.ref (k (5 + 8 * i0 + 1)), .int q.1, .int q.2.1, .long q.2.2.1, .int q.2.2.2.1, .int q.2.2.2.2.1, va_rf q.2.2.2.2.2.1, .ref (k (5 + 8 * i0 + 5)), .ref (k (5 + 8 * i0 + 6)), .ref (k (5 + 8 * i0 + 7)), .int q.2.2.2.2.2.2])))) : CM G k own n z (dR D i0 q) f2 := by
  subst ef
  refine ⟨?_, ?_, ?_, ?_, ?_, ?_, ?_, ?_, ?_, ?_, ?_, ?_, ?_, ?_, ?_, ?_, ?_, ?_, ?_, h.ok, h.ob, h.oa, h.bq⟩
  · exact (va_up_ne _ _ (ow_ne (h.ok 0 (by omega)) (h.ok (5 + 8 * i0) (by omega)) (Or.inr (by omega)))).trans (h.c0)
  · exact (va_up_ne _ _ (ow_ne (h.ok 1 (by omega)) (h.ok (5 + 8 * i0) (by omega)) (Or.inr (by omega)))).trans (h.c1)
  · exact (va_up_ne _ _ (ow_ne (h.ok 2 (by omega)) (h.ok (5 + 8 * i0) (by omega)) (Or.inr (by omega)))).trans (h.c2)
  · exact (va_up_ne _ _ (ow_ne (h.ok 3 (by omega)) (h.ok (5 + 8 * i0) (by omega)) (Or.inr (by omega)))).trans (h.c3)
  · exact (va_up_ne _ _ (ow_ne (h.ok 4 (by omega)) (h.ok (5 + 8 * i0) (by omega)) (Or.inr (by omega)))).trans (h.c4)
  · exact fun i hi => (Decidable.em (i = i0)).elim (fun q_ => by subst q_; rw [va_up_self, rD_s]) (fun q_ => by rw [va_up_ne _ _ (h.ne (by omega) (by omega) (by omega)), rD_n q_]; exact h.r0 i hi)
  · exact fun i hi => (va_up_ne _ _ (ow_ne (h.ok (5 + 8 * i + 1) (by omega)) (h.ok (5 + 8 * i0) (by omega)) (Or.inr (by omega)))).trans (h.r1 i hi)
  · exact fun i hi => (va_up_ne _ _ (ow_ne (h.ok (5 + 8 * i + 2) (by omega)) (h.ok (5 + 8 * i0) (by omega)) (Or.inr (by omega)))).trans (h.r2 i hi)
  · exact fun i hi => (va_up_ne _ _ (ow_ne (h.ok (5 + 8 * i + 3) (by omega)) (h.ok (5 + 8 * i0) (by omega)) (Or.inr (by omega)))).trans (h.r3 i hi)
  · exact fun i hi => (va_up_ne _ _ (ow_ne (h.ok (5 + 8 * i + 4) (by omega)) (h.ok (5 + 8 * i0) (by omega)) (Or.inr (by omega)))).trans (h.r4 i hi)
  · exact fun i hi => (va_up_ne _ _ (ow_ne (h.ok (5 + 8 * i + 5) (by omega)) (h.ok (5 + 8 * i0) (by omega)) (Or.inr (by omega)))).trans (h.r5 i hi)
  · exact fun i hi => (va_up_ne _ _ (ow_ne (h.ok (5 + 8 * i + 6) (by omega)) (h.ok (5 + 8 * i0) (by omega)) (Or.inr (by omega)))).trans (h.r6 i hi)
  · exact fun i hi => (va_up_ne _ _ (ow_ne (h.ok (5 + 8 * i + 7) (by omega)) (h.ok (5 + 8 * i0) (by omega)) (Or.inr (by omega)))).trans (h.r7 i hi)
  · exact fun b hb => (va_up_ne _ _ (ow_ne (h.ok (29 + 2 * b) (by omega)) (h.ok (5 + 8 * i0) (by omega)) (Or.inr (by omega)))).trans (h.b0 b hb)
  · exact fun b hb => (va_up_ne _ _ (ow_ne (h.ok (29 + 2 * b + 1) (by omega)) (h.ok (5 + 8 * i0) (by omega)) (Or.inr (by omega)))).trans (h.b1 b hb)
  · exact fun a b hb => (va_up_ne _ _ (ow_ne (h.ob a b hb).1 (h.ok (5 + 8 * i0) (by omega)) (Or.inl (show (2 : Nat) ≠ 1 from by decide)))).trans (h.p0 a b hb)
  · exact fun a b hb => (va_up_ne _ _ (ow_ne (h.ob a b hb).2.1 (h.ok (5 + 8 * i0) (by omega)) (Or.inl (show (3 : Nat) ≠ 1 from by decide)))).trans (h.p1 a b hb)
  · exact fun a b hb => (va_up_ne _ _ (ow_ne (h.ob a b hb).2.2 (h.ok (5 + 8 * i0) (by omega)) (Or.inl (show (4 : Nat) ≠ 1 from by decide)))).trans (h.p2 a b hb)
  · exact fun a t ht => (va_up_ne _ _ (ow_ne (h.oa a t ht) (h.ok (5 + 8 * i0) (by omega)) (Or.inl (show (5 : Nat) ≠ 1 from by decide)))).trans (h.a0 a t ht)
theorem CM.setE (h : CM G k own n z D f) {i0 : Nat} (hi0 : i0 < 3) {q : Int32 × Int32} (ef : f2 = va_up f (k (5 + 8 * i0 + 1)) (some (.inr (4, [.ref (k (5 + 8 * i0 + 2)), .int q.1, .int q.2, .ref (k (5 + 8 * i0 + 3)), .ref (k (5 + 8 * i0 + 4))])))) : CM G k own n z (dE D i0 q) f2 := by
  subst ef
  refine ⟨?_, ?_, ?_, ?_, ?_, ?_, ?_, ?_, ?_, ?_, ?_, ?_, ?_, ?_, ?_, ?_, ?_, ?_, ?_, h.ok, h.ob, h.oa, h.bq⟩
  · exact (va_up_ne _ _ (ow_ne (h.ok 0 (by omega)) (h.ok (5 + 8 * i0 + 1) (by omega)) (Or.inr (by omega)))).trans (h.c0)
  · exact (va_up_ne _ _ (ow_ne (h.ok 1 (by omega)) (h.ok (5 + 8 * i0 + 1) (by omega)) (Or.inr (by omega)))).trans (h.c1)
  · exact (va_up_ne _ _ (ow_ne (h.ok 2 (by omega)) (h.ok (5 + 8 * i0 + 1) (by omega)) (Or.inr (by omega)))).trans (h.c2)
  · exact (va_up_ne _ _ (ow_ne (h.ok 3 (by omega)) (h.ok (5 + 8 * i0 + 1) (by omega)) (Or.inr (by omega)))).trans (h.c3)
  · exact (va_up_ne _ _ (ow_ne (h.ok 4 (by omega)) (h.ok (5 + 8 * i0 + 1) (by omega)) (Or.inr (by omega)))).trans (h.c4)
  · exact fun i hi => (va_up_ne _ _ (ow_ne (h.ok (5 + 8 * i) (by omega)) (h.ok (5 + 8 * i0 + 1) (by omega)) (Or.inr (by omega)))).trans (h.r0 i hi)
  · exact fun i hi => (Decidable.em (i = i0)).elim (fun q_ => by subst q_; rw [va_up_self, eD_s]) (fun q_ => by rw [va_up_ne _ _ (h.ne (by omega) (by omega) (by omega)), eD_n q_]; exact h.r1 i hi)
  · exact fun i hi => (va_up_ne _ _ (ow_ne (h.ok (5 + 8 * i + 2) (by omega)) (h.ok (5 + 8 * i0 + 1) (by omega)) (Or.inr (by omega)))).trans (h.r2 i hi)
  · exact fun i hi => (va_up_ne _ _ (ow_ne (h.ok (5 + 8 * i + 3) (by omega)) (h.ok (5 + 8 * i0 + 1) (by omega)) (Or.inr (by omega)))).trans (h.r3 i hi)
  · exact fun i hi => (va_up_ne _ _ (ow_ne (h.ok (5 + 8 * i + 4) (by omega)) (h.ok (5 + 8 * i0 + 1) (by omega)) (Or.inr (by omega)))).trans (h.r4 i hi)
  · exact fun i hi => (va_up_ne _ _ (ow_ne (h.ok (5 + 8 * i + 5) (by omega)) (h.ok (5 + 8 * i0 + 1) (by omega)) (Or.inr (by omega)))).trans (h.r5 i hi)
  · exact fun i hi => (va_up_ne _ _ (ow_ne (h.ok (5 + 8 * i + 6) (by omega)) (h.ok (5 + 8 * i0 + 1) (by omega)) (Or.inr (by omega)))).trans (h.r6 i hi)
  · exact fun i hi => (va_up_ne _ _ (ow_ne (h.ok (5 + 8 * i + 7) (by omega)) (h.ok (5 + 8 * i0 + 1) (by omega)) (Or.inr (by omega)))).trans (h.r7 i hi)
  · exact fun b hb => (va_up_ne _ _ (ow_ne (h.ok (29 + 2 * b) (by omega)) (h.ok (5 + 8 * i0 + 1) (by omega)) (Or.inr (by omega)))).trans (h.b0 b hb)
  · exact fun b hb => (va_up_ne _ _ (ow_ne (h.ok (29 + 2 * b + 1) (by omega)) (h.ok (5 + 8 * i0 + 1) (by omega)) (Or.inr (by omega)))).trans (h.b1 b hb)
  · exact fun a b hb => (va_up_ne _ _ (ow_ne (h.ob a b hb).1 (h.ok (5 + 8 * i0 + 1) (by omega)) (Or.inl (show (2 : Nat) ≠ 1 from by decide)))).trans (h.p0 a b hb)
  · exact fun a b hb => (va_up_ne _ _ (ow_ne (h.ob a b hb).2.1 (h.ok (5 + 8 * i0 + 1) (by omega)) (Or.inl (show (3 : Nat) ≠ 1 from by decide)))).trans (h.p1 a b hb)
  · exact fun a b hb => (va_up_ne _ _ (ow_ne (h.ob a b hb).2.2 (h.ok (5 + 8 * i0 + 1) (by omega)) (Or.inl (show (4 : Nat) ≠ 1 from by decide)))).trans (h.p2 a b hb)
  · exact fun a t ht => (va_up_ne _ _ (ow_ne (h.oa a t ht) (h.ok (5 + 8 * i0 + 1) (by omega)) (Or.inl (show (5 : Nat) ≠ 1 from by decide)))).trans (h.a0 a t ht)
theorem CM.setI2 (h : CM G k own n z D f) {i0 : Nat} (hi0 : i0 < 3) {g : Nat → Int32} (ef : f2 = va_up f (k (5 + 8 * i0 + 2)) (some (.inl (gk G 0, 384, .inl g)))) : CM G k own n z (dI D (5 + 8 * i0 + 2) g) f2 := by
  subst ef
  refine ⟨?_, ?_, ?_, ?_, ?_, ?_, ?_, ?_, ?_, ?_, ?_, ?_, ?_, ?_, ?_, ?_, ?_, ?_, ?_, h.ok, h.ob, h.oa, h.bq⟩
  · exact (va_up_ne _ _ (ow_ne (h.ok 0 (by omega)) (h.ok (5 + 8 * i0 + 2) (by omega)) (Or.inr (by omega)))).trans (h.c0)
  · exact (va_up_ne _ _ (ow_ne (h.ok 1 (by omega)) (h.ok (5 + 8 * i0 + 2) (by omega)) (Or.inr (by omega)))).trans (h.c1)
  · exact (va_up_ne _ _ (ow_ne (h.ok 2 (by omega)) (h.ok (5 + 8 * i0 + 2) (by omega)) (Or.inr (by omega)))).trans (h.c2)
  · exact (by rw [va_up_ne _ _ (h.ne (by omega) (by omega) (by omega)), ID_n (by omega)]; exact h.c3)
  · exact (by rw [va_up_ne _ _ (h.ne (by omega) (by omega) (by omega)), ID_n (by omega)]; exact h.c4)
  · exact fun i hi => (va_up_ne _ _ (ow_ne (h.ok (5 + 8 * i) (by omega)) (h.ok (5 + 8 * i0 + 2) (by omega)) (Or.inr (by omega)))).trans (h.r0 i hi)
  · exact fun i hi => (va_up_ne _ _ (ow_ne (h.ok (5 + 8 * i + 1) (by omega)) (h.ok (5 + 8 * i0 + 2) (by omega)) (Or.inr (by omega)))).trans (h.r1 i hi)
  · exact fun i hi => (Decidable.em (i = i0)).elim (fun q_ => by subst q_; rw [va_up_self, ID_s]) (fun q_ => by rw [va_up_ne _ _ (h.ne (by omega) (by omega) (by omega)), ID_n (by omega)]; exact h.r2 i hi)
  · exact fun i hi => (by rw [va_up_ne _ _ (h.ne (by omega) (by omega) (by omega)), ID_n (by omega)]; exact h.r3 i hi)
  · exact fun i hi => (by rw [va_up_ne _ _ (h.ne (by omega) (by omega) (by omega)), ID_n (by omega)]; exact h.r4 i hi)
  · exact fun i hi => (va_up_ne _ _ (ow_ne (h.ok (5 + 8 * i + 5) (by omega)) (h.ok (5 + 8 * i0 + 2) (by omega)) (Or.inr (by omega)))).trans (h.r5 i hi)
  · exact fun i hi => (by rw [va_up_ne _ _ (h.ne (by omega) (by omega) (by omega)), ID_n (by omega)]; exact h.r6 i hi)
  · exact fun i hi => (va_up_ne _ _ (ow_ne (h.ok (5 + 8 * i + 7) (by omega)) (h.ok (5 + 8 * i0 + 2) (by omega)) (Or.inr (by omega)))).trans (h.r7 i hi)
  · exact fun b hb => (va_up_ne _ _ (ow_ne (h.ok (29 + 2 * b) (by omega)) (h.ok (5 + 8 * i0 + 2) (by omega)) (Or.inr (by omega)))).trans (h.b0 b hb)
  · exact fun b hb => (va_up_ne _ _ (ow_ne (h.ok (29 + 2 * b + 1) (by omega)) (h.ok (5 + 8 * i0 + 2) (by omega)) (Or.inr (by omega)))).trans (h.b1 b hb)
  · exact fun a b hb => (va_up_ne _ _ (ow_ne (h.ob a b hb).1 (h.ok (5 + 8 * i0 + 2) (by omega)) (Or.inl (show (2 : Nat) ≠ 1 from by decide)))).trans (h.p0 a b hb)
  · exact fun a b hb => (va_up_ne _ _ (ow_ne (h.ob a b hb).2.1 (h.ok (5 + 8 * i0 + 2) (by omega)) (Or.inl (show (3 : Nat) ≠ 1 from by decide)))).trans (h.p1 a b hb)
  · exact fun a b hb => (va_up_ne _ _ (ow_ne (h.ob a b hb).2.2 (h.ok (5 + 8 * i0 + 2) (by omega)) (Or.inl (show (4 : Nat) ≠ 1 from by decide)))).trans (h.p2 a b hb)
  · exact fun a t ht => (va_up_ne _ _ (ow_ne (h.oa a t ht) (h.ok (5 + 8 * i0 + 2) (by omega)) (Or.inl (show (5 : Nat) ≠ 1 from by decide)))).trans (h.a0 a t ht)
theorem CM.setI3 (h : CM G k own n z D f) {i0 : Nat} (hi0 : i0 < 3) {g : Nat → Int32} (ef : f2 = va_up f (k (5 + 8 * i0 + 3)) (some (.inl (gk G 0, 24, .inl g)))) : CM G k own n z (dI D (5 + 8 * i0 + 3) g) f2 := by
  subst ef
  refine ⟨?_, ?_, ?_, ?_, ?_, ?_, ?_, ?_, ?_, ?_, ?_, ?_, ?_, ?_, ?_, ?_, ?_, ?_, ?_, h.ok, h.ob, h.oa, h.bq⟩
  · exact (va_up_ne _ _ (ow_ne (h.ok 0 (by omega)) (h.ok (5 + 8 * i0 + 3) (by omega)) (Or.inr (by omega)))).trans (h.c0)
  · exact (va_up_ne _ _ (ow_ne (h.ok 1 (by omega)) (h.ok (5 + 8 * i0 + 3) (by omega)) (Or.inr (by omega)))).trans (h.c1)
  · exact (va_up_ne _ _ (ow_ne (h.ok 2 (by omega)) (h.ok (5 + 8 * i0 + 3) (by omega)) (Or.inr (by omega)))).trans (h.c2)
  · exact (by rw [va_up_ne _ _ (h.ne (by omega) (by omega) (by omega)), ID_n (by omega)]; exact h.c3)
  · exact (by rw [va_up_ne _ _ (h.ne (by omega) (by omega) (by omega)), ID_n (by omega)]; exact h.c4)
  · exact fun i hi => (va_up_ne _ _ (ow_ne (h.ok (5 + 8 * i) (by omega)) (h.ok (5 + 8 * i0 + 3) (by omega)) (Or.inr (by omega)))).trans (h.r0 i hi)
  · exact fun i hi => (va_up_ne _ _ (ow_ne (h.ok (5 + 8 * i + 1) (by omega)) (h.ok (5 + 8 * i0 + 3) (by omega)) (Or.inr (by omega)))).trans (h.r1 i hi)
  · exact fun i hi => (by rw [va_up_ne _ _ (h.ne (by omega) (by omega) (by omega)), ID_n (by omega)]; exact h.r2 i hi)
  · exact fun i hi => (Decidable.em (i = i0)).elim (fun q_ => by subst q_; rw [va_up_self, ID_s]) (fun q_ => by rw [va_up_ne _ _ (h.ne (by omega) (by omega) (by omega)), ID_n (by omega)]; exact h.r3 i hi)
  · exact fun i hi => (by rw [va_up_ne _ _ (h.ne (by omega) (by omega) (by omega)), ID_n (by omega)]; exact h.r4 i hi)
  · exact fun i hi => (va_up_ne _ _ (ow_ne (h.ok (5 + 8 * i + 5) (by omega)) (h.ok (5 + 8 * i0 + 3) (by omega)) (Or.inr (by omega)))).trans (h.r5 i hi)
  · exact fun i hi => (by rw [va_up_ne _ _ (h.ne (by omega) (by omega) (by omega)), ID_n (by omega)]; exact h.r6 i hi)
  · exact fun i hi => (va_up_ne _ _ (ow_ne (h.ok (5 + 8 * i + 7) (by omega)) (h.ok (5 + 8 * i0 + 3) (by omega)) (Or.inr (by omega)))).trans (h.r7 i hi)
  · exact fun b hb => (va_up_ne _ _ (ow_ne (h.ok (29 + 2 * b) (by omega)) (h.ok (5 + 8 * i0 + 3) (by omega)) (Or.inr (by omega)))).trans (h.b0 b hb)
  · exact fun b hb => (va_up_ne _ _ (ow_ne (h.ok (29 + 2 * b + 1) (by omega)) (h.ok (5 + 8 * i0 + 3) (by omega)) (Or.inr (by omega)))).trans (h.b1 b hb)
  · exact fun a b hb => (va_up_ne _ _ (ow_ne (h.ob a b hb).1 (h.ok (5 + 8 * i0 + 3) (by omega)) (Or.inl (show (2 : Nat) ≠ 1 from by decide)))).trans (h.p0 a b hb)
  · exact fun a b hb => (va_up_ne _ _ (ow_ne (h.ob a b hb).2.1 (h.ok (5 + 8 * i0 + 3) (by omega)) (Or.inl (show (3 : Nat) ≠ 1 from by decide)))).trans (h.p1 a b hb)
  · exact fun a b hb => (va_up_ne _ _ (ow_ne (h.ob a b hb).2.2 (h.ok (5 + 8 * i0 + 3) (by omega)) (Or.inl (show (4 : Nat) ≠ 1 from by decide)))).trans (h.p2 a b hb)
  · exact fun a t ht => (va_up_ne _ _ (ow_ne (h.oa a t ht) (h.ok (5 + 8 * i0 + 3) (by omega)) (Or.inl (show (5 : Nat) ≠ 1 from by decide)))).trans (h.a0 a t ht)
theorem CM.setI4 (h : CM G k own n z D f) {i0 : Nat} (hi0 : i0 < 3) {g : Nat → Int32} (ef : f2 = va_up f (k (5 + 8 * i0 + 4)) (some (.inl (gk G 0, 24, .inl g)))) : CM G k own n z (dI D (5 + 8 * i0 + 4) g) f2 := by
  subst ef
  refine ⟨?_, ?_, ?_, ?_, ?_, ?_, ?_, ?_, ?_, ?_, ?_, ?_, ?_, ?_, ?_, ?_, ?_, ?_, ?_, h.ok, h.ob, h.oa, h.bq⟩
  · exact (va_up_ne _ _ (ow_ne (h.ok 0 (by omega)) (h.ok (5 + 8 * i0 + 4) (by omega)) (Or.inr (by omega)))).trans (h.c0)
  · exact (va_up_ne _ _ (ow_ne (h.ok 1 (by omega)) (h.ok (5 + 8 * i0 + 4) (by omega)) (Or.inr (by omega)))).trans (h.c1)
  · exact (va_up_ne _ _ (ow_ne (h.ok 2 (by omega)) (h.ok (5 + 8 * i0 + 4) (by omega)) (Or.inr (by omega)))).trans (h.c2)
  · exact (by rw [va_up_ne _ _ (h.ne (by omega) (by omega) (by omega)), ID_n (by omega)]; exact h.c3)
  · exact (by rw [va_up_ne _ _ (h.ne (by omega) (by omega) (by omega)), ID_n (by omega)]; exact h.c4)
  · exact fun i hi => (va_up_ne _ _ (ow_ne (h.ok (5 + 8 * i) (by omega)) (h.ok (5 + 8 * i0 + 4) (by omega)) (Or.inr (by omega)))).trans (h.r0 i hi)
  · exact fun i hi => (va_up_ne _ _ (ow_ne (h.ok (5 + 8 * i + 1) (by omega)) (h.ok (5 + 8 * i0 + 4) (by omega)) (Or.inr (by omega)))).trans (h.r1 i hi)
  · exact fun i hi => (by rw [va_up_ne _ _ (h.ne (by omega) (by omega) (by omega)), ID_n (by omega)]; exact h.r2 i hi)
  · exact fun i hi => (by rw [va_up_ne _ _ (h.ne (by omega) (by omega) (by omega)), ID_n (by omega)]; exact h.r3 i hi)
  · exact fun i hi => (Decidable.em (i = i0)).elim (fun q_ => by subst q_; rw [va_up_self, ID_s]) (fun q_ => by rw [va_up_ne _ _ (h.ne (by omega) (by omega) (by omega)), ID_n (by omega)]; exact h.r4 i hi)
  · exact fun i hi => (va_up_ne _ _ (ow_ne (h.ok (5 + 8 * i + 5) (by omega)) (h.ok (5 + 8 * i0 + 4) (by omega)) (Or.inr (by omega)))).trans (h.r5 i hi)
  · exact fun i hi => (by rw [va_up_ne _ _ (h.ne (by omega) (by omega) (by omega)), ID_n (by omega)]; exact h.r6 i hi)
  · exact fun i hi => (va_up_ne _ _ (ow_ne (h.ok (5 + 8 * i + 7) (by omega)) (h.ok (5 + 8 * i0 + 4) (by omega)) (Or.inr (by omega)))).trans (h.r7 i hi)
  · exact fun b hb => (va_up_ne _ _ (ow_ne (h.ok (29 + 2 * b) (by omega)) (h.ok (5 + 8 * i0 + 4) (by omega)) (Or.inr (by omega)))).trans (h.b0 b hb)
  · exact fun b hb => (va_up_ne _ _ (ow_ne (h.ok (29 + 2 * b + 1) (by omega)) (h.ok (5 + 8 * i0 + 4) (by omega)) (Or.inr (by omega)))).trans (h.b1 b hb)
  · exact fun a b hb => (va_up_ne _ _ (ow_ne (h.ob a b hb).1 (h.ok (5 + 8 * i0 + 4) (by omega)) (Or.inl (show (2 : Nat) ≠ 1 from by decide)))).trans (h.p0 a b hb)
  · exact fun a b hb => (va_up_ne _ _ (ow_ne (h.ob a b hb).2.1 (h.ok (5 + 8 * i0 + 4) (by omega)) (Or.inl (show (3 : Nat) ≠ 1 from by decide)))).trans (h.p1 a b hb)
  · exact fun a b hb => (va_up_ne _ _ (ow_ne (h.ob a b hb).2.2 (h.ok (5 + 8 * i0 + 4) (by omega)) (Or.inl (show (4 : Nat) ≠ 1 from by decide)))).trans (h.p2 a b hb)
  · exact fun a t ht => (va_up_ne _ _ (ow_ne (h.oa a t ht) (h.ok (5 + 8 * i0 + 4) (by omega)) (Or.inl (show (5 : Nat) ≠ 1 from by decide)))).trans (h.a0 a t ht)
theorem CM.setI6 (h : CM G k own n z D f) {i0 : Nat} (hi0 : i0 < 3) {g : Nat → Int32} (ef : f2 = va_up f (k (5 + 8 * i0 + 6)) (some (.inl (gk G 0, 4, .inl g)))) : CM G k own n z (dI D (5 + 8 * i0 + 6) g) f2 := by
  subst ef
  refine ⟨?_, ?_, ?_, ?_, ?_, ?_, ?_, ?_, ?_, ?_, ?_, ?_, ?_, ?_, ?_, ?_, ?_, ?_, ?_, h.ok, h.ob, h.oa, h.bq⟩
  · exact (va_up_ne _ _ (ow_ne (h.ok 0 (by omega)) (h.ok (5 + 8 * i0 + 6) (by omega)) (Or.inr (by omega)))).trans (h.c0)
  · exact (va_up_ne _ _ (ow_ne (h.ok 1 (by omega)) (h.ok (5 + 8 * i0 + 6) (by omega)) (Or.inr (by omega)))).trans (h.c1)
  · exact (va_up_ne _ _ (ow_ne (h.ok 2 (by omega)) (h.ok (5 + 8 * i0 + 6) (by omega)) (Or.inr (by omega)))).trans (h.c2)
  · exact (by rw [va_up_ne _ _ (h.ne (by omega) (by omega) (by omega)), ID_n (by omega)]; exact h.c3)
  · exact (by rw [va_up_ne _ _ (h.ne (by omega) (by omega) (by omega)), ID_n (by omega)]; exact h.c4)
  · exact fun i hi => (va_up_ne _ _ (ow_ne (h.ok (5 + 8 * i) (by omega)) (h.ok (5 + 8 * i0 + 6) (by omega)) (Or.inr (by omega)))).trans (h.r0 i hi)
  · exact fun i hi => (va_up_ne _ _ (ow_ne (h.ok (5 + 8 * i + 1) (by omega)) (h.ok (5 + 8 * i0 + 6) (by omega)) (Or.inr (by omega)))).trans (h.r1 i hi)
  · exact fun i hi => (by rw [va_up_ne _ _ (h.ne (by omega) (by omega) (by omega)), ID_n (by omega)]; exact h.r2 i hi)
  · exact fun i hi => (by rw [va_up_ne _ _ (h.ne (by omega) (by omega) (by omega)), ID_n (by omega)]; exact h.r3 i hi)
  · exact fun i hi => (by rw [va_up_ne _ _ (h.ne (by omega) (by omega) (by omega)), ID_n (by omega)]; exact h.r4 i hi)
  · exact fun i hi => (va_up_ne _ _ (ow_ne (h.ok (5 + 8 * i + 5) (by omega)) (h.ok (5 + 8 * i0 + 6) (by omega)) (Or.inr (by omega)))).trans (h.r5 i hi)
  · exact fun i hi => (Decidable.em (i = i0)).elim (fun q_ => by subst q_; rw [va_up_self, ID_s]) (fun q_ => by rw [va_up_ne _ _ (h.ne (by omega) (by omega) (by omega)), ID_n (by omega)]; exact h.r6 i hi)
  · exact fun i hi => (va_up_ne _ _ (ow_ne (h.ok (5 + 8 * i + 7) (by omega)) (h.ok (5 + 8 * i0 + 6) (by omega)) (Or.inr (by omega)))).trans (h.r7 i hi)
  · exact fun b hb => (va_up_ne _ _ (ow_ne (h.ok (29 + 2 * b) (by omega)) (h.ok (5 + 8 * i0 + 6) (by omega)) (Or.inr (by omega)))).trans (h.b0 b hb)
  · exact fun b hb => (va_up_ne _ _ (ow_ne (h.ok (29 + 2 * b + 1) (by omega)) (h.ok (5 + 8 * i0 + 6) (by omega)) (Or.inr (by omega)))).trans (h.b1 b hb)
  · exact fun a b hb => (va_up_ne _ _ (ow_ne (h.ob a b hb).1 (h.ok (5 + 8 * i0 + 6) (by omega)) (Or.inl (show (2 : Nat) ≠ 1 from by decide)))).trans (h.p0 a b hb)
  · exact fun a b hb => (va_up_ne _ _ (ow_ne (h.ob a b hb).2.1 (h.ok (5 + 8 * i0 + 6) (by omega)) (Or.inl (show (3 : Nat) ≠ 1 from by decide)))).trans (h.p1 a b hb)
  · exact fun a b hb => (va_up_ne _ _ (ow_ne (h.ob a b hb).2.2 (h.ok (5 + 8 * i0 + 6) (by omega)) (Or.inl (show (4 : Nat) ≠ 1 from by decide)))).trans (h.p2 a b hb)
  · exact fun a t ht => (va_up_ne _ _ (ow_ne (h.oa a t ht) (h.ok (5 + 8 * i0 + 6) (by omega)) (Or.inl (show (5 : Nat) ≠ 1 from by decide)))).trans (h.a0 a t ht)
theorem CM.setI_3 (h : CM G k own n z D f) {g : Nat → Int32} (ef : f2 = va_up f (k 3) (some (.inl (gk G 0, 192, .inl g)))) : CM G k own n z (dI D 3 g) f2 := by
  subst ef
  refine ⟨?_, ?_, ?_, ?_, ?_, ?_, ?_, ?_, ?_, ?_, ?_, ?_, ?_, ?_, ?_, ?_, ?_, ?_, ?_, h.ok, h.ob, h.oa, h.bq⟩
  · exact (va_up_ne _ _ (ow_ne (h.ok 0 (by omega)) (h.ok 3 (by omega)) (Or.inr (by omega)))).trans (h.c0)
  · exact (va_up_ne _ _ (ow_ne (h.ok 1 (by omega)) (h.ok 3 (by omega)) (Or.inr (by omega)))).trans (h.c1)
  · exact (va_up_ne _ _ (ow_ne (h.ok 2 (by omega)) (h.ok 3 (by omega)) (Or.inr (by omega)))).trans (h.c2)
  · rw [va_up_self, ID_s]
  · exact (by rw [va_up_ne _ _ (h.ne (by omega) (by omega) (by omega)), ID_n (by omega)]; exact h.c4)
  · exact fun i hi => (va_up_ne _ _ (ow_ne (h.ok (5 + 8 * i) (by omega)) (h.ok 3 (by omega)) (Or.inr (by omega)))).trans (h.r0 i hi)
  · exact fun i hi => (va_up_ne _ _ (ow_ne (h.ok (5 + 8 * i + 1) (by omega)) (h.ok 3 (by omega)) (Or.inr (by omega)))).trans (h.r1 i hi)
  · exact fun i hi => (by rw [va_up_ne _ _ (h.ne (by omega) (by omega) (by omega)), ID_n (by omega)]; exact h.r2 i hi)
  · exact fun i hi => (by rw [va_up_ne _ _ (h.ne (by omega) (by omega) (by omega)), ID_n (by omega)]; exact h.r3 i hi)
  · exact fun i hi => (by rw [va_up_ne _ _ (h.ne (by omega) (by omega) (by omega)), ID_n (by omega)]; exact h.r4 i hi)
  · exact fun i hi => (va_up_ne _ _ (ow_ne (h.ok (5 + 8 * i + 5) (by omega)) (h.ok 3 (by omega)) (Or.inr (by omega)))).trans (h.r5 i hi)
  · exact fun i hi => (by rw [va_up_ne _ _ (h.ne (by omega) (by omega) (by omega)), ID_n (by omega)]; exact h.r6 i hi)
  · exact fun i hi => (va_up_ne _ _ (ow_ne (h.ok (5 + 8 * i + 7) (by omega)) (h.ok 3 (by omega)) (Or.inr (by omega)))).trans (h.r7 i hi)
  · exact fun b hb => (va_up_ne _ _ (ow_ne (h.ok (29 + 2 * b) (by omega)) (h.ok 3 (by omega)) (Or.inr (by omega)))).trans (h.b0 b hb)
  · exact fun b hb => (va_up_ne _ _ (ow_ne (h.ok (29 + 2 * b + 1) (by omega)) (h.ok 3 (by omega)) (Or.inr (by omega)))).trans (h.b1 b hb)
  · exact fun a b hb => (va_up_ne _ _ (ow_ne (h.ob a b hb).1 (h.ok 3 (by omega)) (Or.inl (show (2 : Nat) ≠ 1 from by decide)))).trans (h.p0 a b hb)
  · exact fun a b hb => (va_up_ne _ _ (ow_ne (h.ob a b hb).2.1 (h.ok 3 (by omega)) (Or.inl (show (3 : Nat) ≠ 1 from by decide)))).trans (h.p1 a b hb)
  · exact fun a b hb => (va_up_ne _ _ (ow_ne (h.ob a b hb).2.2 (h.ok 3 (by omega)) (Or.inl (show (4 : Nat) ≠ 1 from by decide)))).trans (h.p2 a b hb)
  · exact fun a t ht => (va_up_ne _ _ (ow_ne (h.oa a t ht) (h.ok 3 (by omega)) (Or.inl (show (5 : Nat) ≠ 1 from by decide)))).trans (h.a0 a t ht)
theorem CM.setI_4 (h : CM G k own n z D f) {g : Nat → Int32} (ef : f2 = va_up f (k 4) (some (.inl (gk G 0, 192, .inl g)))) : CM G k own n z (dI D 4 g) f2 := by
  subst ef
  refine ⟨?_, ?_, ?_, ?_, ?_, ?_, ?_, ?_, ?_, ?_, ?_, ?_, ?_, ?_, ?_, ?_, ?_, ?_, ?_, h.ok, h.ob, h.oa, h.bq⟩
  · exact (va_up_ne _ _ (ow_ne (h.ok 0 (by omega)) (h.ok 4 (by omega)) (Or.inr (by omega)))).trans (h.c0)
  · exact (va_up_ne _ _ (ow_ne (h.ok 1 (by omega)) (h.ok 4 (by omega)) (Or.inr (by omega)))).trans (h.c1)
  · exact (va_up_ne _ _ (ow_ne (h.ok 2 (by omega)) (h.ok 4 (by omega)) (Or.inr (by omega)))).trans (h.c2)
  · exact (by rw [va_up_ne _ _ (h.ne (by omega) (by omega) (by omega)), ID_n (by omega)]; exact h.c3)
  · rw [va_up_self, ID_s]
  · exact fun i hi => (va_up_ne _ _ (ow_ne (h.ok (5 + 8 * i) (by omega)) (h.ok 4 (by omega)) (Or.inr (by omega)))).trans (h.r0 i hi)
  · exact fun i hi => (va_up_ne _ _ (ow_ne (h.ok (5 + 8 * i + 1) (by omega)) (h.ok 4 (by omega)) (Or.inr (by omega)))).trans (h.r1 i hi)
  · exact fun i hi => (by rw [va_up_ne _ _ (h.ne (by omega) (by omega) (by omega)), ID_n (by omega)]; exact h.r2 i hi)
  · exact fun i hi => (by rw [va_up_ne _ _ (h.ne (by omega) (by omega) (by omega)), ID_n (by omega)]; exact h.r3 i hi)
  · exact fun i hi => (by rw [va_up_ne _ _ (h.ne (by omega) (by omega) (by omega)), ID_n (by omega)]; exact h.r4 i hi)
  · exact fun i hi => (va_up_ne _ _ (ow_ne (h.ok (5 + 8 * i + 5) (by omega)) (h.ok 4 (by omega)) (Or.inr (by omega)))).trans (h.r5 i hi)
  · exact fun i hi => (by rw [va_up_ne _ _ (h.ne (by omega) (by omega) (by omega)), ID_n (by omega)]; exact h.r6 i hi)
  · exact fun i hi => (va_up_ne _ _ (ow_ne (h.ok (5 + 8 * i + 7) (by omega)) (h.ok 4 (by omega)) (Or.inr (by omega)))).trans (h.r7 i hi)
  · exact fun b hb => (va_up_ne _ _ (ow_ne (h.ok (29 + 2 * b) (by omega)) (h.ok 4 (by omega)) (Or.inr (by omega)))).trans (h.b0 b hb)
  · exact fun b hb => (va_up_ne _ _ (ow_ne (h.ok (29 + 2 * b + 1) (by omega)) (h.ok 4 (by omega)) (Or.inr (by omega)))).trans (h.b1 b hb)
  · exact fun a b hb => (va_up_ne _ _ (ow_ne (h.ob a b hb).1 (h.ok 4 (by omega)) (Or.inl (show (2 : Nat) ≠ 1 from by decide)))).trans (h.p0 a b hb)
  · exact fun a b hb => (va_up_ne _ _ (ow_ne (h.ob a b hb).2.1 (h.ok 4 (by omega)) (Or.inl (show (3 : Nat) ≠ 1 from by decide)))).trans (h.p1 a b hb)
  · exact fun a b hb => (va_up_ne _ _ (ow_ne (h.ob a b hb).2.2 (h.ok 4 (by omega)) (Or.inl (show (4 : Nat) ≠ 1 from by decide)))).trans (h.p2 a b hb)
  · exact fun a t ht => (va_up_ne _ _ (ow_ne (h.oa a t ht) (h.ok 4 (by omega)) (Or.inl (show (5 : Nat) ≠ 1 from by decide)))).trans (h.a0 a t ht)
theorem CM.setJ (h : CM G k own n z D f) {i0 : Nat} (hi0 : i0 < 3) {g : Nat → Int64} (ef : f2 = va_up f (k (5 + 8 * i0 + 7)) (some (.inl (gk G 1, 4, .inr (.inl g))))) : CM G k own n z (dJ D (5 + 8 * i0 + 7) g) f2 := by
  subst ef
  refine ⟨?_, ?_, ?_, ?_, ?_, ?_, ?_, ?_, ?_, ?_, ?_, ?_, ?_, ?_, ?_, ?_, ?_, ?_, ?_, h.ok, h.ob, h.oa, h.bq⟩
  · exact (va_up_ne _ _ (ow_ne (h.ok 0 (by omega)) (h.ok (5 + 8 * i0 + 7) (by omega)) (Or.inr (by omega)))).trans (h.c0)
  · exact (va_up_ne _ _ (ow_ne (h.ok 1 (by omega)) (h.ok (5 + 8 * i0 + 7) (by omega)) (Or.inr (by omega)))).trans (h.c1)
  · exact (va_up_ne _ _ (ow_ne (h.ok 2 (by omega)) (h.ok (5 + 8 * i0 + 7) (by omega)) (Or.inr (by omega)))).trans (h.c2)
  · exact (va_up_ne _ _ (ow_ne (h.ok 3 (by omega)) (h.ok (5 + 8 * i0 + 7) (by omega)) (Or.inr (by omega)))).trans (h.c3)
  · exact (va_up_ne _ _ (ow_ne (h.ok 4 (by omega)) (h.ok (5 + 8 * i0 + 7) (by omega)) (Or.inr (by omega)))).trans (h.c4)
  · exact fun i hi => (va_up_ne _ _ (ow_ne (h.ok (5 + 8 * i) (by omega)) (h.ok (5 + 8 * i0 + 7) (by omega)) (Or.inr (by omega)))).trans (h.r0 i hi)
  · exact fun i hi => (va_up_ne _ _ (ow_ne (h.ok (5 + 8 * i + 1) (by omega)) (h.ok (5 + 8 * i0 + 7) (by omega)) (Or.inr (by omega)))).trans (h.r1 i hi)
  · exact fun i hi => (va_up_ne _ _ (ow_ne (h.ok (5 + 8 * i + 2) (by omega)) (h.ok (5 + 8 * i0 + 7) (by omega)) (Or.inr (by omega)))).trans (h.r2 i hi)
  · exact fun i hi => (va_up_ne _ _ (ow_ne (h.ok (5 + 8 * i + 3) (by omega)) (h.ok (5 + 8 * i0 + 7) (by omega)) (Or.inr (by omega)))).trans (h.r3 i hi)
  · exact fun i hi => (va_up_ne _ _ (ow_ne (h.ok (5 + 8 * i + 4) (by omega)) (h.ok (5 + 8 * i0 + 7) (by omega)) (Or.inr (by omega)))).trans (h.r4 i hi)
  · exact fun i hi => (va_up_ne _ _ (ow_ne (h.ok (5 + 8 * i + 5) (by omega)) (h.ok (5 + 8 * i0 + 7) (by omega)) (Or.inr (by omega)))).trans (h.r5 i hi)
  · exact fun i hi => (va_up_ne _ _ (ow_ne (h.ok (5 + 8 * i + 6) (by omega)) (h.ok (5 + 8 * i0 + 7) (by omega)) (Or.inr (by omega)))).trans (h.r6 i hi)
  · exact fun i hi => (Decidable.em (i = i0)).elim (fun q_ => by subst q_; rw [va_up_self, JD_s]) (fun q_ => by rw [va_up_ne _ _ (h.ne (by omega) (by omega) (by omega)), JD_n (by omega)]; exact h.r7 i hi)
  · exact fun b hb => (va_up_ne _ _ (ow_ne (h.ok (29 + 2 * b) (by omega)) (h.ok (5 + 8 * i0 + 7) (by omega)) (Or.inr (by omega)))).trans (h.b0 b hb)
  · exact fun b hb => (va_up_ne _ _ (ow_ne (h.ok (29 + 2 * b + 1) (by omega)) (h.ok (5 + 8 * i0 + 7) (by omega)) (Or.inr (by omega)))).trans (h.b1 b hb)
  · exact fun a b hb => (va_up_ne _ _ (ow_ne (h.ob a b hb).1 (h.ok (5 + 8 * i0 + 7) (by omega)) (Or.inl (show (2 : Nat) ≠ 1 from by decide)))).trans (h.p0 a b hb)
  · exact fun a b hb => (va_up_ne _ _ (ow_ne (h.ob a b hb).2.1 (h.ok (5 + 8 * i0 + 7) (by omega)) (Or.inl (show (3 : Nat) ≠ 1 from by decide)))).trans (h.p1 a b hb)
  · exact fun a b hb => (va_up_ne _ _ (ow_ne (h.ob a b hb).2.2 (h.ok (5 + 8 * i0 + 7) (by omega)) (Or.inl (show (4 : Nat) ≠ 1 from by decide)))).trans (h.p2 a b hb)
  · exact fun a t ht => (va_up_ne _ _ (ow_ne (h.oa a t ht) (h.ok (5 + 8 * i0 + 7) (by omega)) (Or.inl (show (5 : Nat) ≠ 1 from by decide)))).trans (h.a0 a t ht)
theorem CM.setQ5 (h : CM G k own n z D f) {i0 : Nat} (hi0 : i0 < 3) {g : Nat → Option Nat} (ef : f2 = va_up f (k (5 + 8 * i0 + 5)) (some (.inl (gk G 3, 24, .inr (.inr (.inr (.inr g))))))) : CM G k own n z (dQ D (5 + 8 * i0 + 5) g) f2 := by
  subst ef
  refine ⟨?_, ?_, ?_, ?_, ?_, ?_, ?_, ?_, ?_, ?_, ?_, ?_, ?_, ?_, ?_, ?_, ?_, ?_, ?_, h.ok, h.ob, h.oa, fun b hb => (by rw [QD_n (by omega)]; exact h.bq b hb)⟩
  · exact (va_up_ne _ _ (ow_ne (h.ok 0 (by omega)) (h.ok (5 + 8 * i0 + 5) (by omega)) (Or.inr (by omega)))).trans (h.c0)
  · exact (by rw [va_up_ne _ _ (h.ne (by omega) (by omega) (by omega)), QD_n (by omega)]; exact h.c1)
  · exact (by rw [va_up_ne _ _ (h.ne (by omega) (by omega) (by omega)), QD_n (by omega)]; exact h.c2)
  · exact (va_up_ne _ _ (ow_ne (h.ok 3 (by omega)) (h.ok (5 + 8 * i0 + 5) (by omega)) (Or.inr (by omega)))).trans (h.c3)
  · exact (va_up_ne _ _ (ow_ne (h.ok 4 (by omega)) (h.ok (5 + 8 * i0 + 5) (by omega)) (Or.inr (by omega)))).trans (h.c4)
  · exact fun i hi => (va_up_ne _ _ (ow_ne (h.ok (5 + 8 * i) (by omega)) (h.ok (5 + 8 * i0 + 5) (by omega)) (Or.inr (by omega)))).trans (h.r0 i hi)
  · exact fun i hi => (va_up_ne _ _ (ow_ne (h.ok (5 + 8 * i + 1) (by omega)) (h.ok (5 + 8 * i0 + 5) (by omega)) (Or.inr (by omega)))).trans (h.r1 i hi)
  · exact fun i hi => (va_up_ne _ _ (ow_ne (h.ok (5 + 8 * i + 2) (by omega)) (h.ok (5 + 8 * i0 + 5) (by omega)) (Or.inr (by omega)))).trans (h.r2 i hi)
  · exact fun i hi => (va_up_ne _ _ (ow_ne (h.ok (5 + 8 * i + 3) (by omega)) (h.ok (5 + 8 * i0 + 5) (by omega)) (Or.inr (by omega)))).trans (h.r3 i hi)
  · exact fun i hi => (va_up_ne _ _ (ow_ne (h.ok (5 + 8 * i + 4) (by omega)) (h.ok (5 + 8 * i0 + 5) (by omega)) (Or.inr (by omega)))).trans (h.r4 i hi)
  · exact fun i hi => (Decidable.em (i = i0)).elim (fun q_ => by subst q_; rw [va_up_self, QD_s]) (fun q_ => by rw [va_up_ne _ _ (h.ne (by omega) (by omega) (by omega)), QD_n (by omega)]; exact h.r5 i hi)
  · exact fun i hi => (va_up_ne _ _ (ow_ne (h.ok (5 + 8 * i + 6) (by omega)) (h.ok (5 + 8 * i0 + 5) (by omega)) (Or.inr (by omega)))).trans (h.r6 i hi)
  · exact fun i hi => (va_up_ne _ _ (ow_ne (h.ok (5 + 8 * i + 7) (by omega)) (h.ok (5 + 8 * i0 + 5) (by omega)) (Or.inr (by omega)))).trans (h.r7 i hi)
  · exact fun b hb => (va_up_ne _ _ (ow_ne (h.ok (29 + 2 * b) (by omega)) (h.ok (5 + 8 * i0 + 5) (by omega)) (Or.inr (by omega)))).trans (h.b0 b hb)
  · exact fun b hb => (by rw [va_up_ne _ _ (h.ne (by omega) (by omega) (by omega)), QD_n (by omega)]; exact h.b1 b hb)
  · exact fun a b hb => (va_up_ne _ _ (ow_ne (h.ob a b hb).1 (h.ok (5 + 8 * i0 + 5) (by omega)) (Or.inl (show (2 : Nat) ≠ 1 from by decide)))).trans (h.p0 a b hb)
  · exact fun a b hb => (va_up_ne _ _ (ow_ne (h.ob a b hb).2.1 (h.ok (5 + 8 * i0 + 5) (by omega)) (Or.inl (show (3 : Nat) ≠ 1 from by decide)))).trans (h.p1 a b hb)
  · exact fun a b hb => (va_up_ne _ _ (ow_ne (h.ob a b hb).2.2 (h.ok (5 + 8 * i0 + 5) (by omega)) (Or.inl (show (4 : Nat) ≠ 1 from by decide)))).trans (h.p2 a b hb)
  · exact fun a t ht => (va_up_ne _ _ (ow_ne (h.oa a t ht) (h.ok (5 + 8 * i0 + 5) (by omega)) (Or.inl (show (5 : Nat) ≠ 1 from by decide)))).trans (h.a0 a t ht)
theorem CM.setQ1 (h : CM G k own n z D f) {g : Nat → Option Nat} (ef : f2 = va_up f (k 1) (some (.inl (gk G 3, 24, .inr (.inr (.inr (.inr g))))))) : CM G k own n z (dQ D 1 g) f2 := by
  subst ef
  refine ⟨?_, ?_, ?_, ?_, ?_, ?_, ?_, ?_, ?_, ?_, ?_, ?_, ?_, ?_, ?_, ?_, ?_, ?_, ?_, h.ok, h.ob, h.oa, fun b hb => (by rw [QD_n (by omega)]; exact h.bq b hb)⟩
  · exact (va_up_ne _ _ (ow_ne (h.ok 0 (by omega)) (h.ok 1 (by omega)) (Or.inr (by omega)))).trans (h.c0)
  · rw [va_up_self, QD_s]
  · exact (by rw [va_up_ne _ _ (h.ne (by omega) (by omega) (by omega)), QD_n (by omega)]; exact h.c2)
  · exact (va_up_ne _ _ (ow_ne (h.ok 3 (by omega)) (h.ok 1 (by omega)) (Or.inr (by omega)))).trans (h.c3)
  · exact (va_up_ne _ _ (ow_ne (h.ok 4 (by omega)) (h.ok 1 (by omega)) (Or.inr (by omega)))).trans (h.c4)
  · exact fun i hi => (va_up_ne _ _ (ow_ne (h.ok (5 + 8 * i) (by omega)) (h.ok 1 (by omega)) (Or.inr (by omega)))).trans (h.r0 i hi)
  · exact fun i hi => (va_up_ne _ _ (ow_ne (h.ok (5 + 8 * i + 1) (by omega)) (h.ok 1 (by omega)) (Or.inr (by omega)))).trans (h.r1 i hi)
  · exact fun i hi => (va_up_ne _ _ (ow_ne (h.ok (5 + 8 * i + 2) (by omega)) (h.ok 1 (by omega)) (Or.inr (by omega)))).trans (h.r2 i hi)
  · exact fun i hi => (va_up_ne _ _ (ow_ne (h.ok (5 + 8 * i + 3) (by omega)) (h.ok 1 (by omega)) (Or.inr (by omega)))).trans (h.r3 i hi)
  · exact fun i hi => (va_up_ne _ _ (ow_ne (h.ok (5 + 8 * i + 4) (by omega)) (h.ok 1 (by omega)) (Or.inr (by omega)))).trans (h.r4 i hi)
  · exact fun i hi => (by rw [va_up_ne _ _ (h.ne (by omega) (by omega) (by omega)), QD_n (by omega)]; exact h.r5 i hi)
  · exact fun i hi => (va_up_ne _ _ (ow_ne (h.ok (5 + 8 * i + 6) (by omega)) (h.ok 1 (by omega)) (Or.inr (by omega)))).trans (h.r6 i hi)
  · exact fun i hi => (va_up_ne _ _ (ow_ne (h.ok (5 + 8 * i + 7) (by omega)) (h.ok 1 (by omega)) (Or.inr (by omega)))).trans (h.r7 i hi)
  · exact fun b hb => (va_up_ne _ _ (ow_ne (h.ok (29 + 2 * b) (by omega)) (h.ok 1 (by omega)) (Or.inr (by omega)))).trans (h.b0 b hb)
  · exact fun b hb => (by rw [va_up_ne _ _ (h.ne (by omega) (by omega) (by omega)), QD_n (by omega)]; exact h.b1 b hb)
  · exact fun a b hb => (va_up_ne _ _ (ow_ne (h.ob a b hb).1 (h.ok 1 (by omega)) (Or.inl (show (2 : Nat) ≠ 1 from by decide)))).trans (h.p0 a b hb)
  · exact fun a b hb => (va_up_ne _ _ (ow_ne (h.ob a b hb).2.1 (h.ok 1 (by omega)) (Or.inl (show (3 : Nat) ≠ 1 from by decide)))).trans (h.p1 a b hb)
  · exact fun a b hb => (va_up_ne _ _ (ow_ne (h.ob a b hb).2.2 (h.ok 1 (by omega)) (Or.inl (show (4 : Nat) ≠ 1 from by decide)))).trans (h.p2 a b hb)
  · exact fun a t ht => (va_up_ne _ _ (ow_ne (h.oa a t ht) (h.ok 1 (by omega)) (Or.inl (show (5 : Nat) ≠ 1 from by decide)))).trans (h.a0 a t ht)
theorem CM.setQa (h : CM G k own n z D f) {i0 : Nat} (hi0 : i0 < 6) {g : Nat → Option Nat} (ef : f2 = va_up f (k (29 + 2 * i0 + 1)) (some (.inl (gk G 5, 32, .inr (.inr (.inr (.inr g))))))) : CM G k own n z (dQ D (29 + 2 * i0 + 1) g) f2 := by
  subst ef
  refine ⟨?_, ?_, ?_, ?_, ?_, ?_, ?_, ?_, ?_, ?_, ?_, ?_, ?_, ?_, ?_, ?_, ?_, ?_, ?_, h.ok, h.ob, h.oa, fun b hb => (by rw [QD_n (by omega)]; exact h.bq b hb)⟩
  · exact (va_up_ne _ _ (ow_ne (h.ok 0 (by omega)) (h.ok (29 + 2 * i0 + 1) (by omega)) (Or.inr (by omega)))).trans (h.c0)
  · exact (by rw [va_up_ne _ _ (h.ne (by omega) (by omega) (by omega)), QD_n (by omega)]; exact h.c1)
  · exact (by rw [va_up_ne _ _ (h.ne (by omega) (by omega) (by omega)), QD_n (by omega)]; exact h.c2)
  · exact (va_up_ne _ _ (ow_ne (h.ok 3 (by omega)) (h.ok (29 + 2 * i0 + 1) (by omega)) (Or.inr (by omega)))).trans (h.c3)
  · exact (va_up_ne _ _ (ow_ne (h.ok 4 (by omega)) (h.ok (29 + 2 * i0 + 1) (by omega)) (Or.inr (by omega)))).trans (h.c4)
  · exact fun i hi => (va_up_ne _ _ (ow_ne (h.ok (5 + 8 * i) (by omega)) (h.ok (29 + 2 * i0 + 1) (by omega)) (Or.inr (by omega)))).trans (h.r0 i hi)
  · exact fun i hi => (va_up_ne _ _ (ow_ne (h.ok (5 + 8 * i + 1) (by omega)) (h.ok (29 + 2 * i0 + 1) (by omega)) (Or.inr (by omega)))).trans (h.r1 i hi)
  · exact fun i hi => (va_up_ne _ _ (ow_ne (h.ok (5 + 8 * i + 2) (by omega)) (h.ok (29 + 2 * i0 + 1) (by omega)) (Or.inr (by omega)))).trans (h.r2 i hi)
  · exact fun i hi => (va_up_ne _ _ (ow_ne (h.ok (5 + 8 * i + 3) (by omega)) (h.ok (29 + 2 * i0 + 1) (by omega)) (Or.inr (by omega)))).trans (h.r3 i hi)
  · exact fun i hi => (va_up_ne _ _ (ow_ne (h.ok (5 + 8 * i + 4) (by omega)) (h.ok (29 + 2 * i0 + 1) (by omega)) (Or.inr (by omega)))).trans (h.r4 i hi)
  · exact fun i hi => (by rw [va_up_ne _ _ (h.ne (by omega) (by omega) (by omega)), QD_n (by omega)]; exact h.r5 i hi)
  · exact fun i hi => (va_up_ne _ _ (ow_ne (h.ok (5 + 8 * i + 6) (by omega)) (h.ok (29 + 2 * i0 + 1) (by omega)) (Or.inr (by omega)))).trans (h.r6 i hi)
  · exact fun i hi => (va_up_ne _ _ (ow_ne (h.ok (5 + 8 * i + 7) (by omega)) (h.ok (29 + 2 * i0 + 1) (by omega)) (Or.inr (by omega)))).trans (h.r7 i hi)
  · exact fun b hb => (va_up_ne _ _ (ow_ne (h.ok (29 + 2 * b) (by omega)) (h.ok (29 + 2 * i0 + 1) (by omega)) (Or.inr (by omega)))).trans (h.b0 b hb)
  · exact fun b hb => (Decidable.em (b = i0)).elim (fun q_ => by subst q_; rw [va_up_self, QD_s]) (fun q_ => by rw [va_up_ne _ _ (h.ne (by omega) (by omega) (by omega)), QD_n (by omega)]; exact h.b1 b hb)
  · exact fun a b hb => (va_up_ne _ _ (ow_ne (h.ob a b hb).1 (h.ok (29 + 2 * i0 + 1) (by omega)) (Or.inl (show (2 : Nat) ≠ 1 from by decide)))).trans (h.p0 a b hb)
  · exact fun a b hb => (va_up_ne _ _ (ow_ne (h.ob a b hb).2.1 (h.ok (29 + 2 * i0 + 1) (by omega)) (Or.inl (show (3 : Nat) ≠ 1 from by decide)))).trans (h.p1 a b hb)
  · exact fun a b hb => (va_up_ne _ _ (ow_ne (h.ob a b hb).2.2 (h.ok (29 + 2 * i0 + 1) (by omega)) (Or.inl (show (4 : Nat) ≠ 1 from by decide)))).trans (h.p2 a b hb)
  · exact fun a t ht => (va_up_ne _ _ (ow_ne (h.oa a t ht) (h.ok (29 + 2 * i0 + 1) (by omega)) (Or.inl (show (5 : Nat) ≠ 1 from by decide)))).trans (h.a0 a t ht)
theorem CM.setZ (h : CM G k own n z D f) {b0 : Nat} (hb0 : b0 < 6) {m : Nat} (ef : f2 = va_up f (k (29 + 2 * b0)) (some (.inr (1, [.ref (k (29 + 2 * b0 + 1)), .int (nI m)])))) : CM G k own n (va_up z b0 m) (D) f2 := by
  subst ef
  refine ⟨?_, ?_, ?_, ?_, ?_, ?_, ?_, ?_, ?_, ?_, ?_, ?_, ?_, ?_, ?_, ?_, ?_, ?_, ?_, h.ok, h.ob, h.oa, h.bq⟩
  · exact (va_up_ne _ _ (ow_ne (h.ok 0 (by omega)) (h.ok (29 + 2 * b0) (by omega)) (Or.inr (by omega)))).trans (h.c0)
  · exact (va_up_ne _ _ (ow_ne (h.ok 1 (by omega)) (h.ok (29 + 2 * b0) (by omega)) (Or.inr (by omega)))).trans (h.c1)
  · exact (va_up_ne _ _ (ow_ne (h.ok 2 (by omega)) (h.ok (29 + 2 * b0) (by omega)) (Or.inr (by omega)))).trans (h.c2)
  · exact (va_up_ne _ _ (ow_ne (h.ok 3 (by omega)) (h.ok (29 + 2 * b0) (by omega)) (Or.inr (by omega)))).trans (h.c3)
  · exact (va_up_ne _ _ (ow_ne (h.ok 4 (by omega)) (h.ok (29 + 2 * b0) (by omega)) (Or.inr (by omega)))).trans (h.c4)
  · exact fun i hi => (va_up_ne _ _ (ow_ne (h.ok (5 + 8 * i) (by omega)) (h.ok (29 + 2 * b0) (by omega)) (Or.inr (by omega)))).trans (h.r0 i hi)
  · exact fun i hi => (va_up_ne _ _ (ow_ne (h.ok (5 + 8 * i + 1) (by omega)) (h.ok (29 + 2 * b0) (by omega)) (Or.inr (by omega)))).trans (h.r1 i hi)
  · exact fun i hi => (va_up_ne _ _ (ow_ne (h.ok (5 + 8 * i + 2) (by omega)) (h.ok (29 + 2 * b0) (by omega)) (Or.inr (by omega)))).trans (h.r2 i hi)
  · exact fun i hi => (va_up_ne _ _ (ow_ne (h.ok (5 + 8 * i + 3) (by omega)) (h.ok (29 + 2 * b0) (by omega)) (Or.inr (by omega)))).trans (h.r3 i hi)
  · exact fun i hi => (va_up_ne _ _ (ow_ne (h.ok (5 + 8 * i + 4) (by omega)) (h.ok (29 + 2 * b0) (by omega)) (Or.inr (by omega)))).trans (h.r4 i hi)
  · exact fun i hi => (va_up_ne _ _ (ow_ne (h.ok (5 + 8 * i + 5) (by omega)) (h.ok (29 + 2 * b0) (by omega)) (Or.inr (by omega)))).trans (h.r5 i hi)
  · exact fun i hi => (va_up_ne _ _ (ow_ne (h.ok (5 + 8 * i + 6) (by omega)) (h.ok (29 + 2 * b0) (by omega)) (Or.inr (by omega)))).trans (h.r6 i hi)
  · exact fun i hi => (va_up_ne _ _ (ow_ne (h.ok (5 + 8 * i + 7) (by omega)) (h.ok (29 + 2 * b0) (by omega)) (Or.inr (by omega)))).trans (h.r7 i hi)
  · exact fun b hb => (Decidable.em (b = b0)).elim (fun q_ => by subst q_; rw [va_up_self, va_up_self]) (fun q_ => by rw [va_up_ne _ _ (h.ne (by omega) (by omega) (by omega)), va_up_ne _ _ q_]; exact h.b0 b hb)
  · exact fun b hb => (va_up_ne _ _ (ow_ne (h.ok (29 + 2 * b + 1) (by omega)) (h.ok (29 + 2 * b0) (by omega)) (Or.inr (by omega)))).trans (h.b1 b hb)
  · exact fun a b hb => (va_up_ne _ _ (ow_ne (h.ob a b hb).1 (h.ok (29 + 2 * b0) (by omega)) (Or.inl (show (2 : Nat) ≠ 1 from by decide)))).trans (h.p0 a b hb)
  · exact fun a b hb => (va_up_ne _ _ (ow_ne (h.ob a b hb).2.1 (h.ok (29 + 2 * b0) (by omega)) (Or.inl (show (3 : Nat) ≠ 1 from by decide)))).trans (h.p1 a b hb)
  · exact fun a b hb => (va_up_ne _ _ (ow_ne (h.ob a b hb).2.2 (h.ok (29 + 2 * b0) (by omega)) (Or.inl (show (4 : Nat) ≠ 1 from by decide)))).trans (h.p2 a b hb)
  · exact fun a t ht => (va_up_ne _ _ (ow_ne (h.oa a t ht) (h.ok (29 + 2 * b0) (by omega)) (Or.inl (show (5 : Nat) ≠ 1 from by decide)))).trans (h.a0 a t ht)
theorem CM.setPc (h : CM G k own n z D f) {a0 : Nat} {b0 : tBo} (hb0 : BD D a0 = some b0) {g : Nat → Int64} (ef : f2 = va_up f (caB b0) (some (.inl (gk G 1, 8, .inr (.inl g))))) : CM G k own n z (dB D a0 (stB b0 (g, (cB b0).2))) f2 := by
  subst ef
  refine ⟨?_, ?_, ?_, ?_, ?_, ?_, ?_, ?_, ?_, ?_, ?_, ?_, ?_, ?_, ?_, ?_, ?_, ?_, ?_, h.ok, fun a b hb => (by by_cases q_ : a = a0; (subst q_; rw [show BD (dB D a (stB b0 (g, (cB b0).2))) a = some (stB b0 (g, (cB b0).2)) from va_up_self _ _ _] at hb; cases hb; exact h.ob a b0 hb0); (rw [show BD (dB D a0 (stB b0 (g, (cB b0).2))) a = BD D a from va_up_ne _ _ q_] at hb; exact h.ob a b hb)), h.oa, h.bq⟩
  · exact (va_up_ne _ _ (ow_ne (h.ok 0 (by omega)) (h.ob a0 b0 hb0).2.1 (Or.inl (show (1 : Nat) ≠ 3 from by decide)))).trans (h.c0)
  · exact (va_up_ne _ _ (ow_ne (h.ok 1 (by omega)) (h.ob a0 b0 hb0).2.1 (Or.inl (show (1 : Nat) ≠ 3 from by decide)))).trans (h.c1)
  · exact (va_up_ne _ _ (ow_ne (h.ok 2 (by omega)) (h.ob a0 b0 hb0).2.1 (Or.inl (show (1 : Nat) ≠ 3 from by decide)))).trans (h.c2)
  · exact (va_up_ne _ _ (ow_ne (h.ok 3 (by omega)) (h.ob a0 b0 hb0).2.1 (Or.inl (show (1 : Nat) ≠ 3 from by decide)))).trans (h.c3)
  · exact (va_up_ne _ _ (ow_ne (h.ok 4 (by omega)) (h.ob a0 b0 hb0).2.1 (Or.inl (show (1 : Nat) ≠ 3 from by decide)))).trans (h.c4)
  · exact fun i hi => (va_up_ne _ _ (ow_ne (h.ok (5 + 8 * i) (by omega)) (h.ob a0 b0 hb0).2.1 (Or.inl (show (1 : Nat) ≠ 3 from by decide)))).trans (h.r0 i hi)
  · exact fun i hi => (va_up_ne _ _ (ow_ne (h.ok (5 + 8 * i + 1) (by omega)) (h.ob a0 b0 hb0).2.1 (Or.inl (show (1 : Nat) ≠ 3 from by decide)))).trans (h.r1 i hi)
  · exact fun i hi => (va_up_ne _ _ (ow_ne (h.ok (5 + 8 * i + 2) (by omega)) (h.ob a0 b0 hb0).2.1 (Or.inl (show (1 : Nat) ≠ 3 from by decide)))).trans (h.r2 i hi)
  · exact fun i hi => (va_up_ne _ _ (ow_ne (h.ok (5 + 8 * i + 3) (by omega)) (h.ob a0 b0 hb0).2.1 (Or.inl (show (1 : Nat) ≠ 3 from by decide)))).trans (h.r3 i hi)
  · exact fun i hi => (va_up_ne _ _ (ow_ne (h.ok (5 + 8 * i + 4) (by omega)) (h.ob a0 b0 hb0).2.1 (Or.inl (show (1 : Nat) ≠ 3 from by decide)))).trans (h.r4 i hi)
  · exact fun i hi => (va_up_ne _ _ (ow_ne (h.ok (5 + 8 * i + 5) (by omega)) (h.ob a0 b0 hb0).2.1 (Or.inl (show (1 : Nat) ≠ 3 from by decide)))).trans (h.r5 i hi)
  · exact fun i hi => (va_up_ne _ _ (ow_ne (h.ok (5 + 8 * i + 6) (by omega)) (h.ob a0 b0 hb0).2.1 (Or.inl (show (1 : Nat) ≠ 3 from by decide)))).trans (h.r6 i hi)
  · exact fun i hi => (va_up_ne _ _ (ow_ne (h.ok (5 + 8 * i + 7) (by omega)) (h.ob a0 b0 hb0).2.1 (Or.inl (show (1 : Nat) ≠ 3 from by decide)))).trans (h.r7 i hi)
  · exact fun b hb => (va_up_ne _ _ (ow_ne (h.ok (29 + 2 * b) (by omega)) (h.ob a0 b0 hb0).2.1 (Or.inl (show (1 : Nat) ≠ 3 from by decide)))).trans (h.b0 b hb)
  · exact fun b hb => (va_up_ne _ _ (ow_ne (h.ok (29 + 2 * b + 1) (by omega)) (h.ob a0 b0 hb0).2.1 (Or.inl (show (1 : Nat) ≠ 3 from by decide)))).trans (h.b1 b hb)
  · exact fun a b hb => (by by_cases q_ : a = a0; (subst q_; rw [show BD (dB D a (stB b0 (g, (cB b0).2))) a = some (stB b0 (g, (cB b0).2)) from va_up_self _ _ _] at hb; cases hb; exact (va_up_ne _ _ (ow_ne (h.ob a b0 hb0).1 (h.ob a b0 hb0).2.1 (Or.inl (show (2 : Nat) ≠ 3 from by decide)))).trans (h.p0 a b0 hb0)); (rw [show BD (dB D a0 (stB b0 (g, (cB b0).2))) a = BD D a from va_up_ne _ _ q_] at hb; exact (va_up_ne _ _ (ow_ne (h.ob a b hb).1 (h.ob a0 b0 hb0).2.1 (Or.inl (show (2 : Nat) ≠ 3 from by decide)))).trans (h.p0 a b hb)))
  · exact fun a b hb => (by by_cases q_ : a = a0; (subst q_; rw [show BD (dB D a (stB b0 (g, (cB b0).2))) a = some (stB b0 (g, (cB b0).2)) from va_up_self _ _ _] at hb; cases hb; exact va_up_self _ _ _); (rw [show BD (dB D a0 (stB b0 (g, (cB b0).2))) a = BD D a from va_up_ne _ _ q_] at hb; exact (va_up_ne _ _ (ow_ne (h.ob a b hb).2.1 (h.ob a0 b0 hb0).2.1 (Or.inr q_))).trans (h.p1 a b hb)))
  · exact fun a b hb => (by by_cases q_ : a = a0; (subst q_; rw [show BD (dB D a (stB b0 (g, (cB b0).2))) a = some (stB b0 (g, (cB b0).2)) from va_up_self _ _ _] at hb; cases hb; exact (va_up_ne _ _ (ow_ne (h.ob a b0 hb0).2.2 (h.ob a b0 hb0).2.1 (Or.inl (show (4 : Nat) ≠ 3 from by decide)))).trans (h.p2 a b0 hb0)); (rw [show BD (dB D a0 (stB b0 (g, (cB b0).2))) a = BD D a from va_up_ne _ _ q_] at hb; exact (va_up_ne _ _ (ow_ne (h.ob a b hb).2.2 (h.ob a0 b0 hb0).2.1 (Or.inl (show (4 : Nat) ≠ 3 from by decide)))).trans (h.p2 a b hb)))
  · exact fun a t ht => (va_up_ne _ _ (ow_ne (h.oa a t ht) (h.ob a0 b0 hb0).2.1 (Or.inl (show (5 : Nat) ≠ 3 from by decide)))).trans (h.a0 a t ht)
theorem CM.setPi (h : CM G k own n z D f) {a0 : Nat} {b0 : tBo} (hb0 : BD D a0 = some b0) {g : Nat → Int32} (ef : f2 = va_up f (iaB b0) (some (.inl (gk G 0, 16, .inl g)))) : CM G k own n z (dB D a0 (stB b0 ((cB b0).1, g))) f2 := by
  subst ef
  refine ⟨?_, ?_, ?_, ?_, ?_, ?_, ?_, ?_, ?_, ?_, ?_, ?_, ?_, ?_, ?_, ?_, ?_, ?_, ?_, h.ok, fun a b hb => (by by_cases q_ : a = a0; (subst q_; rw [show BD (dB D a (stB b0 ((cB b0).1, g))) a = some (stB b0 ((cB b0).1, g)) from va_up_self _ _ _] at hb; cases hb; exact h.ob a b0 hb0); (rw [show BD (dB D a0 (stB b0 ((cB b0).1, g))) a = BD D a from va_up_ne _ _ q_] at hb; exact h.ob a b hb)), h.oa, h.bq⟩
  · exact (va_up_ne _ _ (ow_ne (h.ok 0 (by omega)) (h.ob a0 b0 hb0).2.2 (Or.inl (show (1 : Nat) ≠ 4 from by decide)))).trans (h.c0)
  · exact (va_up_ne _ _ (ow_ne (h.ok 1 (by omega)) (h.ob a0 b0 hb0).2.2 (Or.inl (show (1 : Nat) ≠ 4 from by decide)))).trans (h.c1)
  · exact (va_up_ne _ _ (ow_ne (h.ok 2 (by omega)) (h.ob a0 b0 hb0).2.2 (Or.inl (show (1 : Nat) ≠ 4 from by decide)))).trans (h.c2)
  · exact (va_up_ne _ _ (ow_ne (h.ok 3 (by omega)) (h.ob a0 b0 hb0).2.2 (Or.inl (show (1 : Nat) ≠ 4 from by decide)))).trans (h.c3)
  · exact (va_up_ne _ _ (ow_ne (h.ok 4 (by omega)) (h.ob a0 b0 hb0).2.2 (Or.inl (show (1 : Nat) ≠ 4 from by decide)))).trans (h.c4)
  · exact fun i hi => (va_up_ne _ _ (ow_ne (h.ok (5 + 8 * i) (by omega)) (h.ob a0 b0 hb0).2.2 (Or.inl (show (1 : Nat) ≠ 4 from by decide)))).trans (h.r0 i hi)
  · exact fun i hi => (va_up_ne _ _ (ow_ne (h.ok (5 + 8 * i + 1) (by omega)) (h.ob a0 b0 hb0).2.2 (Or.inl (show (1 : Nat) ≠ 4 from by decide)))).trans (h.r1 i hi)
  · exact fun i hi => (va_up_ne _ _ (ow_ne (h.ok (5 + 8 * i + 2) (by omega)) (h.ob a0 b0 hb0).2.2 (Or.inl (show (1 : Nat) ≠ 4 from by decide)))).trans (h.r2 i hi)
  · exact fun i hi => (va_up_ne _ _ (ow_ne (h.ok (5 + 8 * i + 3) (by omega)) (h.ob a0 b0 hb0).2.2 (Or.inl (show (1 : Nat) ≠ 4 from by decide)))).trans (h.r3 i hi)
  · exact fun i hi => (va_up_ne _ _ (ow_ne (h.ok (5 + 8 * i + 4) (by omega)) (h.ob a0 b0 hb0).2.2 (Or.inl (show (1 : Nat) ≠ 4 from by decide)))).trans (h.r4 i hi)
  · exact fun i hi => (va_up_ne _ _ (ow_ne (h.ok (5 + 8 * i + 5) (by omega)) (h.ob a0 b0 hb0).2.2 (Or.inl (show (1 : Nat) ≠ 4 from by decide)))).trans (h.r5 i hi)
  · exact fun i hi => (va_up_ne _ _ (ow_ne (h.ok (5 + 8 * i + 6) (by omega)) (h.ob a0 b0 hb0).2.2 (Or.inl (show (1 : Nat) ≠ 4 from by decide)))).trans (h.r6 i hi)
  · exact fun i hi => (va_up_ne _ _ (ow_ne (h.ok (5 + 8 * i + 7) (by omega)) (h.ob a0 b0 hb0).2.2 (Or.inl (show (1 : Nat) ≠ 4 from by decide)))).trans (h.r7 i hi)
  · exact fun b hb => (va_up_ne _ _ (ow_ne (h.ok (29 + 2 * b) (by omega)) (h.ob a0 b0 hb0).2.2 (Or.inl (show (1 : Nat) ≠ 4 from by decide)))).trans (h.b0 b hb)
  · exact fun b hb => (va_up_ne _ _ (ow_ne (h.ok (29 + 2 * b + 1) (by omega)) (h.ob a0 b0 hb0).2.2 (Or.inl (show (1 : Nat) ≠ 4 from by decide)))).trans (h.b1 b hb)
  · exact fun a b hb => (by by_cases q_ : a = a0; (subst q_; rw [show BD (dB D a (stB b0 ((cB b0).1, g))) a = some (stB b0 ((cB b0).1, g)) from va_up_self _ _ _] at hb; cases hb; exact (va_up_ne _ _ (ow_ne (h.ob a b0 hb0).1 (h.ob a b0 hb0).2.2 (Or.inl (show (2 : Nat) ≠ 4 from by decide)))).trans (h.p0 a b0 hb0)); (rw [show BD (dB D a0 (stB b0 ((cB b0).1, g))) a = BD D a from va_up_ne _ _ q_] at hb; exact (va_up_ne _ _ (ow_ne (h.ob a b hb).1 (h.ob a0 b0 hb0).2.2 (Or.inl (show (2 : Nat) ≠ 4 from by decide)))).trans (h.p0 a b hb)))
  · exact fun a b hb => (by by_cases q_ : a = a0; (subst q_; rw [show BD (dB D a (stB b0 ((cB b0).1, g))) a = some (stB b0 ((cB b0).1, g)) from va_up_self _ _ _] at hb; cases hb; exact (va_up_ne _ _ (ow_ne (h.ob a b0 hb0).2.1 (h.ob a b0 hb0).2.2 (Or.inl (show (3 : Nat) ≠ 4 from by decide)))).trans (h.p1 a b0 hb0)); (rw [show BD (dB D a0 (stB b0 ((cB b0).1, g))) a = BD D a from va_up_ne _ _ q_] at hb; exact (va_up_ne _ _ (ow_ne (h.ob a b hb).2.1 (h.ob a0 b0 hb0).2.2 (Or.inl (show (3 : Nat) ≠ 4 from by decide)))).trans (h.p1 a b hb)))
  · exact fun a b hb => (by by_cases q_ : a = a0; (subst q_; rw [show BD (dB D a (stB b0 ((cB b0).1, g))) a = some (stB b0 ((cB b0).1, g)) from va_up_self _ _ _] at hb; cases hb; exact va_up_self _ _ _); (rw [show BD (dB D a0 (stB b0 ((cB b0).1, g))) a = BD D a from va_up_ne _ _ q_] at hb; exact (va_up_ne _ _ (ow_ne (h.ob a b hb).2.2 (h.ob a0 b0 hb0).2.2 (Or.inr q_))).trans (h.p2 a b hb)))
  · exact fun a t ht => (va_up_ne _ _ (ow_ne (h.oa a t ht) (h.ob a0 b0 hb0).2.2 (Or.inl (show (5 : Nat) ≠ 4 from by decide)))).trans (h.a0 a t ht)
theorem CM.setPb (h : CM G k own n z D f) {a0 : Nat} {b0 : tBo} (hb0 : BD D a0 = some b0) {si : Int32} {bf : Option Nat} (ef : f2 = va_up f (a0) (some (.inr (2, [.int (nI (yB b0)), .ref (caB b0), .ref (iaB b0), .int si, va_rf bf])))) : CM G k own n z (dB D a0 ((gB b0, yB b0, caB b0, iaB b0, si, bf, cB b0))) f2 := by
  subst ef
  refine ⟨?_, ?_, ?_, ?_, ?_, ?_, ?_, ?_, ?_, ?_, ?_, ?_, ?_, ?_, ?_, ?_, ?_, ?_, ?_, h.ok, fun a b hb => (by by_cases q_ : a = a0; (subst q_; rw [show BD (dB D a ((gB b0, yB b0, caB b0, iaB b0, si, bf, cB b0))) a = some ((gB b0, yB b0, caB b0, iaB b0, si, bf, cB b0)) from va_up_self _ _ _] at hb; cases hb; exact h.ob a b0 hb0); (rw [show BD (dB D a0 ((gB b0, yB b0, caB b0, iaB b0, si, bf, cB b0))) a = BD D a from va_up_ne _ _ q_] at hb; exact h.ob a b hb)), h.oa, h.bq⟩
  · exact (va_up_ne _ _ (ow_ne (h.ok 0 (by omega)) (h.ob a0 b0 hb0).1 (Or.inl (show (1 : Nat) ≠ 2 from by decide)))).trans (h.c0)
  · exact (va_up_ne _ _ (ow_ne (h.ok 1 (by omega)) (h.ob a0 b0 hb0).1 (Or.inl (show (1 : Nat) ≠ 2 from by decide)))).trans (h.c1)
  · exact (va_up_ne _ _ (ow_ne (h.ok 2 (by omega)) (h.ob a0 b0 hb0).1 (Or.inl (show (1 : Nat) ≠ 2 from by decide)))).trans (h.c2)
  · exact (va_up_ne _ _ (ow_ne (h.ok 3 (by omega)) (h.ob a0 b0 hb0).1 (Or.inl (show (1 : Nat) ≠ 2 from by decide)))).trans (h.c3)
  · exact (va_up_ne _ _ (ow_ne (h.ok 4 (by omega)) (h.ob a0 b0 hb0).1 (Or.inl (show (1 : Nat) ≠ 2 from by decide)))).trans (h.c4)
  · exact fun i hi => (va_up_ne _ _ (ow_ne (h.ok (5 + 8 * i) (by omega)) (h.ob a0 b0 hb0).1 (Or.inl (show (1 : Nat) ≠ 2 from by decide)))).trans (h.r0 i hi)
  · exact fun i hi => (va_up_ne _ _ (ow_ne (h.ok (5 + 8 * i + 1) (by omega)) (h.ob a0 b0 hb0).1 (Or.inl (show (1 : Nat) ≠ 2 from by decide)))).trans (h.r1 i hi)
  · exact fun i hi => (va_up_ne _ _ (ow_ne (h.ok (5 + 8 * i + 2) (by omega)) (h.ob a0 b0 hb0).1 (Or.inl (show (1 : Nat) ≠ 2 from by decide)))).trans (h.r2 i hi)
  · exact fun i hi => (va_up_ne _ _ (ow_ne (h.ok (5 + 8 * i + 3) (by omega)) (h.ob a0 b0 hb0).1 (Or.inl (show (1 : Nat) ≠ 2 from by decide)))).trans (h.r3 i hi)
  · exact fun i hi => (va_up_ne _ _ (ow_ne (h.ok (5 + 8 * i + 4) (by omega)) (h.ob a0 b0 hb0).1 (Or.inl (show (1 : Nat) ≠ 2 from by decide)))).trans (h.r4 i hi)
  · exact fun i hi => (va_up_ne _ _ (ow_ne (h.ok (5 + 8 * i + 5) (by omega)) (h.ob a0 b0 hb0).1 (Or.inl (show (1 : Nat) ≠ 2 from by decide)))).trans (h.r5 i hi)
  · exact fun i hi => (va_up_ne _ _ (ow_ne (h.ok (5 + 8 * i + 6) (by omega)) (h.ob a0 b0 hb0).1 (Or.inl (show (1 : Nat) ≠ 2 from by decide)))).trans (h.r6 i hi)
  · exact fun i hi => (va_up_ne _ _ (ow_ne (h.ok (5 + 8 * i + 7) (by omega)) (h.ob a0 b0 hb0).1 (Or.inl (show (1 : Nat) ≠ 2 from by decide)))).trans (h.r7 i hi)
  · exact fun b hb => (va_up_ne _ _ (ow_ne (h.ok (29 + 2 * b) (by omega)) (h.ob a0 b0 hb0).1 (Or.inl (show (1 : Nat) ≠ 2 from by decide)))).trans (h.b0 b hb)
  · exact fun b hb => (va_up_ne _ _ (ow_ne (h.ok (29 + 2 * b + 1) (by omega)) (h.ob a0 b0 hb0).1 (Or.inl (show (1 : Nat) ≠ 2 from by decide)))).trans (h.b1 b hb)
  · exact fun a b hb => (by by_cases q_ : a = a0; (subst q_; rw [show BD (dB D a ((gB b0, yB b0, caB b0, iaB b0, si, bf, cB b0))) a = some ((gB b0, yB b0, caB b0, iaB b0, si, bf, cB b0)) from va_up_self _ _ _] at hb; cases hb; exact va_up_self _ _ _); (rw [show BD (dB D a0 ((gB b0, yB b0, caB b0, iaB b0, si, bf, cB b0))) a = BD D a from va_up_ne _ _ q_] at hb; exact (va_up_ne _ _ (ow_ne (h.ob a b hb).1 (h.ob a0 b0 hb0).1 (Or.inr q_))).trans (h.p0 a b hb)))
  · exact fun a b hb => (by by_cases q_ : a = a0; (subst q_; rw [show BD (dB D a ((gB b0, yB b0, caB b0, iaB b0, si, bf, cB b0))) a = some ((gB b0, yB b0, caB b0, iaB b0, si, bf, cB b0)) from va_up_self _ _ _] at hb; cases hb; exact (va_up_ne _ _ (ow_ne (h.ob a b0 hb0).2.1 (h.ob a b0 hb0).1 (Or.inl (show (3 : Nat) ≠ 2 from by decide)))).trans (h.p1 a b0 hb0)); (rw [show BD (dB D a0 ((gB b0, yB b0, caB b0, iaB b0, si, bf, cB b0))) a = BD D a from va_up_ne _ _ q_] at hb; exact (va_up_ne _ _ (ow_ne (h.ob a b hb).2.1 (h.ob a0 b0 hb0).1 (Or.inl (show (3 : Nat) ≠ 2 from by decide)))).trans (h.p1 a b hb)))
  · exact fun a b hb => (by by_cases q_ : a = a0; (subst q_; rw [show BD (dB D a ((gB b0, yB b0, caB b0, iaB b0, si, bf, cB b0))) a = some ((gB b0, yB b0, caB b0, iaB b0, si, bf, cB b0)) from va_up_self _ _ _] at hb; cases hb; exact (va_up_ne _ _ (ow_ne (h.ob a b0 hb0).2.2 (h.ob a b0 hb0).1 (Or.inl (show (4 : Nat) ≠ 2 from by decide)))).trans (h.p2 a b0 hb0)); (rw [show BD (dB D a0 ((gB b0, yB b0, caB b0, iaB b0, si, bf, cB b0))) a = BD D a from va_up_ne _ _ q_] at hb; exact (va_up_ne _ _ (ow_ne (h.ob a b hb).2.2 (h.ob a0 b0 hb0).1 (Or.inl (show (4 : Nat) ≠ 2 from by decide)))).trans (h.p2 a b hb)))
  · exact fun a t ht => (va_up_ne _ _ (ow_ne (h.oa a t ht) (h.ob a0 b0 hb0).1 (Or.inl (show (5 : Nat) ≠ 2 from by decide)))).trans (h.a0 a t ht)
end CMs
end
section
/-! bits -/
def btO (x : Int32) (o : Nat) : Bool := x.toBitVec.getLsbD o
theorem sh_amtB : ∀ n, n < 32 → ((nI n &&& 31).toBitVec.smod 32).toNat = n := by decide +kernel
theorem sh_oneB : ∀ n, n < 32 → ((1 : Int32) <<< (nI n &&& 31)).toBitVec = BitVec.twoPow 32 n := by decide +kernel
theorem and_oneB (y : Int32) : (y &&& 1) = 1 ↔ y.toBitVec.getLsbD 0 = true := by
  have e1 : (1 : Int32).toBitVec = 1#32 := rfl
  constructor
  · intro h
    have q := congrArg (fun q : Int32 => q.toBitVec.getLsbD 0) h
    simp only [Int32.toBitVec_and, BitVec.getLsbD_and] at q
    rw [e1] at q
    simpa using q
  · intro h
    apply Int32.toBitVec_inj.mp
    apply BitVec.eq_of_getLsbD_eq
    intro i hi
    rw [Int32.toBitVec_and, BitVec.getLsbD_and, e1]
    by_cases h0 : i = 0
    · subst h0; rw [h]; rfl
    · have : (1#32).getLsbD i = false := by simp [BitVec.getLsbD_one, h0]
      rw [this]; simp
theorem and_1B (y : Int32) : (y &&& 1) = 0 ∨ (y &&& 1) = 1 := by
  obtain ⟨j, hj, e⟩ := pk_andE y (m := 1) 1 (by decide)
  have : j = 0 ∨ j = 1 := by omega
  rcases this with rfl | rfl
  · exact Or.inl e
  · exact Or.inr e
theorem bt_iff {x : Int32} {j : Nat} (hj : j < 32) : ((x >>> (nI j &&& 31)) &&& 1) = 1 ↔ btO x j = true := by
  unfold btO
  rw [and_oneB, Int32.toBitVec_shiftRight]
  show (x.toBitVec.sshiftRight ((nI j &&& 31).toBitVec.smod 32).toNat).getLsbD 0 = true ↔ _
  rw [sh_amtB j hj, BitVec.getLsbD_sshiftRight]
  have : j + 0 < 32 := by omega
  simp [this]
  intro hh
  omega
theorem bt_get {x : Int32} {j : Nat} (hj : j < 32) : ((x >>> (nI j &&& 31)) &&& 1) = b2i (btO x j) := by
  cases hb : btO x j with
  | true => exact (bt_iff hj).mpr hb
  | false =>
    rcases and_1B (x >>> (nI j &&& 31)) with h | h
    · exact h
    · rw [(bt_iff hj).mp h] at hb; cases hb
theorem bt_or {x : Int32} {m j : Nat} (hm : m < 32) (hj : j < 32) : btO (x ||| ((1 : Int32) <<< (nI m &&& 31))) j = (btO x j || decide (j = m)) := by
  unfold btO
  rw [Int32.toBitVec_or, BitVec.getLsbD_or, sh_oneB m hm, BitVec.getLsbD_twoPow]
  by_cases h : j = m
  · subst h; simp [hj]
  · have : ¬ m = j := fun e => h e.symm
    simp [this, h]
theorem bt_and0 {x : Int32} {m : Nat} (hm : m < 32) : (x &&& ((1 : Int32) <<< (nI m &&& 31))) = 0 ↔ btO x m = false := by
  unfold btO
  constructor
  · intro h
    have q := congrArg (fun q : Int32 => q.toBitVec.getLsbD m) h
    simp only [Int32.toBitVec_and, BitVec.getLsbD_and] at q
    rw [sh_oneB m hm, BitVec.getLsbD_twoPow] at q
    have z : (0 : Int32).toBitVec.getLsbD m = false := by simp
    rw [z] at q
    simpa [hm] using q
  · intro h
    apply Int32.toBitVec_inj.mp
    apply BitVec.eq_of_getLsbD_eq
    intro i hi
    rw [Int32.toBitVec_and, BitVec.getLsbD_and, sh_oneB m hm, BitVec.getLsbD_twoPow]
    have z : (0 : Int32).toBitVec.getLsbD i = false := by simp
    rw [z]
    by_cases e : m = i
    · subst e; rw [h]; rfl
    · simp [e]
theorem bt_zero {o : Nat} : btO 0 o = false := by unfold btO; simp
theorem bt_andnot {x y : Int32} {o : Nat} (ho : o < 32) : btO (x &&& (y ^^^ (-1))) o = (btO x o && !btO y o) := by
  unfold btO
  rw [Int32.toBitVec_and, BitVec.getLsbD_and, Int32.toBitVec_xor, BitVec.getLsbD_xor]
  have : (-1 : Int32).toBitVec.getLsbD o = true := by
    have e : (-1 : Int32).toBitVec = BitVec.allOnes 32 := by decide
    rw [e, BitVec.getLsbD_allOnes]; simp [ho]
  rw [this]
  cases x.toBitVec.getLsbD o <;> cases y.toBitVec.getLsbD o <;> rfl
theorem bt_orB {x y : Int32} {o : Nat} : btO (x ||| y) o = (btO x o || btO y o) := by
  unfold btO
  rw [Int32.toBitVec_or, BitVec.getLsbD_or]
abbrev tchL (c : Nat) (l : List Nat) : List Nat := tch c l
/-! contents, up to what shows -/
def eqB (t : Nat) (c1 c2 : tB) : Prop := ∀ j, j < 8 → sameF t j c1 c2
theorem sameF.rf {t j : Nat} {c : tB} : sameF t j c c := ⟨rfl, fun _ _ _ => rfl⟩
theorem sameF.sy {t j : Nat} {c d : tB} (h : sameF t j c d) : sameF t j d c := ⟨h.1.symm, fun h3 i hi => (h.2 h3 i hi).symm⟩
theorem sameF.tr {t j : Nat} {c d e : tB} (h : sameF t j c d) (h2 : sameF t j d e) : sameF t j c e := ⟨h.1.trans h2.1, fun h3 i hi => (h.2 h3 i hi).trans (h2.2 h3 i hi)⟩
theorem eqB.rf {t : Nat} {c : tB} : eqB t c c := fun _ _ => sameF.rf
theorem eqB.sy {t : Nat} {c d : tB} (h : eqB t c d) : eqB t d c := fun j hj => (h j hj).sy
theorem eqB.tr {t : Nat} {c d e : tB} (h : eqB t c d) (h2 : eqB t d e) : eqB t c e := fun j hj => (h j hj).tr (h2 j hj)
theorem eqB.same {t j : Nat} {c c2 d d2 : tB} (hj : j < 8) (h : eqB t c c2) (h2 : eqB t d d2) : sameF t j c d ↔ sameF t j c2 d2 := ⟨fun q => ((h j hj).sy.tr q).tr (h2 j hj), fun q => ((h j hj).tr q).tr (h2 j hj).sy⟩
theorem eqB.cpy {t : Nat} {c d : tB} : eqB t (va_cpy c.1 d.1 0 0 8, va_cpy c.2 d.2 0 0 16) c := by
  intro j hj
  refine ⟨?_, fun _ i hi => ?_⟩
  · show va_cpy c.1 d.1 0 0 8 j = c.1 j
    unfold va_cpy; rw [if_pos (by omega), show 0 + (j - 0) = j by omega]
  · show va_cpy c.2 d.2 0 0 16 (plc j i) = c.2 (plc j i)
    have := plc_lt (j := j) hi
    unfold va_cpy; rw [if_pos (by omega), show 0 + (plc j i - 0) = plc j i by omega]
theorem eqB.setC {t j : Nat} {c d : tB} {v : Int64} (h : eqB t c d) : eqB t (setC c j v) (setC d j v) := by
  intro i hi
  refine ⟨?_, fun h3 q hq => (h i hi).2 h3 q hq⟩
  show va_up c.1 j v i = va_up d.1 j v i
  unfold va_up
  split
  · rfl
  · exact (h i hi).1
theorem eqB.setM {t p : Nat} {c d : tB} {v : Int32} (h : eqB t c d) : eqB t (setM c p v) (setM d p v) := by
  intro i hi
  refine ⟨(h i hi).1, fun h3 q hq => ?_⟩
  show va_up c.2 p v (plc i q) = va_up d.2 p v (plc i q)
  unfold va_up
  split
  · rfl
  · exact (h i hi).2 h3 q hq
theorem eqB.ren {t j : Nat} {c d : tB} {v : Int64} (h : eqB t c d) : eqB t (renB c j v) (renB d j v) := by
  intro i hi
  refine ⟨?_, fun h3 q hq => ?_⟩
  · show va_up c.1 j v i = va_up d.1 j v i
    unfold va_up
    split
    · rfl
    · exact (h i hi).1
  · show (if plc j 0 ≤ plc i q ∧ plc i q < plc j 0 + 8 then (0 : Int32) else c.2 (plc i q)) = (if plc j 0 ≤ plc i q ∧ plc i q < plc j 0 + 8 then (0 : Int32) else d.2 (plc i q))
    split
    · rfl
    · exact (h i hi).2 h3 q hq
theorem plc0 (j i : Nat) : plc j i = plc j 0 + i := by unfold plc; omega
theorem eqB.cpyM {t1 t j1 j2 m : Nat} {b1 b2 d1 d2 : tB} (hj1 : j1 < 8) (h1 : eqB t1 b1 d1) (h3 : srt t1 j1 = 3) (h2 : eqB t b2 d2) (hm : m ≤ 8) : eqB t (cpyM b1 b2 j1 j2 m) (cpyM d1 d2 j1 j2 m) := by
  intro i hi
  refine ⟨(h2 i hi).1, fun hs q hq => ?_⟩
  show va_cpy b1.2 b2.2 (plc j1 0) (plc j2 0) m (plc i q) = va_cpy d1.2 d2.2 (plc j1 0) (plc j2 0) m (plc i q)
  unfold va_cpy
  by_cases z : plc j2 0 ≤ plc i q ∧ plc i q < plc j2 0 + m
  · rw [if_pos z, if_pos z, ← plc0, ]
    exact (h1 j1 hj1).2 h3 _ (by omega)
  · rw [if_neg z, if_neg z]
    exact (h2 i hi).2 hs q hq
/-! what is touched, in the class's form -/
def TRC (l : List Nat) (e : Int32 × Int32) (en rb cb : Nat → Int32) : Prop := okTc l ∧ e.1 = nI l.length ∧ e.2 = nI (ocn l) ∧ (∀ i, i < l.length → en i = nI (l.getD i 0)) ∧ (∀ o, o < 24 → ∀ j, j < 8 → (btO (rb o) j = true ↔ 2 * (8 * o + j) ∈ l)) ∧ ∀ o, o < 24 → ∀ j, j < 8 → (btO (cb o) j = true ↔ 2 * (8 * o + j) + 1 ∈ l)
theorem TRC.nil {en rb cb : Nat → Int32} (hr : ∀ o, o < 24 → rb o = 0) (hc : ∀ o, o < 24 → cb o = 0) : TRC [] (0, 0) en rb cb := by
  refine ⟨⟨List.nodup_nil, fun c h => absurd h List.not_mem_nil⟩, rfl, rfl, fun i hi => absurd hi (by show ¬ i < 0; omega), fun o ho j hj => ?_, fun o ho j hj => ?_⟩
  · rw [hr o ho, bt_zero]; exact ⟨fun h => (by cases h), fun h => absurd h List.not_mem_nil⟩
  · rw [hc o ho, bt_zero]; exact ⟨fun h => (by cases h), fun h => absurd h List.not_mem_nil⟩
theorem tch_in {c : Nat} {l : List Nat} (h : c ∈ l) : tch c l = l := if_pos h
theorem tch_out {c : Nat} {l : List Nat} (h : c ∉ l) : tch c l = l ++ [c] := if_neg h
theorem TRC.add {l : List Nat} {e : Int32 × Int32} {en rb cb en2 rb2 cb2 : Nat → Int32} {c o j : Nat} (h : TRC l e en rb cb) (ho : o < 24) (hj : j < 8) (hn : c ∉ l) (he : ∀ i, i < l.length → en2 i = en i) (hl : en2 l.length = nI c)
    (hc : (c = 2 * (8 * o + j) ∧ cb2 = cb ∧ (∀ p, p ≠ o → rb2 p = rb p) ∧ rb2 o = (rb o ||| ((1 : Int32) <<< (nI j &&& 31)))) ∨ (c = 2 * (8 * o + j) + 1 ∧ rb2 = rb ∧ (∀ p, p ≠ o → cb2 p = cb p) ∧ cb2 o = (cb o ||| ((1 : Int32) <<< (nI j &&& 31))))) : TRC (l ++ [c]) (nI (l.length + 1), nI (ocn l + c % 2)) en2 rb2 cb2 := by
  obtain ⟨h1, -, -, h4, h5, h6⟩ := h
  have hc384 : c < 384 := by rcases hc with q | q <;> (have := q.1; omega)
  refine ⟨tch_out hn ▸ okTc_tch h1 hc384, ?_, ?_, fun i hi => ?_, fun p hp q hq => ?_, fun p hp q hq => ?_⟩
  · rw [List.length_append]; rfl
  · rw [ocn_app]
  · rw [List.length_append] at hi
    have hi : i < l.length + 1 := hi
    by_cases e1 : i = l.length
    · subst e1; rw [getD_last]; exact hl
    · rw [getD_app (by omega), he i (by omega)]; exact h4 i (by omega)
  · rw [List.mem_append, List.mem_singleton]
    rcases hc with ⟨e1, e2, e3, e4⟩ | ⟨e1, e2, e3, e4⟩
    · by_cases ep : p = o
      · subst ep
        rw [e4, bt_or (by omega) (by omega), Bool.or_eq_true, h5 p hp q hq, decide_eq_true_iff]
        constructor
        · rintro (w | w)
          · exact Or.inl w
          · exact Or.inr (by omega)
        · rintro (w | w)
          · exact Or.inl w
          · exact Or.inr (by omega)
      · rw [e3 p ep, h5 p hp q hq]
        exact ⟨Or.inl, fun w => w.resolve_right (fun z => by omega)⟩
    · rw [e2, h5 p hp q hq]
      exact ⟨Or.inl, fun w => w.resolve_right (fun z => by omega)⟩
  · rw [List.mem_append, List.mem_singleton]
    rcases hc with ⟨e1, e2, e3, e4⟩ | ⟨e1, e2, e3, e4⟩
    · rw [e2, h6 p hp q hq]
      exact ⟨Or.inl, fun w => w.resolve_right (fun z => by omega)⟩
    · by_cases ep : p = o
      · subst ep
        rw [e4, bt_or (by omega) (by omega), Bool.or_eq_true, h6 p hp q hq, decide_eq_true_iff]
        constructor
        · rintro (w | w)
          · exact Or.inl w
          · exact Or.inr (by omega)
        · rintro (w | w)
          · exact Or.inl w
          · exact Or.inr (by omega)
      · rw [e3 p ep, h6 p hp q hq]
        exact ⟨Or.inl, fun w => w.resolve_right (fun z => by omega)⟩
end
section
/-! what stays: cells that nobody of the class owns -/
def frD (own : tR) (f : mF) (own2 : tR) (f2 : mF) : Prop := ∀ (a : Nat) (e : va_E), f a = some e → (∃ e2, f2 a = some e2) ∧ own2 a = own a ∧ ((own a).1 = 0 → f2 a = some e)
theorem frD.rf {own : tR} {f : mF} : frD own f own f := fun a e h => ⟨⟨e, h⟩, rfl, fun _ => h⟩
theorem frD.trans {o1 o2 o3 : tR} {f g k : mF} (h1 : frD o1 f o2 g) (h2 : frD o2 g o3 k) : frD o1 f o3 k := fun a e h => by
  obtain ⟨⟨e2, q1⟩, q2, q3⟩ := h1 a e h
  obtain ⟨q4, q5, q6⟩ := h2 a e2 q1
  refine ⟨q4, q5.trans q2, fun h0 => ?_⟩
  have q7 := q3 h0
  rw [q1] at q7
  cases q7
  exact q6 (by rw [q2]; exact h0)
theorem frD.up {o1 o2 : tR} {f g g2 : mF} {x : Nat} {e : va_E} (h : frD o1 f o2 g) (hx : (o2 x).1 ≠ 0) (eg : g2 = va_up g x (some e)) : frD o1 f o2 g2 := h.trans (fun a e1 h1 => by
  subst eg
  by_cases q : a = x
  · subst q; exact ⟨⟨e, va_up_self _ _ _⟩, rfl, fun h0 => absurd h0 hx⟩
  · rw [va_up_ne _ _ q]; exact ⟨⟨e1, h1⟩, rfl, fun _ => h1⟩)
theorem frD.fresh {o1 o2 o3 : tR} {f g g2 : mF} {x : Nat} {e : va_E} (h : frD o1 f o2 g) (hx : g x = none) (eg : g2 = va_up g x (some e)) (ho : ∀ a, a ≠ x → o3 a = o2 a) : frD o1 f o3 g2 := h.trans (fun a e1 h1 => by
  subst eg
  have q : a ≠ x := fun q => by rw [q, hx] at h1; cases h1
  rw [va_up_ne _ _ q]; exact ⟨⟨e1, h1⟩, ho a q, fun _ => h1⟩)
theorem frD.none {o1 o2 : tR} {f g : mF} (h : frD o1 f o2 g) {x : Nat} (hx : g x = none) : f x = none := by
  cases hf : f x with
  | none => rfl
  | some e => obtain ⟨⟨e2, q⟩, -⟩ := h x e hf; rw [hx] at q; cases q
section CMm
variable {G : mG} {k : Nat → Nat} {own own2 : tR} {n : Nat} {z : Nat → Nat} {D : tD} {f f2 : mF}
theorem CM.mono (h : CM G k own n z D f) (hm : ∀ a e, f a = some e → (own a).1 ≠ 0 → f2 a = some e ∧ own2 a = own a) : CM G k own2 n z D f2 := by
  have hk : ∀ {j : Nat} {e : va_E}, j < 41 → f (k j) = some e → f2 (k j) = some e := fun {j e} hj he => (hm _ _ he (by rw [h.ok j hj]; exact (by decide : (1 : Nat) ≠ 0))).1
  have h1 : ∀ a b, BD D a = some b → (own a).1 ≠ 0 ∧ (own (caB b)).1 ≠ 0 ∧ (own (iaB b)).1 ≠ 0 := fun a b hb => by
    obtain ⟨q1, q2, q3⟩ := h.ob a b hb
    rw [q1, q2, q3]
    exact ⟨(by decide : (2 : Nat) ≠ 0), (by decide : (3 : Nat) ≠ 0), (by decide : (4 : Nat) ≠ 0)⟩
  have h2 : ∀ a t, AD D a = some t → (own a).1 ≠ 0 := fun a t ht => by rw [h.oa a t ht]; exact (by decide : (5 : Nat) ≠ 0)
  refine ⟨hk (by omega) h.c0, hk (by omega) h.c1, hk (by omega) h.c2, hk (by omega) h.c3, hk (by omega) h.c4, fun i hi => hk (by omega) (h.r0 i hi), fun i hi => hk (by omega) (h.r1 i hi), fun i hi => hk (by omega) (h.r2 i hi), fun i hi => hk (by omega) (h.r3 i hi), fun i hi => hk (by omega) (h.r4 i hi), fun i hi => hk (by omega) (h.r5 i hi), fun i hi => hk (by omega) (h.r6 i hi), fun i hi => hk (by omega) (h.r7 i hi), fun b hb => hk (by omega) (h.b0 b hb), fun b hb => hk (by omega) (h.b1 b hb), fun a b hb => (hm _ _ (h.p0 a b hb) (h1 a b hb).1).1, fun a b hb => (hm _ _ (h.p1 a b hb) (h1 a b hb).2.1).1, fun a b hb => (hm _ _ (h.p2 a b hb) (h1 a b hb).2.2).1, fun a t ht => (hm _ _ (h.a0 a t ht) (h2 a t ht)).1, ?_, ?_, ?_, h.bq⟩
  · intro j hj
    have key : ∃ e, f (k j) = some e := by
      by_cases q5 : j < 5
      · have : j = 0 ∨ j = 1 ∨ j = 2 ∨ j = 3 ∨ j = 4 := by omega
        rcases this with rfl | rfl | rfl | rfl | rfl
        · exact ⟨_, h.c0⟩
        · exact ⟨_, h.c1⟩
        · exact ⟨_, h.c2⟩
        · exact ⟨_, h.c3⟩
        · exact ⟨_, h.c4⟩
      · by_cases q29 : j < 29
        · obtain ⟨i, hi, c, hc, rfl⟩ : ∃ i, i < 3 ∧ ∃ c, c < 8 ∧ j = 5 + 8 * i + c := ⟨(j - 5) / 8, by omega, (j - 5) % 8, by omega, by omega⟩
          have : c = 0 ∨ c = 1 ∨ c = 2 ∨ c = 3 ∨ c = 4 ∨ c = 5 ∨ c = 6 ∨ c = 7 := by omega
          rcases this with rfl | rfl | rfl | rfl | rfl | rfl | rfl | rfl
          · exact ⟨_, h.r0 i hi⟩
          · exact ⟨_, h.r1 i hi⟩
          · exact ⟨_, h.r2 i hi⟩
          · exact ⟨_, h.r3 i hi⟩
          · exact ⟨_, h.r4 i hi⟩
          · exact ⟨_, h.r5 i hi⟩
          · exact ⟨_, h.r6 i hi⟩
          · exact ⟨_, h.r7 i hi⟩
        · obtain ⟨b, hb, c, hc, rfl⟩ : ∃ b, b < 6 ∧ ∃ c, c < 2 ∧ j = 29 + 2 * b + c := ⟨(j - 29) / 2, by omega, (j - 29) % 2, by omega, by omega⟩
          have : c = 0 ∨ c = 1 := by omega
          rcases this with rfl | rfl
          · exact ⟨_, h.b0 b hb⟩
          · exact ⟨_, h.b1 b hb⟩
    obtain ⟨e, he⟩ := key
    rw [(hm _ _ he (by rw [h.ok j hj]; exact (by decide : (1 : Nat) ≠ 0))).2]
    exact h.ok j hj
  · intro a b hb
    rw [(hm _ _ (h.p0 a b hb) (h1 a b hb).1).2, (hm _ _ (h.p1 a b hb) (h1 a b hb).2.1).2, (hm _ _ (h.p2 a b hb) (h1 a b hb).2.2).2]
    exact h.ob a b hb
  · intro a t ht
    rw [(hm _ _ (h.a0 a t ht) (h2 a t ht)).2]
    exact h.oa a t ht
/-- a cell that nobody has yet -/
theorem CM.fresh (h : CM G k own n z D f) {x : Nat} {e : va_E} (hx : f x = none) (ef : f2 = va_up f x (some e)) (ho : ∀ a, a ≠ x → own2 a = own a) : CM G k own2 n z D f2 := h.mono (fun a e1 h1 _ => by
  have q : a ≠ x := fun q => by rw [q, hx] at h1; cases h1
  rw [ef, va_up_ne _ _ q]
  exact ⟨h1, ho a q⟩)
/-- a new body -/
theorem CM.newB (h : CM G k own n z D f) {q : Nat} {b0 : tBo} (e0 : f q = some (.inr (2, [.int (nI (yB b0)), .ref (caB b0), .ref (iaB b0), .int (siB b0), va_rf (bfB b0)]))) (e1 : f (caB b0) = some (.inl (gk G 1, 8, .inr (.inl (cB b0).1)))) (e2 : f (iaB b0) = some (.inl (gk G 0, 16, .inl (cB b0).2))) (o0 : own q = (2, q)) (o1 : own (caB b0) = (3, q)) (o2 : own (iaB b0) = (4, q)) : CM G k own n z (dB D q b0) f := by
  have key : ∀ a b, BD (dB D q b0) a = some b → (a = q ∧ b = b0) ∨ BD D a = some b := fun a b hb => by
    by_cases z : a = q
    · subst z
      rw [show BD (dB D a b0) a = some b0 from va_up_self _ _ _] at hb
      cases hb
      exact Or.inl ⟨rfl, rfl⟩
    · rw [show BD (dB D q b0) a = BD D a from va_up_ne _ _ z] at hb
      exact Or.inr hb
  refine ⟨h.c0, h.c1, h.c2, h.c3, h.c4, h.r0, h.r1, h.r2, h.r3, h.r4, h.r5, h.r6, h.r7, h.b0, h.b1, fun a b hb => ?_, fun a b hb => ?_, fun a b hb => ?_, h.a0, h.ok, fun a b hb => ?_, h.oa, h.bq⟩
  · rcases key a b hb with ⟨rfl, rfl⟩ | hb
    · exact e0
    · exact h.p0 a b hb
  · rcases key a b hb with ⟨rfl, rfl⟩ | hb
    · exact e1
    · exact h.p1 a b hb
  · rcases key a b hb with ⟨rfl, rfl⟩ | hb
    · exact e2
    · exact h.p2 a b hb
  · rcases key a b hb with ⟨rfl, rfl⟩ | hb
    · exact ⟨o0, o1, o2⟩
    · exact h.ob a b hb
/-- a new act -/
theorem CM.newA (h : CM G k own n z D f) {q : Nat} {t0 : tA} (e0 : f q = some (.inr (0, [.int t0.1, .int t0.2.1, .long t0.2.2.1, .int t0.2.2.2.1, .int t0.2.2.2.2.1, .int t0.2.2.2.2.2]))) (o0 : own q = (5, q)) : CM G k own n z (dA D q t0) f := by
  have key : ∀ a t, AD (dA D q t0) a = some t → (a = q ∧ t = t0) ∨ AD D a = some t := fun a t ht => by
    by_cases z : a = q
    · subst z
      rw [show AD (dA D a t0) a = some t0 from va_up_self _ _ _] at ht
      cases ht
      exact Or.inl ⟨rfl, rfl⟩
    · rw [show AD (dA D q t0) a = AD D a from va_up_ne _ _ z] at ht
      exact Or.inr ht
  refine ⟨h.c0, h.c1, h.c2, h.c3, h.c4, h.r0, h.r1, h.r2, h.r3, h.r4, h.r5, h.r6, h.r7, h.b0, h.b1, h.p0, h.p1, h.p2, fun a t ht => ?_, h.ok, h.ob, fun a t ht => ?_, h.bq⟩
  · rcases key a t ht with ⟨rfl, rfl⟩ | ht
    · exact e0
    · exact h.a0 a t ht
  · rcases key a t ht with ⟨rfl, rfl⟩ | ht
    · exact o0
    · exact h.oa a t ht
end CMm
/-! a Run and its picture -/
def bsC (n : Nat) (T : Nat → Nat) : Prop := n ≤ 24 ∧ ∀ o, T o < 3
def cpO (i : Nat) (T : Nat → Nat) (D : tD) (o : Nat) (c : tB) : Prop := ∃ a b, QD D (5 + 8 * i + 5) o = some a ∧ BD D a = some b ∧ gB b = (i + 1, o) ∧ yB b = T o ∧ eqB (T o) (cB b) c
def obO (T : Nat → Nat) (D : tD) (o : Nat) (c : tB) : Prop := ∃ a b, QD D 1 o = some a ∧ BD D a = some b ∧ gB b = (0, o) ∧ yB b = T o ∧ eqB (T o) (cB b) c
def wfC (i n : Nat) (T : Nat → Nat) (D : tD) : Prop := ∀ o, o < 24 → QD D (5 + 8 * i + 5) o = none ∨ (o < n ∧ ∃ c, cpO i T D o c)
def wfO (n : Nat) (T : Nat → Nat) (D : tD) : Prop := ∀ o, o < n → ∃ c, obO T D o c
def RP (n : Nat) (T : Nat → Nat) (k1 i : Nat) (dn th ta nx : Int32) (s : tS) (D : tD) : Prop :=
  bsC n T ∧ okS n T s ∧ (∃ lb, rD D i = (lb, dn, gfS s, th, ta, some k1, nx) ∧ ∀ o, o < 32 → btO lb o = ldS s o) ∧ TRC (trS s) (eD D i) (ID D (5 + 8 * i + 2)) (ID D (5 + 8 * i + 3)) (ID D (5 + 8 * i + 4)) ∧ (∀ x, x < 4 → ID D (5 + 8 * i + 6) x = haS s x) ∧ (∀ x, x < 4 → JD D (5 + 8 * i + 7) x = vaS s x) ∧ wfC i n T D ∧ wfO n T D ∧ ∀ o, o < n → (ldS s o = true → cpO i T D o (bdS s o)) ∧ (ldS s o = false → obO T D o (bdS s o))
def KP (i : Nat) (D0 D : tD) : Prop := (∀ a b, BD D0 a = some b → (gB b).1 ≠ i + 1 → BD D a = some b) ∧ AD D = AD D0 ∧ lD D = lD D0 ∧ (∀ q, q ≠ i → rD D q = rD D0 q ∧ eD D q = eD D0 q) ∧ ∀ j, j < 5 + 8 * i ∨ 5 + 8 * i + 8 ≤ j → ID D j = ID D0 j ∧ JD D j = JD D0 j ∧ QD D j = QD D0 j
def RN (G : mG) (k : Nat → Nat) (own : tR) (n : Nat) (T z : Nat → Nat) (i : Nat) (D0 : tD) (dn th ta nx : Int32) (s : tS) (f : mF) : Prop := ∃ D, CM G k own n z D f ∧ RP n T (k 1) i dn th ta nx s D ∧ KP i D0 D
theorem KP.rf {i : Nat} {D : tD} : KP i D D := ⟨fun _ _ h _ => h, rfl, rfl, fun _ _ => ⟨rfl, rfl⟩, fun _ _ => ⟨rfl, rfl, rfl⟩⟩
section KPs
variable {i : Nat} {D0 D : tD}
theorem KP.R (h : KP i D0 D) {q : tQ} : KP i D0 (dR D i q) := ⟨h.1, h.2.1, h.2.2.1, fun p hp => ⟨(va_up_ne _ _ hp).trans (h.2.2.2.1 p hp).1, (h.2.2.2.1 p hp).2⟩, h.2.2.2.2⟩
theorem KP.E (h : KP i D0 D) {q : Int32 × Int32} : KP i D0 (dE D i q) := ⟨h.1, h.2.1, h.2.2.1, fun p hp => ⟨(h.2.2.2.1 p hp).1, (va_up_ne _ _ hp).trans (h.2.2.2.1 p hp).2⟩, h.2.2.2.2⟩
theorem KP.I (h : KP i D0 D) {c : Nat} {g : Nat → Int32} (hc : c < 8) : KP i D0 (dI D (5 + 8 * i + c) g) := ⟨h.1, h.2.1, h.2.2.1, h.2.2.2.1, fun j hj => ⟨(va_up_ne _ _ (by omega)).trans (h.2.2.2.2 j hj).1, (h.2.2.2.2 j hj).2⟩⟩
theorem KP.J (h : KP i D0 D) {c : Nat} {g : Nat → Int64} (hc : c < 8) : KP i D0 (dJ D (5 + 8 * i + c) g) := ⟨h.1, h.2.1, h.2.2.1, h.2.2.2.1, fun j hj => ⟨(h.2.2.2.2 j hj).1, (va_up_ne _ _ (by omega)).trans (h.2.2.2.2 j hj).2.1, (h.2.2.2.2 j hj).2.2⟩⟩
theorem KP.Q (h : KP i D0 D) {c : Nat} {g : Nat → Option Nat} (hc : c < 8) : KP i D0 (dQ D (5 + 8 * i + c) g) := ⟨h.1, h.2.1, h.2.2.1, h.2.2.2.1, fun j hj => ⟨(h.2.2.2.2 j hj).1, (h.2.2.2.2 j hj).2.1, (va_up_ne _ _ (by omega)).trans (h.2.2.2.2 j hj).2.2⟩⟩
theorem KP.B (h : KP i D0 D) {a : Nat} {b b2 : tBo} (hb : BD D a = some b) (hg : (gB b).1 = i + 1) : KP i D0 (dB D a b2) := ⟨fun x y hy hn => by
  have hx := h.1 x y hy hn
  have e : x ≠ a := fun e => by rw [e, hb] at hx; cases hx; exact hn hg
  exact (va_up_ne _ _ e).trans hx, h.2⟩
theorem KP.Bn (h : KP i D0 D) {a : Nat} {b2 : tBo} (hb : BD D a = none) : KP i D0 (dB D a b2) := ⟨fun x y hy hn => by
  have hx := h.1 x y hy hn
  have e : x ≠ a := fun e => by rw [e, hb] at hx; cases hx
  exact (va_up_ne _ _ e).trans hx, h.2⟩
end KPs
theorem cpO.ext {i o : Nat} {T : Nat → Nat} {D D2 : tD} {c : tB} (h : cpO i T D o c) (hq : QD D2 (5 + 8 * i + 5) o = QD D (5 + 8 * i + 5) o) (hb : ∀ a b, BD D a = some b → gB b = (i + 1, o) → BD D2 a = some b) : cpO i T D2 o c := by
  obtain ⟨a, b, q1, q2, q3, q4⟩ := h
  exact ⟨a, b, hq.trans q1, hb a b q2 q3, q3, q4⟩
theorem obO.ext {o : Nat} {T : Nat → Nat} {D D2 : tD} {c : tB} (h : obO T D o c) (hq : QD D2 1 o = QD D 1 o) (hb : ∀ a b, BD D a = some b → gB b = (0, o) → BD D2 a = some b) : obO T D2 o c := by
  obtain ⟨a, b, q1, q2, q3, q4⟩ := h
  exact ⟨a, b, hq.trans q1, hb a b q2 q3, q3, q4⟩
theorem obO.kp {i o : Nat} {T : Nat → Nat} {D0 D : tD} {c : tB} (h : obO T D0 o c) (hk : KP i D0 D) : obO T D o c := h.ext (by rw [(hk.2.2.2.2 1 (by omega)).2.2]) (fun a b hb hg => hk.1 a b hb (by rw [hg]; show 0 ≠ i + 1; omega))
theorem wfC.kp {i q n : Nat} {T : Nat → Nat} {D0 D : tD} (h : wfC q n T D0) (hk : KP i D0 D) (hne : q ≠ i) : wfC q n T D := fun o ho => by
  have e := (hk.2.2.2.2 (5 + 8 * q + 5) (by omega)).2.2
  rcases h o ho with h | ⟨h1, c, h2⟩
  · exact Or.inl (by rw [e]; exact h)
  · exact Or.inr ⟨h1, c, h2.ext (by rw [e]) (fun a b hb hg => hk.1 a b hb (by rw [hg]; show q + 1 ≠ i + 1; omega))⟩
section RPs
variable {n : Nat} {T : Nat → Nat} {k1 i : Nat} {dn th ta nx : Int32} {s : tS} {D : tD}
theorem RP.fld (h : RP n T k1 i dn th ta nx s D) {lb : Int32} (e : (rD D i).1 = lb) {dn2 th2 ta2 nx2 : Int32} {gf2 : Int64} : RP n T k1 i dn2 th2 ta2 nx2 (sGf s gf2) (dR D i (lb, dn2, gf2, th2, ta2, some k1, nx2)) := by
  obtain ⟨h1, h2, ⟨lb', h3, h4⟩, h5⟩ := h
  have : lb' = lb := by rw [← e, h3]
  subst this
  exact ⟨h1, h2, ⟨_, va_up_self _ _ _, h4⟩, h5⟩
theorem RP.val (h : RP n T k1 i dn th ta nx s D) (x : Nat) (v : Int64) : RP n T k1 i dn th ta nx (sVa s x v) (dJ D (5 + 8 * i + 7) (vp_updL (JD D (5 + 8 * i + 7)) x v)) := by
  obtain ⟨h1, h2, h3, h4, h5, h6, h7⟩ := h
  refine ⟨h1, h2, h3, h4, h5, fun y hy => ?_, h7⟩
  show va_up (JD D) (5 + 8 * i + 7) (vp_updL (JD D (5 + 8 * i + 7)) x v) (5 + 8 * i + 7) y = va_up (vaS s) x v y
  rw [va_up_self]
  unfold vp_updL va_up
  split
  · rfl
  · exact h6 y hy
theorem RP.hnd (h : RP n T k1 i dn th ta nx s D) (x : Nat) {v : Int32} (hv : okHa n v) : RP n T k1 i dn th ta nx (sHa s x v) (dI D (5 + 8 * i + 6) (upd (ID D (5 + 8 * i + 6)) x v)) := by
  obtain ⟨h1, h2, h3, h4, h5, h7⟩ := h
  refine ⟨h1, okS_ha h2 hv, h3, ?_, fun y hy => ?_, h7⟩
  · show TRC (trS s) (eD D i) (va_up (ID D) (5 + 8 * i + 6) _ (5 + 8 * i + 2)) (va_up (ID D) (5 + 8 * i + 6) _ (5 + 8 * i + 3)) (va_up (ID D) (5 + 8 * i + 6) _ (5 + 8 * i + 4))
    rw [va_up_ne _ _ (by omega), va_up_ne _ _ (by omega), va_up_ne _ _ (by omega)]
    exact h4
  · show va_up (ID D) (5 + 8 * i + 6) (upd (ID D (5 + 8 * i + 6)) x v) (5 + 8 * i + 6) y = va_up (haS s) x v y
    rw [va_up_self]
    unfold upd va_up
    split
    · rfl
    · exact h5 y hy
/-- a copy gets new contents -/
theorem RP.cel (h : RP n T k1 i dn th ta nx s D) {o a : Nat} {b : tBo} {c2 cn : tB} (ho : o < n) (hb : BD D a = some b) (hg : gB b = (i + 1, o)) (hy : yB b = T o) (hq : QD D (5 + 8 * i + 5) o = some a) (hl : ldS s o = true) (he : eqB (T o) c2 cn) (hk : okBd n (T o) cn) : RP n T k1 i dn th ta nx (sBd s o cn) (dB D a (stB b c2)) := by
  obtain ⟨h1, h2, h3, h4, h5, h6, h7, h8, h9⟩ := h
  have hB : BD (dB D a (stB b c2)) a = some (stB b c2) := va_up_self _ _ _
  have hO : ∀ x y, BD D x = some y → gB y ≠ (i + 1, o) → BD (dB D a (stB b c2)) x = some y := fun x y hx hn => (va_up_ne _ _ (fun e => by rw [e, hb] at hx; cases hx; exact hn hg)).trans hx
  have hnew : ∀ c, eqB (T o) c2 c → cpO i T (dB D a (stB b c2)) o c := fun c hc => ⟨a, stB b c2, hq, hB, hg, hy, hc⟩
  refine ⟨h1, okS_bd h2 hk, h3, h4, h5, h6, fun q hq2 => ?_, fun q hq2 => ?_, fun q hq2 => ⟨fun hl2 => ?_, fun hl2 => ?_⟩⟩
  · rcases h7 q hq2 with w | ⟨w1, c, w2⟩
    · exact Or.inl w
    · refine Or.inr ⟨w1, ?_⟩
      by_cases e : q = o
      · subst e; exact ⟨_, hnew c2 eqB.rf⟩
      · exact ⟨c, w2.ext rfl (fun x y hx hg2 => hO x y hx (by rw [hg2]; exact fun z => e (congrArg Prod.snd z)))⟩
  · obtain ⟨c, w⟩ := h8 q hq2
    exact ⟨c, w.ext rfl (fun x y hx hg2 => hO x y hx (by rw [hg2]; exact fun z => absurd (congrArg Prod.fst z) (by show ¬ 0 = i + 1; omega)))⟩
  · show cpO i T _ q (va_up (bdS s) o cn q)
    by_cases e : q = o
    · subst e; rw [va_up_self]; exact hnew cn he
    · rw [va_up_ne _ _ e]
      exact ((h9 q hq2).1 hl2).ext rfl (fun x y hx hg2 => hO x y hx (by rw [hg2]; exact fun z => e (congrArg Prod.snd z)))
  · show obO T _ q (va_up (bdS s) o cn q)
    have e : q ≠ o := fun e => by subst e; have hl2 : ldS s q = false := hl2; rw [hl] at hl2; cases hl2
    rw [va_up_ne _ _ e]
    exact ((h9 q hq2).2 hl2).ext rfl (fun x y hx hg2 => hO x y hx (by rw [hg2]; exact fun z => absurd (congrArg Prod.fst z) (by show ¬ 0 = i + 1; omega)))
/-- an object is loaded: its copy stands, with the contents that it has -/
theorem RP.ld (h : RP n T k1 i dn th ta nx s D) {D2 : tD} {o a : Nat} {b : tBo} {lb : Int32} (ho : o < n) (e1 : rD D i = (lb, dn, gfS s, th, ta, some k1, nx)) (hb : BD D2 a = some b) (hg : gB b = (i + 1, o)) (hy : yB b = T o) (he : eqB (T o) (cB b) (bdS s o)) (hq : QD D2 = va_up (QD D) (5 + 8 * i + 5) (va_up (QD D (5 + 8 * i + 5)) o (some a))) (hB : ∀ x y, BD D x = some y → gB y ≠ (i + 1, o) → BD D2 x = some y) (hr : rD D2 i = (lb ||| ((1 : Int32) <<< (nI o &&& 31)), dn, gfS s, th, ta, some k1, nx)) (hE : eD D2 i = eD D i) (hI : ID D2 = ID D) (hJ : JD D2 = JD D) : RP n T k1 i dn th ta nx (sLd s o) D2 := by
  obtain ⟨h1, h2, ⟨lb', h3, h3b⟩, h4, h5, h6, h7, h8, h9⟩ := h
  have : lb' = lb := by rw [h3] at e1; exact congrArg Prod.fst e1
  subst this
  have h24 := h1.1
  have hq5 : ∀ q, QD D2 (5 + 8 * i + 5) q = va_up (QD D (5 + 8 * i + 5)) o (some a) q := fun q => by rw [hq, va_up_self]
  have hq1 : QD D2 1 = QD D 1 := by rw [hq, va_up_ne _ _ (by omega)]
  have hnew : cpO i T D2 o (bdS s o) := ⟨a, b, by rw [hq5, va_up_self], hb, hg, hy, he⟩
  refine ⟨h1, okS_ld h2 ho, ⟨_, hr, fun q hq2 => ?_⟩, by rw [hE, hI]; exact h4, by rw [hI]; exact h5, by rw [hJ]; exact h6, fun q hq2 => ?_, fun q hq2 => ?_, fun q hq2 => ⟨fun hl2 => ?_, fun hl2 => ?_⟩⟩
  · rw [bt_or (by omega) hq2, h3b q hq2]
    show (ldS s q || decide (q = o)) = va_up (ldS s) o true q
    by_cases e : q = o
    · subst e; rw [va_up_self]; simp
    · rw [va_up_ne _ _ e]; simp [e]
  · by_cases e : q = o
    · subst e; exact Or.inr ⟨ho, _, hnew⟩
    · rcases h7 q hq2 with w | ⟨w1, c, w2⟩
      · exact Or.inl (by rw [hq5, va_up_ne _ _ e]; exact w)
      · exact Or.inr ⟨w1, c, w2.ext (by rw [hq5, va_up_ne _ _ e]) (fun x y hx hg2 => hB x y hx (by rw [hg2]; exact fun z => e (congrArg Prod.snd z)))⟩
  · obtain ⟨c, w⟩ := h8 q hq2
    exact ⟨c, w.ext (by rw [hq1]) (fun x y hx hg2 => hB x y hx (by rw [hg2]; exact fun z => absurd (congrArg Prod.fst z) (by show ¬ 0 = i + 1; omega)))⟩
  · by_cases e : q = o
    · subst e; exact hnew
    · have hl2 : va_up (ldS s) o true q = true := hl2
      rw [va_up_ne _ _ e] at hl2
      exact ((h9 q hq2).1 hl2).ext (by rw [hq5, va_up_ne _ _ e]) (fun x y hx hg2 => hB x y hx (by rw [hg2]; exact fun z => e (congrArg Prod.snd z)))
  · have e : q ≠ o := fun e => by
      have hl2 : va_up (ldS s) o true q = false := hl2
      rw [e, va_up_self] at hl2; cases hl2
    have hl2 : va_up (ldS s) o true q = false := hl2
    rw [va_up_ne _ _ e] at hl2
    exact ((h9 q hq2).2 hl2).ext (by rw [hq1]) (fun x y hx hg2 => hB x y hx (by rw [hg2]; exact fun z => absurd (congrArg Prod.fst z) (by show ¬ 0 = i + 1; omega)))
/-- what is touched -/
theorem RP.tch (h : RP n T k1 i dn th ta nx s D) {D2 : tD} {c : Nat} (hc : c < 384) (hB : BD D2 = BD D) (hr : rD D2 i = rD D i) (hJ : JD D2 = JD D) (hQ : QD D2 = QD D) (h6 : ID D2 (5 + 8 * i + 6) = ID D (5 + 8 * i + 6)) (hT : TRC (tchL c (trS s)) (eD D2 i) (ID D2 (5 + 8 * i + 2)) (ID D2 (5 + 8 * i + 3)) (ID D2 (5 + 8 * i + 4))) : RP n T k1 i dn th ta nx (sTc s c) D2 := by
  obtain ⟨h1, h2, ⟨lb, h3, h3b⟩, h4, h5, h6b, h7, h8, h9⟩ := h
  refine ⟨h1, okS_tc h2 hc, ⟨lb, hr.trans h3, h3b⟩, hT, by rw [h6]; exact h5, by rw [hJ]; exact h6b, fun q hq => ?_, fun q hq => ?_, fun q hq => ⟨fun hl => ?_, fun hl => ?_⟩⟩
  · rcases h7 q hq with w | ⟨w1, c, w2⟩
    · exact Or.inl (by rw [hQ]; exact w)
    · exact Or.inr ⟨w1, c, w2.ext (by rw [hQ]) (fun x y hx _ => by rw [hB]; exact hx)⟩
  · obtain ⟨c, w⟩ := h8 q hq
    exact ⟨c, w.ext (by rw [hQ]) (fun x y hx _ => by rw [hB]; exact hx)⟩
  · exact ((h9 q hq).1 hl).ext (by rw [hQ]) (fun x y hx _ => by rw [hB]; exact hx)
  · exact ((h9 q hq).2 hl).ext (by rw [hQ]) (fun x y hx _ => by rw [hB]; exact hx)
end RPs
/-! how many are loaded -/
def nld (s : tS) : Nat := cnt (ldS s) 24
theorem nld_le (s : tS) : nld s ≤ 24 := cnt_le _ _
theorem cnt_ld {p : Nat → Bool} {o : Nat} (m : Nat) (ho : o < m) : cnt (va_up p o true) m = cnt p m + (if p o = true then 0 else 1) := by
  cases h : p o with
  | true =>
    rw [if_pos rfl]
    exact cnt_c m (fun q _ => by
      by_cases e : q = o
      · rw [e, va_up_self, h]
      · exact va_up_ne _ _ e)
  | false => rw [if_neg (by simp)]; exact cnt_up h m ho
theorem nld_ld {s : tS} {o : Nat} (ho : o < 24) : nld (sLd s o) = nld s + (if ldS s o = true then 0 else 1) := cnt_ld 24 ho
end
section
/-! a body at an address; a row of versions -/
def BF (G : mG) (f : mF) (a : Nat) (b : tBo) : Prop := f a = some (.inr (2, [.int (nI (yB b)), .ref (caB b), .ref (iaB b), .int (siB b), va_rf (bfB b)])) ∧ f (caB b) = some (.inl (gk G 1, 8, .inr (.inl (cB b).1))) ∧ f (iaB b) = some (.inl (gk G 0, 16, .inl (cB b).2))
theorem CM.bf {G : mG} {k : Nat → Nat} {own : tR} {n : Nat} {z : Nat → Nat} {D : tD} {f : mF} (h : CM G k own n z D f) {a : Nat} {b : tBo} (hb : BD D a = some b) : BF G f a b := ⟨h.p0 a b hb, h.p1 a b hb, h.p2 a b hb⟩
def chn (B : Nat → Option tBo) (o t : Nat) (ver : Nat → tB) : Nat → List Nat → Prop
  | _, [] => False
  | h, [a] => ∃ b, B a = some b ∧ gB b = (0, o) ∧ yB b = t ∧ bfB b = none ∧ ∀ x, x ≤ h → eqB t (cB b) (ver x)
  | h, a :: a2 :: L => ∃ b s, B a = some b ∧ gB b = (0, o) ∧ yB b = t ∧ bfB b = some a2 ∧ siB b = nI s ∧ 1 ≤ s ∧ s ≤ h ∧ (∀ x, s ≤ x → x ≤ h → eqB t (cB b) (ver x)) ∧ chn B o t ver (s - 1) (a2 :: L)
theorem chn.ext {B B2 : Nat → Option tBo} {o t : Nat} {ver ver2 : Nat → tB} (hB : ∀ a b, B a = some b → gB b = (0, o) → B2 a = some b) : ∀ (h : Nat) (L : List Nat), (∀ x, x ≤ h → eqB t (ver x) (ver2 x)) → chn B o t ver h L → chn B2 o t ver2 h L
  | _, [], _, c => c
  | h, [a], hv, c => by
    obtain ⟨b, c1, c2, c3, c4, c5⟩ := c
    exact ⟨b, hB a b c1 c2, c2, c3, c4, fun x hx => (c5 x hx).tr (hv x hx)⟩
  | h, a :: a2 :: L, hv, c => by
    obtain ⟨b, s, c1, c2, c3, c4, c5, c6, c7, c8, c9⟩ := c
    exact ⟨b, s, hB a b c1 c2, c2, c3, c4, c5, c6, c7, fun x h1 h2 => (c8 x h1 h2).tr (hv x h2), chn.ext hB (s - 1) (a2 :: L) (fun x hx => hv x (by omega)) c9⟩
/-- nothing of it has changed at a new height -/
theorem chn.up {B : Nat → Option tBo} {o t : Nat} {ver : Nat → tB} {h : Nat} (he : eqB t (ver h) (ver (h + 1))) : ∀ {L : List Nat}, chn B o t ver h L → chn B o t ver (h + 1) L
  | [], c => c
  | [a], c => by
    obtain ⟨b, c1, c2, c3, c4, c5⟩ := c
    refine ⟨b, c1, c2, c3, c4, fun x hx => ?_⟩
    by_cases e : x = h + 1
    · subst e; exact (c5 h (Nat.le_refl _)).tr he
    · exact c5 x (by omega)
  | a :: a2 :: L, c => by
    obtain ⟨b, s, c1, c2, c3, c4, c5, c6, c7, c8, c9⟩ := c
    refine ⟨b, s, c1, c2, c3, c4, c5, c6, by omega, fun x h1 h2 => ?_, c9⟩
    by_cases e : x = h + 1
    · subst e; exact (c8 h c7 (Nat.le_refl _)).tr he
    · exact c8 x h1 (by omega)
/-- a new version ahead of the others -/
theorem chn.new {B : Nat → Option tBo} {o t a0 : Nat} {b0 : tBo} {ver : Nat → tB} {h : Nat} (h0 : B a0 = some b0) (g0 : gB b0 = (0, o)) (y0 : yB b0 = t) (s0 : siB b0 = nI (h + 1)) (e0 : eqB t (cB b0) (ver (h + 1))) : ∀ {a : Nat} {L : List Nat}, bfB b0 = some a → chn B o t ver h (a :: L) → chn B o t ver (h + 1) (a0 :: a :: L) := fun {a L} hb c => ⟨b0, h + 1, h0, g0, y0, hb, s0, by omega, Nat.le_refl _, fun x h1 h2 => by rw [show x = h + 1 by omega]; exact e0, c⟩
theorem chn.hd {B : Nat → Option tBo} {o t : Nat} {ver : Nat → tB} {h a : Nat} {L : List Nat} (c : chn B o t ver h (a :: L)) : ∃ b, B a = some b ∧ gB b = (0, o) ∧ yB b = t ∧ eqB t (cB b) (ver h) := by
  cases L with
  | nil => obtain ⟨b, c1, c2, c3, c4, c5⟩ := c; exact ⟨b, c1, c2, c3, c5 h (Nat.le_refl _)⟩
  | cons a2 L => obtain ⟨b, s, c1, c2, c3, c4, c5, c6, c7, c8, c9⟩ := c; exact ⟨b, c1, c2, c3, c8 h c7 (Nat.le_refl _)⟩
theorem chn.ne {B : Nat → Option tBo} {o t : Nat} {ver : Nat → tB} {h : Nat} {L : List Nat} (c : chn B o t ver h L) : ∃ a M, L = a :: M := by
  cases L with
  | nil => exact c.elim
  | cons a M => exact ⟨a, M, rfl⟩
/-- a Trace that holds the list l -/
def TQ (G : mG) (k : Nat → Nat) (i : Nat) (l : List Nat) (f : mF) : Prop := ∃ (e : Int32 × Int32) (en rb cb : Nat → Int32), f (k (5 + 8 * i + 1)) = some (.inr (4, [.ref (k (5 + 8 * i + 2)), .int e.1, .int e.2, .ref (k (5 + 8 * i + 3)), .ref (k (5 + 8 * i + 4))])) ∧ f (k (5 + 8 * i + 2)) = some (.inl (gk G 0, 384, .inl en)) ∧ f (k (5 + 8 * i + 3)) = some (.inl (gk G 0, 24, .inl rb)) ∧ f (k (5 + 8 * i + 4)) = some (.inl (gk G 0, 24, .inl cb)) ∧ TRC l e en rb cb
end
