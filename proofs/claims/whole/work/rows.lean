section
-- ===== PART A: goes FIRST, ahead of the names: the tables' words, and 'selects' of the private methods out of them =====
/-- a private method of a class that the tables say can be made, by its rows of tables_1 -/
def lw_okq (q : MethodName × Nat) : Prop := (q.1.cls ≠ "java/lang/invoke/MethodHandle" ∧ q.1.cls ≠ "java/lang/invoke/VarHandle") ∧ Cond.instantiable q.1.cls q.2 ∈ tables_1 ∧ Cond.privateMethod q.1 ∈ tables_1 ∧ Cond.instanceMethod q.1 ∈ tables_1
theorem lw_p0 : lw_okq (⟨"PictureLog", "begin", "()V"⟩, 7) := ⟨⟨by decide +kernel, by decide +kernel⟩, List.mem_of_getElem? (i := 12) (by decide +kernel), List.mem_of_getElem? (i := 151) (by decide +kernel), List.mem_of_getElem? (i := 152) (by decide +kernel)⟩
theorem lw_p1 : lw_okq (⟨"PictureLog$Entry", "turnRow", "([I)V"⟩, 8) := ⟨⟨by decide +kernel, by decide +kernel⟩, List.mem_of_getElem? (i := 173) (by decide +kernel), List.mem_of_getElem? (i := 240) (by decide +kernel), List.mem_of_getElem? (i := 241) (by decide +kernel)⟩
theorem lw_p2 : lw_okq (⟨"PictureLog$Entry", "valueFor", "(II)I"⟩, 8) := ⟨⟨by decide +kernel, by decide +kernel⟩, List.mem_of_getElem? (i := 173) (by decide +kernel), List.mem_of_getElem? (i := 247) (by decide +kernel), List.mem_of_getElem? (i := 248) (by decide +kernel)⟩
theorem lw_p3 : lw_okq (⟨"PictureLog$State", "append", "(LPictureLog$Entry;)I"⟩, 6) := ⟨⟨by decide +kernel, by decide +kernel⟩, List.mem_of_getElem? (i := 20) (by decide +kernel), List.mem_of_getElem? (i := 289) (by decide +kernel), List.mem_of_getElem? (i := 290) (by decide +kernel)⟩
theorem lw_p4 : lw_okq (⟨"PictureLog$State", "dropOldest", "()V"⟩, 6) := ⟨⟨by decide +kernel, by decide +kernel⟩, List.mem_of_getElem? (i := 20) (by decide +kernel), List.mem_of_getElem? (i := 306) (by decide +kernel), List.mem_of_getElem? (i := 307) (by decide +kernel)⟩
theorem lw_p5 : lw_okq (⟨"PictureLog", "end", "(I)I"⟩, 7) := ⟨⟨by decide +kernel, by decide +kernel⟩, List.mem_of_getElem? (i := 12) (by decide +kernel), List.mem_of_getElem? (i := 319) (by decide +kernel), List.mem_of_getElem? (i := 320) (by decide +kernel)⟩
theorem lw_p6 : lw_okq (⟨"PictureLog", "forgetOldest", "()V"⟩, 7) := ⟨⟨by decide +kernel, by decide +kernel⟩, List.mem_of_getElem? (i := 12) (by decide +kernel), List.mem_of_getElem? (i := 323) (by decide +kernel), List.mem_of_getElem? (i := 324) (by decide +kernel)⟩
theorem lw_p7 : lw_okq (⟨"PictureLog$Reader", "readOrder", "()LPictureLog$Entry;"⟩, 5) := ⟨⟨by decide +kernel, by decide +kernel⟩, List.mem_of_getElem? (i := 351) (by decide +kernel), List.mem_of_getElem? (i := 380) (by decide +kernel), List.mem_of_getElem? (i := 381) (by decide +kernel)⟩
theorem lw_p8 : lw_okq (⟨"PictureLog$Reader", "readDigit", "(II)I"⟩, 5) := ⟨⟨by decide +kernel, by decide +kernel⟩, List.mem_of_getElem? (i := 351) (by decide +kernel), List.mem_of_getElem? (i := 384) (by decide +kernel), List.mem_of_getElem? (i := 385) (by decide +kernel)⟩
theorem lw_p9 : lw_okq (⟨"PictureLog$Reader", "hasDigit", "(II)Z"⟩, 5) := ⟨⟨by decide +kernel, by decide +kernel⟩, List.mem_of_getElem? (i := 351) (by decide +kernel), List.mem_of_getElem? (i := 388) (by decide +kernel), List.mem_of_getElem? (i := 389) (by decide +kernel)⟩
theorem lw_p10 : lw_okq (⟨"PictureLog$Reader", "readSign", "(C)Z"⟩, 5) := ⟨⟨by decide +kernel, by decide +kernel⟩, List.mem_of_getElem? (i := 351) (by decide +kernel), List.mem_of_getElem? (i := 392) (by decide +kernel), List.mem_of_getElem? (i := 393) (by decide +kernel)⟩
theorem lw_p11 : lw_okq (⟨"PictureLog$Reader", "readCells", "(IICI)LPictureLog$Entry;"⟩, 5) := ⟨⟨by decide +kernel, by decide +kernel⟩, List.mem_of_getElem? (i := 351) (by decide +kernel), List.mem_of_getElem? (i := 396) (by decide +kernel), List.mem_of_getElem? (i := 397) (by decide +kernel)⟩
theorem lw_p12 : lw_okq (⟨"PictureLog$Reader", "readNumber", "(I)I"⟩, 5) := ⟨⟨by decide +kernel, by decide +kernel⟩, List.mem_of_getElem? (i := 351) (by decide +kernel), List.mem_of_getElem? (i := 400) (by decide +kernel), List.mem_of_getElem? (i := 401) (by decide +kernel)⟩
theorem lw_p13 : lw_okq (⟨"PictureLog$Reader", "readRow", "(I)LPictureLog$Entry;"⟩, 5) := ⟨⟨by decide +kernel, by decide +kernel⟩, List.mem_of_getElem? (i := 351) (by decide +kernel), List.mem_of_getElem? (i := 406) (by decide +kernel), List.mem_of_getElem? (i := 407) (by decide +kernel)⟩
theorem lw_p14 : lw_okq (⟨"PictureLog$State", "endOfSound", "(I)I"⟩, 6) := ⟨⟨by decide +kernel, by decide +kernel⟩, List.mem_of_getElem? (i := 20) (by decide +kernel), List.mem_of_getElem? (i := 512) (by decide +kernel), List.mem_of_getElem? (i := 513) (by decide +kernel)⟩
theorem lw_p15 : lw_okq (⟨"PictureLog$State", "replay", "(III[I)V"⟩, 6) := ⟨⟨by decide +kernel, by decide +kernel⟩, List.mem_of_getElem? (i := 20) (by decide +kernel), List.mem_of_getElem? (i := 516) (by decide +kernel), List.mem_of_getElem? (i := 517) (by decide +kernel)⟩
def lw_privs_1 : List (MethodName × Nat) := [(⟨"PictureLog", "begin", "()V"⟩, 7), (⟨"PictureLog$Entry", "turnRow", "([I)V"⟩, 8), (⟨"PictureLog$Entry", "valueFor", "(II)I"⟩, 8), (⟨"PictureLog$State", "append", "(LPictureLog$Entry;)I"⟩, 6), (⟨"PictureLog$State", "dropOldest", "()V"⟩, 6), (⟨"PictureLog", "end", "(I)I"⟩, 7), (⟨"PictureLog", "forgetOldest", "()V"⟩, 7), (⟨"PictureLog$Reader", "readOrder", "()LPictureLog$Entry;"⟩, 5), (⟨"PictureLog$Reader", "readDigit", "(II)I"⟩, 5), (⟨"PictureLog$Reader", "hasDigit", "(II)Z"⟩, 5), (⟨"PictureLog$Reader", "readSign", "(C)Z"⟩, 5), (⟨"PictureLog$Reader", "readCells", "(IICI)LPictureLog$Entry;"⟩, 5), (⟨"PictureLog$Reader", "readNumber", "(I)I"⟩, 5), (⟨"PictureLog$Reader", "readRow", "(I)LPictureLog$Entry;"⟩, 5), (⟨"PictureLog$State", "endOfSound", "(I)I"⟩, 6), (⟨"PictureLog$State", "replay", "(III[I)V"⟩, 6)]
theorem lw_r1 : ∀ q ∈ lw_privs_1, lw_okq q := List.forall_mem_cons.mpr ⟨lw_p0, List.forall_mem_cons.mpr ⟨lw_p1, List.forall_mem_cons.mpr ⟨lw_p2, List.forall_mem_cons.mpr ⟨lw_p3, List.forall_mem_cons.mpr ⟨lw_p4, List.forall_mem_cons.mpr ⟨lw_p5, List.forall_mem_cons.mpr ⟨lw_p6, List.forall_mem_cons.mpr ⟨lw_p7, List.forall_mem_cons.mpr ⟨lw_p8, List.forall_mem_cons.mpr ⟨lw_p9, List.forall_mem_cons.mpr ⟨lw_p10, List.forall_mem_cons.mpr ⟨lw_p11, List.forall_mem_cons.mpr ⟨lw_p12, List.forall_mem_cons.mpr ⟨lw_p13, List.forall_mem_cons.mpr ⟨lw_p14, List.forall_mem_cons.mpr ⟨lw_p15, fun _ h => absurd h List.not_mem_nil⟩⟩⟩⟩⟩⟩⟩⟩⟩⟩⟩⟩⟩⟩⟩⟩
theorem lw_p16 : lw_okq (⟨"PictureLogModel", "records", "([I)V"⟩, 12) := ⟨⟨by decide +kernel, by decide +kernel⟩, List.mem_of_getElem? (i := 603) (by decide +kernel), List.mem_of_getElem? (i := 661) (by decide +kernel), List.mem_of_getElem? (i := 662) (by decide +kernel)⟩
theorem lw_p17 : lw_okq (⟨"PictureLogModel", "makes", "(IIIII)V"⟩, 12) := ⟨⟨by decide +kernel, by decide +kernel⟩, List.mem_of_getElem? (i := 603) (by decide +kernel), List.mem_of_getElem? (i := 678) (by decide +kernel), List.mem_of_getElem? (i := 679) (by decide +kernel)⟩
theorem lw_p18 : lw_okq (⟨"PictureLogModel", "acts", "()I"⟩, 12) := ⟨⟨by decide +kernel, by decide +kernel⟩, List.mem_of_getElem? (i := 603) (by decide +kernel), List.mem_of_getElem? (i := 682) (by decide +kernel), List.mem_of_getElem? (i := 683) (by decide +kernel)⟩
theorem lw_p19 : lw_okq (⟨"PictureLogModel", "chooses", "()V"⟩, 12) := ⟨⟨by decide +kernel, by decide +kernel⟩, List.mem_of_getElem? (i := 603) (by decide +kernel), List.mem_of_getElem? (i := 686) (by decide +kernel), List.mem_of_getElem? (i := 687) (by decide +kernel)⟩
theorem lw_p20 : lw_okq (⟨"PictureLogModel", "holds", "(II)V"⟩, 12) := ⟨⟨by decide +kernel, by decide +kernel⟩, List.mem_of_getElem? (i := 603) (by decide +kernel), List.mem_of_getElem? (i := 690) (by decide +kernel), List.mem_of_getElem? (i := 691) (by decide +kernel)⟩
theorem lw_p21 : lw_okq (⟨"PictureLogModel", "timeOf", "(I)I"⟩, 12) := ⟨⟨by decide +kernel, by decide +kernel⟩, List.mem_of_getElem? (i := 603) (by decide +kernel), List.mem_of_getElem? (i := 694) (by decide +kernel), List.mem_of_getElem? (i := 695) (by decide +kernel)⟩
theorem lw_p22 : lw_okq (⟨"PictureLogModel", "start", "(II)I"⟩, 12) := ⟨⟨by decide +kernel, by decide +kernel⟩, List.mem_of_getElem? (i := 603) (by decide +kernel), List.mem_of_getElem? (i := 698) (by decide +kernel), List.mem_of_getElem? (i := 699) (by decide +kernel)⟩
theorem lw_p23 : lw_okq (⟨"PictureLogModel", "of", "(II)I"⟩, 12) := ⟨⟨by decide +kernel, by decide +kernel⟩, List.mem_of_getElem? (i := 603) (by decide +kernel), List.mem_of_getElem? (i := 702) (by decide +kernel), List.mem_of_getElem? (i := 703) (by decide +kernel)⟩
theorem lw_p24 : lw_okq (⟨"PictureLogModel", "at", "(I)I"⟩, 12) := ⟨⟨by decide +kernel, by decide +kernel⟩, List.mem_of_getElem? (i := 603) (by decide +kernel), List.mem_of_getElem? (i := 706) (by decide +kernel), List.mem_of_getElem? (i := 707) (by decide +kernel)⟩
theorem lw_p25 : lw_okq (⟨"PictureLogModel", "needs", "(III)Z"⟩, 12) := ⟨⟨by decide +kernel, by decide +kernel⟩, List.mem_of_getElem? (i := 603) (by decide +kernel), List.mem_of_getElem? (i := 710) (by decide +kernel), List.mem_of_getElem? (i := 711) (by decide +kernel)⟩
theorem lw_p26 : lw_okq (⟨"PictureLogModel", "applies", "([II)V"⟩, 12) := ⟨⟨by decide +kernel, by decide +kernel⟩, List.mem_of_getElem? (i := 603) (by decide +kernel), List.mem_of_getElem? (i := 723) (by decide +kernel), List.mem_of_getElem? (i := 724) (by decide +kernel)⟩
theorem lw_p27 : lw_okq (⟨"PictureLogModel", "pictures", "(I)V"⟩, 12) := ⟨⟨by decide +kernel, by decide +kernel⟩, List.mem_of_getElem? (i := 603) (by decide +kernel), List.mem_of_getElem? (i := 727) (by decide +kernel), List.mem_of_getElem? (i := 728) (by decide +kernel)⟩
theorem lw_p28 : lw_okq (⟨"PictureLogModel", "hasRoom", "()Z"⟩, 12) := ⟨⟨by decide +kernel, by decide +kernel⟩, List.mem_of_getElem? (i := 603) (by decide +kernel), List.mem_of_getElem? (i := 731) (by decide +kernel), List.mem_of_getElem? (i := 732) (by decide +kernel)⟩
theorem lw_p29 : lw_okq (⟨"PictureLogModel", "droppable", "(I)I"⟩, 12) := ⟨⟨by decide +kernel, by decide +kernel⟩, List.mem_of_getElem? (i := 603) (by decide +kernel), List.mem_of_getElem? (i := 735) (by decide +kernel), List.mem_of_getElem? (i := 736) (by decide +kernel)⟩
theorem lw_p30 : lw_okq (⟨"PictureLogModel", "used", "()I"⟩, 12) := ⟨⟨by decide +kernel, by decide +kernel⟩, List.mem_of_getElem? (i := 603) (by decide +kernel), List.mem_of_getElem? (i := 739) (by decide +kernel), List.mem_of_getElem? (i := 740) (by decide +kernel)⟩
theorem lw_p31 : lw_okq (⟨"PictureLogModel", "isNeeded", "(I)Z"⟩, 12) := ⟨⟨by decide +kernel, by decide +kernel⟩, List.mem_of_getElem? (i := 603) (by decide +kernel), List.mem_of_getElem? (i := 743) (by decide +kernel), List.mem_of_getElem? (i := 744) (by decide +kernel)⟩
def lw_privs_2 : List (MethodName × Nat) := [(⟨"PictureLogModel", "records", "([I)V"⟩, 12), (⟨"PictureLogModel", "makes", "(IIIII)V"⟩, 12), (⟨"PictureLogModel", "acts", "()I"⟩, 12), (⟨"PictureLogModel", "chooses", "()V"⟩, 12), (⟨"PictureLogModel", "holds", "(II)V"⟩, 12), (⟨"PictureLogModel", "timeOf", "(I)I"⟩, 12), (⟨"PictureLogModel", "start", "(II)I"⟩, 12), (⟨"PictureLogModel", "of", "(II)I"⟩, 12), (⟨"PictureLogModel", "at", "(I)I"⟩, 12), (⟨"PictureLogModel", "needs", "(III)Z"⟩, 12), (⟨"PictureLogModel", "applies", "([II)V"⟩, 12), (⟨"PictureLogModel", "pictures", "(I)V"⟩, 12), (⟨"PictureLogModel", "hasRoom", "()Z"⟩, 12), (⟨"PictureLogModel", "droppable", "(I)I"⟩, 12), (⟨"PictureLogModel", "used", "()I"⟩, 12), (⟨"PictureLogModel", "isNeeded", "(I)Z"⟩, 12)]
theorem lw_r2 : ∀ q ∈ lw_privs_2, lw_okq q := List.forall_mem_cons.mpr ⟨lw_p16, List.forall_mem_cons.mpr ⟨lw_p17, List.forall_mem_cons.mpr ⟨lw_p18, List.forall_mem_cons.mpr ⟨lw_p19, List.forall_mem_cons.mpr ⟨lw_p20, List.forall_mem_cons.mpr ⟨lw_p21, List.forall_mem_cons.mpr ⟨lw_p22, List.forall_mem_cons.mpr ⟨lw_p23, List.forall_mem_cons.mpr ⟨lw_p24, List.forall_mem_cons.mpr ⟨lw_p25, List.forall_mem_cons.mpr ⟨lw_p26, List.forall_mem_cons.mpr ⟨lw_p27, List.forall_mem_cons.mpr ⟨lw_p28, List.forall_mem_cons.mpr ⟨lw_p29, List.forall_mem_cons.mpr ⟨lw_p30, List.forall_mem_cons.mpr ⟨lw_p31, fun _ h => absurd h List.not_mem_nil⟩⟩⟩⟩⟩⟩⟩⟩⟩⟩⟩⟩⟩⟩⟩⟩
theorem lw_p32 : lw_okq (⟨"PictureLogModel", "usedWithout", "(I)I"⟩, 12) := ⟨⟨by decide +kernel, by decide +kernel⟩, List.mem_of_getElem? (i := 603) (by decide +kernel), List.mem_of_getElem? (i := 747) (by decide +kernel), List.mem_of_getElem? (i := 748) (by decide +kernel)⟩
theorem lw_p33 : lw_okq (⟨"PictureLogModel", "logs", "()V"⟩, 12) := ⟨⟨by decide +kernel, by decide +kernel⟩, List.mem_of_getElem? (i := 603) (by decide +kernel), List.mem_of_getElem? (i := 751) (by decide +kernel), List.mem_of_getElem? (i := 752) (by decide +kernel)⟩
theorem lw_p34 : lw_okq (⟨"PictureLogModel", "drops", "(I)V"⟩, 12) := ⟨⟨by decide +kernel, by decide +kernel⟩, List.mem_of_getElem? (i := 603) (by decide +kernel), List.mem_of_getElem? (i := 755) (by decide +kernel), List.mem_of_getElem? (i := 756) (by decide +kernel)⟩
theorem lw_p35 : lw_okq (⟨"PictureLogModel", "isText", "()Z"⟩, 12) := ⟨⟨by decide +kernel, by decide +kernel⟩, List.mem_of_getElem? (i := 603) (by decide +kernel), List.mem_of_getElem? (i := 783) (by decide +kernel), List.mem_of_getElem? (i := 784) (by decide +kernel)⟩
theorem lw_p36 : lw_okq (⟨"PictureLogModel", "readsOrder", "()Z"⟩, 12) := ⟨⟨by decide +kernel, by decide +kernel⟩, List.mem_of_getElem? (i := 603) (by decide +kernel), List.mem_of_getElem? (i := 787) (by decide +kernel), List.mem_of_getElem? (i := 788) (by decide +kernel)⟩
theorem lw_p37 : lw_okq (⟨"PictureLogModel", "sees", "(CC)Z"⟩, 12) := ⟨⟨by decide +kernel, by decide +kernel⟩, List.mem_of_getElem? (i := 603) (by decide +kernel), List.mem_of_getElem? (i := 791) (by decide +kernel), List.mem_of_getElem? (i := 792) (by decide +kernel)⟩
theorem lw_p38 : lw_okq (⟨"PictureLogModel", "digit", "(C)I"⟩, 12) := ⟨⟨by decide +kernel, by decide +kernel⟩, List.mem_of_getElem? (i := 603) (by decide +kernel), List.mem_of_getElem? (i := 795) (by decide +kernel), List.mem_of_getElem? (i := 796) (by decide +kernel)⟩
theorem lw_p39 : lw_okq (⟨"PictureLogModel", "takes", "(C)Z"⟩, 12) := ⟨⟨by decide +kernel, by decide +kernel⟩, List.mem_of_getElem? (i := 603) (by decide +kernel), List.mem_of_getElem? (i := 799) (by decide +kernel), List.mem_of_getElem? (i := 800) (by decide +kernel)⟩
theorem lw_p40 : lw_okq (⟨"PictureLogModel", "readsCells", "(IICC)Z"⟩, 12) := ⟨⟨by decide +kernel, by decide +kernel⟩, List.mem_of_getElem? (i := 603) (by decide +kernel), List.mem_of_getElem? (i := 803) (by decide +kernel), List.mem_of_getElem? (i := 804) (by decide +kernel)⟩
theorem lw_p41 : lw_okq (⟨"PictureLogModel", "number", "(C)I"⟩, 12) := ⟨⟨by decide +kernel, by decide +kernel⟩, List.mem_of_getElem? (i := 603) (by decide +kernel), List.mem_of_getElem? (i := 807) (by decide +kernel), List.mem_of_getElem? (i := 808) (by decide +kernel)⟩
theorem lw_p42 : lw_okq (⟨"PictureLogModel", "readsRow", "(I)Z"⟩, 12) := ⟨⟨by decide +kernel, by decide +kernel⟩, List.mem_of_getElem? (i := 603) (by decide +kernel), List.mem_of_getElem? (i := 811) (by decide +kernel), List.mem_of_getElem? (i := 812) (by decide +kernel)⟩
theorem lw_p43 : lw_okq (⟨"PictureLogModel", "does", "()Z"⟩, 12) := ⟨⟨by decide +kernel, by decide +kernel⟩, List.mem_of_getElem? (i := 603) (by decide +kernel), List.mem_of_getElem? (i := 815) (by decide +kernel), List.mem_of_getElem? (i := 816) (by decide +kernel)⟩
theorem lw_p44 : lw_okq (⟨"PictureLogModel", "neededMany", "()I"⟩, 12) := ⟨⟨by decide +kernel, by decide +kernel⟩, List.mem_of_getElem? (i := 603) (by decide +kernel), List.mem_of_getElem? (i := 835) (by decide +kernel), List.mem_of_getElem? (i := 836) (by decide +kernel)⟩
theorem lw_p45 : lw_okq (⟨"PictureLogModel", "isHeld", "(I)Z"⟩, 12) := ⟨⟨by decide +kernel, by decide +kernel⟩, List.mem_of_getElem? (i := 603) (by decide +kernel), List.mem_of_getElem? (i := 847) (by decide +kernel), List.mem_of_getElem? (i := 848) (by decide +kernel)⟩
theorem lw_p46 : lw_okq (⟨"PictureLogModel", "firstDamaged", "(II)I"⟩, 12) := ⟨⟨by decide +kernel, by decide +kernel⟩, List.mem_of_getElem? (i := 603) (by decide +kernel), List.mem_of_getElem? (i := 851) (by decide +kernel), List.mem_of_getElem? (i := 852) (by decide +kernel)⟩
theorem lw_p47 : lw_okq (⟨"PictureLogModel", "comesBack", "(I)V"⟩, 12) := ⟨⟨by decide +kernel, by decide +kernel⟩, List.mem_of_getElem? (i := 603) (by decide +kernel), List.mem_of_getElem? (i := 859) (by decide +kernel), List.mem_of_getElem? (i := 860) (by decide +kernel)⟩
def lw_privs_3 : List (MethodName × Nat) := [(⟨"PictureLogModel", "usedWithout", "(I)I"⟩, 12), (⟨"PictureLogModel", "logs", "()V"⟩, 12), (⟨"PictureLogModel", "drops", "(I)V"⟩, 12), (⟨"PictureLogModel", "isText", "()Z"⟩, 12), (⟨"PictureLogModel", "readsOrder", "()Z"⟩, 12), (⟨"PictureLogModel", "sees", "(CC)Z"⟩, 12), (⟨"PictureLogModel", "digit", "(C)I"⟩, 12), (⟨"PictureLogModel", "takes", "(C)Z"⟩, 12), (⟨"PictureLogModel", "readsCells", "(IICC)Z"⟩, 12), (⟨"PictureLogModel", "number", "(C)I"⟩, 12), (⟨"PictureLogModel", "readsRow", "(I)Z"⟩, 12), (⟨"PictureLogModel", "does", "()Z"⟩, 12), (⟨"PictureLogModel", "neededMany", "()I"⟩, 12), (⟨"PictureLogModel", "isHeld", "(I)Z"⟩, 12), (⟨"PictureLogModel", "firstDamaged", "(II)I"⟩, 12), (⟨"PictureLogModel", "comesBack", "(I)V"⟩, 12)]
theorem lw_r3 : ∀ q ∈ lw_privs_3, lw_okq q := List.forall_mem_cons.mpr ⟨lw_p32, List.forall_mem_cons.mpr ⟨lw_p33, List.forall_mem_cons.mpr ⟨lw_p34, List.forall_mem_cons.mpr ⟨lw_p35, List.forall_mem_cons.mpr ⟨lw_p36, List.forall_mem_cons.mpr ⟨lw_p37, List.forall_mem_cons.mpr ⟨lw_p38, List.forall_mem_cons.mpr ⟨lw_p39, List.forall_mem_cons.mpr ⟨lw_p40, List.forall_mem_cons.mpr ⟨lw_p41, List.forall_mem_cons.mpr ⟨lw_p42, List.forall_mem_cons.mpr ⟨lw_p43, List.forall_mem_cons.mpr ⟨lw_p44, List.forall_mem_cons.mpr ⟨lw_p45, List.forall_mem_cons.mpr ⟨lw_p46, List.forall_mem_cons.mpr ⟨lw_p47, fun _ h => absurd h List.not_mem_nil⟩⟩⟩⟩⟩⟩⟩⟩⟩⟩⟩⟩⟩⟩⟩⟩
theorem lw_p48 : lw_okq (⟨"PictureLogModel", "restores", "(II)V"⟩, 12) := ⟨⟨by decide +kernel, by decide +kernel⟩, List.mem_of_getElem? (i := 603) (by decide +kernel), List.mem_of_getElem? (i := 863) (by decide +kernel), List.mem_of_getElem? (i := 864) (by decide +kernel)⟩
theorem lw_p49 : lw_okq (⟨"PictureLogModel", "needsMany", "(I)I"⟩, 12) := ⟨⟨by decide +kernel, by decide +kernel⟩, List.mem_of_getElem? (i := 603) (by decide +kernel), List.mem_of_getElem? (i := 879) (by decide +kernel), List.mem_of_getElem? (i := 880) (by decide +kernel)⟩
theorem lw_p50 : lw_okq (⟨"PictureLogModel", "firstNeeded", "(I)I"⟩, 12) := ⟨⟨by decide +kernel, by decide +kernel⟩, List.mem_of_getElem? (i := 603) (by decide +kernel), List.mem_of_getElem? (i := 883) (by decide +kernel), List.mem_of_getElem? (i := 884) (by decide +kernel)⟩
theorem lw_p51 : lw_okq (⟨"PictureLogModel", "ofPages", "(I)I"⟩, 12) := ⟨⟨by decide +kernel, by decide +kernel⟩, List.mem_of_getElem? (i := 603) (by decide +kernel), List.mem_of_getElem? (i := 907) (by decide +kernel), List.mem_of_getElem? (i := 908) (by decide +kernel)⟩
def lw_privs_4 : List (MethodName × Nat) := [(⟨"PictureLogModel", "restores", "(II)V"⟩, 12), (⟨"PictureLogModel", "needsMany", "(I)I"⟩, 12), (⟨"PictureLogModel", "firstNeeded", "(I)I"⟩, 12), (⟨"PictureLogModel", "ofPages", "(I)I"⟩, 12)]
theorem lw_r4 : ∀ q ∈ lw_privs_4, lw_okq q := List.forall_mem_cons.mpr ⟨lw_p48, List.forall_mem_cons.mpr ⟨lw_p49, List.forall_mem_cons.mpr ⟨lw_p50, List.forall_mem_cons.mpr ⟨lw_p51, fun _ h => absurd h List.not_mem_nil⟩⟩⟩⟩
def lw_privs : List (MethodName × Nat) := lw_privs_1 ++ (lw_privs_2 ++ (lw_privs_3 ++ (lw_privs_4)))
def lw_tbl : List Cond := k2_sels lw_privs ++ tables_1
theorem lw_privs_ok : ∀ q ∈ lw_privs, lw_okq q := by
  show ∀ q ∈ lw_privs_1 ++ (lw_privs_2 ++ (lw_privs_3 ++ (lw_privs_4))), lw_okq q
  exact List.forall_mem_append.mpr ⟨lw_r1, List.forall_mem_append.mpr ⟨lw_r2, List.forall_mem_append.mpr ⟨lw_r3, lw_r4⟩⟩⟩
def RX0 : String := "PictureLog$Entry"
def TX0 : u_T := fun k => match k with
  | 0 => ("PictureLog$Entry", "page", "I", true)
  | 1 => ("PictureLog$Entry", "kind", "I", true)
  | 2 => ("PictureLog$Entry", "from", "I", true)
  | 3 => ("PictureLog$Entry", "to", "I", true)
  | 4 => ("PictureLog$Entry", "amount", "I", true)
  | 5 => ("PictureLog$Entry", "values", "[I", true)
  | 6 => ("PictureLog$Entry", "damaged", "Z", true)
  | _ => ("PictureLog$Entry", "size", "I", true)
def tyX0 : Nat → FieldType := fun k => match k with
  | 0 => .int
  | 1 => .int
  | 2 => .int
  | 3 => .int
  | 4 => .int
  | 5 => .array .int
  | 6 => .boolean
  | _ => .int
theorem nmX0 : ∀ a, a < 8 → ∀ b, b < 8 → a ≠ b → (TX0 a).2.1 ≠ (TX0 b).2.1 := by decide +kernel
theorem tyX0_ok : ∀ k, k < 8 → parseFieldDescriptor (TX0 k).2.2.1 = some (tyX0 k) := by decide +kernel
abbrev cX0_init : ByteArray := prog_2_method_1_code
def yX0_init : MethodName := ⟨RX0, "<init>", "(IIIII[IZ)V"⟩
abbrev cX0_ofCells : ByteArray := prog_2_method_2_code
def yX0_ofCells : MethodName := ⟨RX0, "ofCells", "(IIIII)LPictureLog$Entry;"⟩
abbrev cX0_ofTurn : ByteArray := prog_2_method_3_code
def yX0_ofTurn : MethodName := ⟨RX0, "ofTurn", "(II)LPictureLog$Entry;"⟩
abbrev cX0_ofRow : ByteArray := prog_2_method_4_code
def yX0_ofRow : MethodName := ⟨RX0, "ofRow", "(II[I)LPictureLog$Entry;"⟩
abbrev cX0_ofPicture : ByteArray := prog_2_method_5_code
def yX0_ofPicture : MethodName := ⟨RX0, "ofPicture", "(I[I)LPictureLog$Entry;"⟩
abbrev cX0_ofRenewal : ByteArray := prog_2_method_6_code
def yX0_ofRenewal : MethodName := ⟨RX0, "ofRenewal", "(I)LPictureLog$Entry;"⟩
abbrev cX0_asDamaged : ByteArray := prog_2_method_7_code
def yX0_asDamaged : MethodName := ⟨RX0, "asDamaged", "()LPictureLog$Entry;"⟩
abbrev cX0_sizeOfPicture : ByteArray := prog_2_method_8_code
def yX0_sizeOfPicture : MethodName := ⟨RX0, "sizeOfPicture", "([I)I"⟩
abbrev cX0_time : ByteArray := prog_2_method_9_code
def yX0_time : MethodName := ⟨RX0, "time", "()I"⟩
abbrev cX0_applyTo : ByteArray := prog_2_method_10_code
def yX0_applyTo : MethodName := ⟨RX0, "applyTo", "([I)V"⟩
abbrev cX0_valueFor : ByteArray := prog_2_method_11_code
def yX0_valueFor : MethodName := ⟨RX0, "valueFor", "(II)I"⟩
abbrev cX0_turnRow : ByteArray := prog_2_method_12_code
def yX0_turnRow : MethodName := ⟨RX0, "turnRow", "([I)V"⟩
abbrev cX0_reverse : ByteArray := prog_2_method_13_code
def yX0_reverse : MethodName := ⟨RX0, "reverse", "([III)V"⟩
def RX1 : String := "PictureLog$Log"
def TX1 : u_T := fun k => match k with
  | 0 => ("PictureLog$Log", "entries", "[LPictureLog$Entry;", true)
  | 1 => ("PictureLog$Log", "first", "I", false)
  | 2 => ("PictureLog$Log", "held", "I", false)
  | 3 => ("PictureLog$Log", "flushed", "I", false)
  | _ => ("PictureLog$Log", "room", "I", false)
def tyX1 : Nat → FieldType := fun k => match k with
  | 0 => .array (.object "PictureLog$Entry")
  | 1 => .int
  | 2 => .int
  | 3 => .int
  | _ => .int
theorem nmX1 : ∀ a, a < 5 → ∀ b, b < 5 → a ≠ b → (TX1 a).2.1 ≠ (TX1 b).2.1 := by decide +kernel
theorem tyX1_ok : ∀ k, k < 5 → parseFieldDescriptor (TX1 k).2.2.1 = some (tyX1 k) := by decide +kernel
abbrev cX1_init : ByteArray := prog_3_method_1_code
def yX1_init : MethodName := ⟨RX1, "<init>", "()V"⟩
abbrev cX1_copyFrom : ByteArray := prog_3_method_2_code
def yX1_copyFrom : MethodName := ⟨RX1, "copyFrom", "(LPictureLog$Log;)V"⟩
abbrev cX1_next : ByteArray := prog_3_method_3_code
def yX1_next : MethodName := ⟨RX1, "next", "()I"⟩
abbrev cX1_holds : ByteArray := prog_3_method_4_code
def yX1_holds : MethodName := ⟨RX1, "holds", "(I)Z"⟩
abbrev cX1_at : ByteArray := prog_3_method_5_code
def yX1_at : MethodName := ⟨RX1, "at", "(I)LPictureLog$Entry;"⟩
abbrev cX1_replace : ByteArray := prog_3_method_6_code
def yX1_replace : MethodName := ⟨RX1, "replace", "(ILPictureLog$Entry;)V"⟩
abbrev cX1_append : ByteArray := prog_3_method_7_code
def yX1_append : MethodName := ⟨RX1, "append", "(LPictureLog$Entry;)V"⟩
abbrev cX1_dropFirst : ByteArray := prog_3_method_8_code
def yX1_dropFirst : MethodName := ⟨RX1, "dropFirst", "()V"⟩
abbrev cX1_loseUnflushed : ByteArray := prog_3_method_9_code
def yX1_loseUnflushed : MethodName := ⟨RX1, "loseUnflushed", "()I"⟩
abbrev cX1_sizes : ByteArray := prog_3_method_10_code
def yX1_sizes : MethodName := ⟨RX1, "sizes", "()I"⟩
abbrev cX1_entriesOf : ByteArray := prog_3_method_11_code
def yX1_entriesOf : MethodName := ⟨RX1, "entriesOf", "(III)I"⟩
abbrev cX1_timesOf : ByteArray := prog_3_method_12_code
def yX1_timesOf : MethodName := ⟨RX1, "timesOf", "(III)I"⟩
abbrev cX1_latestPicture : ByteArray := prog_3_method_13_code
def yX1_latestPicture : MethodName := ⟨RX1, "latestPicture", "(II)I"⟩
abbrev cX1_firstDamaged : ByteArray := prog_3_method_14_code
def yX1_firstDamaged : MethodName := ⟨RX1, "firstDamaged", "(III)I"⟩
def RX2 : String := "PictureLog$Page"
def TX2 : u_T := fun k => match k with
  | 0 => ("PictureLog$Page", "cells", "[I", true)
  | 1 => ("PictureLog$Page", "copy", "[I", true)
  | 2 => ("PictureLog$Page", "since", "I", false)
  | 3 => ("PictureLog$Page", "doubtful", "Z", false)
  | _ => ("PictureLog$Page", "droppedTo", "I", false)
def tyX2 : Nat → FieldType := fun k => match k with
  | 0 => .array .int
  | 1 => .array .int
  | 2 => .int
  | 3 => .boolean
  | _ => .int
theorem nmX2 : ∀ a, a < 5 → ∀ b, b < 5 → a ≠ b → (TX2 a).2.1 ≠ (TX2 b).2.1 := by decide +kernel
theorem tyX2_ok : ∀ k, k < 5 → parseFieldDescriptor (TX2 k).2.2.1 = some (tyX2 k) := by decide +kernel
abbrev cX2_init : ByteArray := prog_4_method_1_code
def yX2_init : MethodName := ⟨RX2, "<init>", "()V"⟩
abbrev cX2_copyFrom : ByteArray := prog_4_method_2_code
def yX2_copyFrom : MethodName := ⟨RX2, "copyFrom", "(LPictureLog$Page;)V"⟩
def RX3 : String := "PictureLog$Reader"
def TX3 : u_T := fun k => match k with
  | 0 => ("PictureLog$Reader", "text", "[C", true)
  | 1 => ("PictureLog$Reader", "length", "I", true)
  | 2 => ("PictureLog$Reader", "found", "[LPictureLog$Entry;", true)
  | 3 => ("PictureLog$Reader", "orders", "I", false)
  | _ => ("PictureLog$Reader", "at", "I", false)
def tyX3 : Nat → FieldType := fun k => match k with
  | 0 => .array .char
  | 1 => .int
  | 2 => .array (.object "PictureLog$Entry")
  | 3 => .int
  | _ => .int
theorem nmX3 : ∀ a, a < 5 → ∀ b, b < 5 → a ≠ b → (TX3 a).2.1 ≠ (TX3 b).2.1 := by decide +kernel
theorem tyX3_ok : ∀ k, k < 5 → parseFieldDescriptor (TX3 k).2.2.1 = some (tyX3 k) := by decide +kernel
abbrev cX3_init : ByteArray := prog_5_method_1_code
def yX3_init : MethodName := ⟨RX3, "<init>", "([CI)V"⟩
abbrev cX3_order : ByteArray := prog_5_method_2_code
def yX3_order : MethodName := ⟨RX3, "order", "(I)LPictureLog$Entry;"⟩
abbrev cX3_readAll : ByteArray := prog_5_method_3_code
def yX3_readAll : MethodName := ⟨RX3, "readAll", "()Z"⟩
abbrev cX3_readOrder : ByteArray := prog_5_method_4_code
def yX3_readOrder : MethodName := ⟨RX3, "readOrder", "()LPictureLog$Entry;"⟩
abbrev cX3_readCells : ByteArray := prog_5_method_5_code
def yX3_readCells : MethodName := ⟨RX3, "readCells", "(IICI)LPictureLog$Entry;"⟩
abbrev cX3_readRow : ByteArray := prog_5_method_6_code
def yX3_readRow : MethodName := ⟨RX3, "readRow", "(I)LPictureLog$Entry;"⟩
abbrev cX3_readNumber : ByteArray := prog_5_method_7_code
def yX3_readNumber : MethodName := ⟨RX3, "readNumber", "(I)I"⟩
abbrev cX3_hasDigit : ByteArray := prog_5_method_8_code
def yX3_hasDigit : MethodName := ⟨RX3, "hasDigit", "(II)Z"⟩
abbrev cX3_readDigit : ByteArray := prog_5_method_9_code
def yX3_readDigit : MethodName := ⟨RX3, "readDigit", "(II)I"⟩
abbrev cX3_readSign : ByteArray := prog_5_method_10_code
def yX3_readSign : MethodName := ⟨RX3, "readSign", "(C)Z"⟩
def RX4 : String := "PictureLog$State"
def TX4 : u_T := fun k => match k with
  | 0 => ("PictureLog$State", "pages", "[LPictureLog$Page;", true)
  | 1 => ("PictureLog$State", "log", "LPictureLog$Log;", true)
  | 2 => ("PictureLog$State", "way", "I", false)
  | 3 => ("PictureLog$State", "pictures", "I", false)
  | 4 => ("PictureLog$State", "changes", "I", false)
  | _ => ("PictureLog$State", "crashes", "I", false)
def tyX4 : Nat → FieldType := fun k => match k with
  | 0 => .array (.object "PictureLog$Page")
  | 1 => .object "PictureLog$Log"
  | 2 => .int
  | 3 => .int
  | 4 => .int
  | _ => .int
theorem nmX4 : ∀ a, a < 6 → ∀ b, b < 6 → a ≠ b → (TX4 a).2.1 ≠ (TX4 b).2.1 := by decide +kernel
theorem tyX4_ok : ∀ k, k < 6 → parseFieldDescriptor (TX4 k).2.2.1 = some (tyX4 k) := by decide +kernel
abbrev cX4_init : ByteArray := prog_6_method_1_code
def yX4_init : MethodName := ⟨RX4, "<init>", "()V"⟩
abbrev cX4_copyFrom : ByteArray := prog_6_method_2_code
def yX4_copyFrom : MethodName := ⟨RX4, "copyFrom", "(LPictureLog$State;)V"⟩
abbrev cX4_firstNeeded : ByteArray := prog_6_method_3_code
def yX4_firstNeeded : MethodName := ⟨RX4, "firstNeeded", "(II)I"⟩
abbrev cX4_isNeeded : ByteArray := prog_6_method_4_code
def yX4_isNeeded : MethodName := ⟨RX4, "isNeeded", "(I)Z"⟩
abbrev cX4_neededEntries : ByteArray := prog_6_method_5_code
def yX4_neededEntries : MethodName := ⟨RX4, "neededEntries", "()I"⟩
abbrev cX4_timeToRestore : ByteArray := prog_6_method_6_code
def yX4_timeToRestore : MethodName := ⟨RX4, "timeToRestore", "(I)I"⟩
abbrev cX4_timeToRestoreAll : ByteArray := prog_6_method_7_code
def yX4_timeToRestoreAll : MethodName := ⟨RX4, "timeToRestoreAll", "()I"⟩
abbrev cX4_doubtfulPages : ByteArray := prog_6_method_8_code
def yX4_doubtfulPages : MethodName := ⟨RX4, "doubtfulPages", "()I"⟩
abbrev cX4_needsDamaged : ByteArray := prog_6_method_9_code
def yX4_needsDamaged : MethodName := ⟨RX4, "needsDamaged", "(I)Z"⟩
abbrev cX4_endOfSound : ByteArray := prog_6_method_10_code
def yX4_endOfSound : MethodName := ⟨RX4, "endOfSound", "(I)I"⟩
abbrev cX4_replay : ByteArray := prog_6_method_11_code
def yX4_replay : MethodName := ⟨RX4, "replay", "(III[I)V"⟩
abbrev cX4_bringBackAsOf : ByteArray := prog_6_method_12_code
def yX4_bringBackAsOf : MethodName := ⟨RX4, "bringBackAsOf", "(II[I)Z"⟩
abbrev cX4_rowBehind : ByteArray := prog_6_method_13_code
def yX4_rowBehind : MethodName := ⟨RX4, "rowBehind", "(LPictureLog$Entry;)[I"⟩
abbrev cX4_isLoggedAsPicture : ByteArray := prog_6_method_14_code
def yX4_isLoggedAsPicture : MethodName := ⟨RX4, "isLoggedAsPicture", "(LPictureLog$Entry;[I)Z"⟩
abbrev cX4_carryOut : ByteArray := prog_6_method_15_code
def yX4_carryOut : MethodName := ⟨RX4, "carryOut", "(LPictureLog$Entry;)I"⟩
abbrev cX4_append : ByteArray := prog_6_method_16_code
def yX4_append : MethodName := ⟨RX4, "append", "(LPictureLog$Entry;)I"⟩
abbrev cX4_dropDownTo : ByteArray := prog_6_method_17_code
def yX4_dropDownTo : MethodName := ⟨RX4, "dropDownTo", "(I)I"⟩
abbrev cX4_dropOldest : ByteArray := prog_6_method_18_code
def yX4_dropOldest : MethodName := ⟨RX4, "dropOldest", "()V"⟩
abbrev cX4_changeWay : ByteArray := prog_6_method_19_code
def yX4_changeWay : MethodName := ⟨RX4, "changeWay", "(I)I"⟩
abbrev cX4_changeRoom : ByteArray := prog_6_method_20_code
def yX4_changeRoom : MethodName := ⟨RX4, "changeRoom", "(I)I"⟩
abbrev cX4_flushAll : ByteArray := prog_6_method_21_code
def yX4_flushAll : MethodName := ⟨RX4, "flushAll", "()I"⟩
abbrev cX4_storePage : ByteArray := prog_6_method_22_code
def yX4_storePage : MethodName := ⟨RX4, "storePage", "(I)I"⟩
abbrev cX4_harm : ByteArray := prog_6_method_23_code
def yX4_harm : MethodName := ⟨RX4, "harm", "(I)I"⟩
abbrev cX4_breakDown : ByteArray := prog_6_method_24_code
def yX4_breakDown : MethodName := ⟨RX4, "breakDown", "()I"⟩
def RX5 : String := "PictureLog"
def TX5 : u_T := fun k => match k with
  | 0 => ("PictureLog", "now", "LPictureLog$State;", true)
  | 1 => ("PictureLog", "history", "[LPictureLog$State;", true)
  | 2 => ("PictureLog", "states", "I", false)
  | 3 => ("PictureLog", "snapshot", "LPictureLog$State;", true)
  | 4 => ("PictureLog", "hasSnapshot", "Z", false)
  | 5 => ("PictureLog", "text", "[C", true)
  | _ => ("PictureLog", "length", "I", false)
def tyX5 : Nat → FieldType := fun k => match k with
  | 0 => .object "PictureLog$State"
  | 1 => .array (.object "PictureLog$State")
  | 2 => .int
  | 3 => .object "PictureLog$State"
  | 4 => .boolean
  | 5 => .array .char
  | _ => .int
theorem nmX5 : ∀ a, a < 7 → ∀ b, b < 7 → a ≠ b → (TX5 a).2.1 ≠ (TX5 b).2.1 := by decide +kernel
theorem tyX5_ok : ∀ k, k < 7 → parseFieldDescriptor (TX5 k).2.2.1 = some (tyX5 k) := by decide +kernel
abbrev cX5_init : ByteArray := prog_1_method_1_code
def yX5_init : MethodName := ⟨RX5, "<init>", "()V"⟩
abbrev cX5_fill : ByteArray := prog_1_method_2_code
def yX5_fill : MethodName := ⟨RX5, "fill", "(IIII)I"⟩
abbrev cX5_add : ByteArray := prog_1_method_3_code
def yX5_add : MethodName := ⟨RX5, "add", "(IIII)I"⟩
abbrev cX5_turn : ByteArray := prog_1_method_4_code
def yX5_turn : MethodName := ⟨RX5, "turn", "(II)I"⟩
abbrev cX5_renew : ByteArray := prog_1_method_5_code
def yX5_renew : MethodName := ⟨RX5, "renew", "(I)I"⟩
abbrev cX5_readOrders : ByteArray := prog_1_method_6_code
def yX5_readOrders : MethodName := ⟨RX5, "readOrders", "()I"⟩
abbrev cX5_setWay : ByteArray := prog_1_method_7_code
def yX5_setWay : MethodName := ⟨RX5, "setWay", "(I)I"⟩
abbrev cX5_setRoom : ByteArray := prog_1_method_8_code
def yX5_setRoom : MethodName := ⟨RX5, "setRoom", "(I)I"⟩
abbrev cX5_flush : ByteArray := prog_1_method_9_code
def yX5_flush : MethodName := ⟨RX5, "flush", "()I"⟩
abbrev cX5_store : ByteArray := prog_1_method_10_code
def yX5_store : MethodName := ⟨RX5, "store", "(I)I"⟩
abbrev cX5_trim : ByteArray := prog_1_method_11_code
def yX5_trim : MethodName := ⟨RX5, "trim", "()I"⟩
abbrev cX5_damage : ByteArray := prog_1_method_12_code
def yX5_damage : MethodName := ⟨RX5, "damage", "(I)I"⟩
abbrev cX5_crash : ByteArray := prog_1_method_13_code
def yX5_crash : MethodName := ⟨RX5, "crash", "()I"⟩
abbrev cX5_type : ByteArray := prog_1_method_14_code
def yX5_type : MethodName := ⟨RX5, "type", "(C)I"⟩
abbrev cX5_clearText : ByteArray := prog_1_method_15_code
def yX5_clearText : MethodName := ⟨RX5, "clearText", "()I"⟩
abbrev cX5_undo : ByteArray := prog_1_method_16_code
def yX5_undo : MethodName := ⟨RX5, "undo", "()I"⟩
abbrev cX5_keep : ByteArray := prog_1_method_17_code
def yX5_keep : MethodName := ⟨RX5, "keep", "()I"⟩
abbrev cX5_restore : ByteArray := prog_1_method_18_code
def yX5_restore : MethodName := ⟨RX5, "restore", "()I"⟩
abbrev cX5_cell : ByteArray := prog_1_method_19_code
def yX5_cell : MethodName := ⟨RX5, "cell", "(II)I"⟩
abbrev cX5_page : ByteArray := prog_1_method_20_code
def yX5_page : MethodName := ⟨RX5, "page", "(II)I"⟩
abbrev cX5_stored : ByteArray := prog_1_method_21_code
def yX5_stored : MethodName := ⟨RX5, "stored", "(II)I"⟩
abbrev cX5_entry : ByteArray := prog_1_method_22_code
def yX5_entry : MethodName := ⟨RX5, "entry", "(II)I"⟩
abbrev cX5_asOf : ByteArray := prog_1_method_23_code
def yX5_asOf : MethodName := ⟨RX5, "asOf", "(III)I"⟩
abbrev cX5_wouldLog : ByteArray := prog_1_method_24_code
def yX5_wouldLog : MethodName := ⟨RX5, "wouldLog", "(II)I"⟩
abbrev cX5_bestRenewed : ByteArray := prog_1_method_25_code
def yX5_bestRenewed : MethodName := ⟨RX5, "bestRenewed", "()I"⟩
abbrev cX5_count : ByteArray := prog_1_method_26_code
def yX5_count : MethodName := ⟨RX5, "count", "(I)I"⟩
abbrev cX5_isPage : ByteArray := prog_1_method_27_code
def yX5_isPage : MethodName := ⟨RX5, "isPage", "(I)Z"⟩
abbrev cX5_isCell : ByteArray := prog_1_method_28_code
def yX5_isCell : MethodName := ⟨RX5, "isCell", "(I)Z"⟩
abbrev cX5_isValue : ByteArray := prog_1_method_29_code
def yX5_isValue : MethodName := ⟨RX5, "isValue", "(I)Z"⟩
abbrev cX5_asNumber : ByteArray := prog_1_method_30_code
def yX5_asNumber : MethodName := ⟨RX5, "asNumber", "(Z)I"⟩
abbrev cX5_begin : ByteArray := prog_1_method_31_code
def yX5_begin : MethodName := ⟨RX5, "begin", "()V"⟩
abbrev cX5_end : ByteArray := prog_1_method_32_code
def yX5_end : MethodName := ⟨RX5, "end", "(I)I"⟩
abbrev cX5_forgetOldest : ByteArray := prog_1_method_33_code
def yX5_forgetOldest : MethodName := ⟨RX5, "forgetOldest", "()V"⟩
def RX6 : String := "PictureLogModel"
def TX6 : u_T := fun k => match k with
  | 0 => ("PictureLogModel", "s", "[I", true)
  | 1 => ("PictureLogModel", "spare", "[I", true)
  | 2 => ("PictureLogModel", "past", "[I", true)
  | 3 => ("PictureLogModel", "saved", "I", false)
  | 4 => ("PictureLogModel", "shot", "[I", true)
  | 5 => ("PictureLogModel", "isShot", "Z", false)
  | 6 => ("PictureLogModel", "text", "[C", true)
  | 7 => ("PictureLogModel", "length", "I", false)
  | 8 => ("PictureLogModel", "cells", "[I", true)
  | 9 => ("PictureLogModel", "before", "[I", true)
  | 10 => ("PictureLogModel", "made", "[I", true)
  | _ => ("PictureLogModel", "spot", "I", false)
def tyX6 : Nat → FieldType := fun k => match k with
  | 0 => .array .int
  | 1 => .array .int
  | 2 => .array .int
  | 3 => .int
  | 4 => .array .int
  | 5 => .boolean
  | 6 => .array .char
  | 7 => .int
  | 8 => .array .int
  | 9 => .array .int
  | 10 => .array .int
  | _ => .int
theorem nmX6 : ∀ a, a < 12 → ∀ b, b < 12 → a ≠ b → (TX6 a).2.1 ≠ (TX6 b).2.1 := by decide +kernel
theorem tyX6_ok : ∀ k, k < 12 → parseFieldDescriptor (TX6 k).2.2.1 = some (tyX6 k) := by decide +kernel
abbrev cX6_init : ByteArray := prog_8_method_1_code
def yX6_init : MethodName := ⟨RX6, "<init>", "()V"⟩
abbrev cX6_in : ByteArray := prog_8_method_2_code
def yX6_in : MethodName := ⟨RX6, "in", "(III)Z"⟩
abbrev cX6_isPage : ByteArray := prog_8_method_3_code
def yX6_isPage : MethodName := ⟨RX6, "isPage", "(I)Z"⟩
abbrev cX6_isCell : ByteArray := prog_8_method_4_code
def yX6_isCell : MethodName := ⟨RX6, "isCell", "(I)Z"⟩
abbrev cX6_lays : ByteArray := prog_8_method_5_code
def yX6_lays : MethodName := ⟨RX6, "lays", "([II[II)V"⟩
abbrev cX6_records : ByteArray := prog_8_method_6_code
def yX6_records : MethodName := ⟨RX6, "records", "([I)V"⟩
abbrev cX6_undo : ByteArray := prog_8_method_7_code
def yX6_undo : MethodName := ⟨RX6, "undo", "()I"⟩
abbrev cX6_keep : ByteArray := prog_8_method_8_code
def yX6_keep : MethodName := ⟨RX6, "keep", "()I"⟩
abbrev cX6_restore : ByteArray := prog_8_method_9_code
def yX6_restore : MethodName := ⟨RX6, "restore", "()I"⟩
abbrev cX6_at : ByteArray := prog_8_method_10_code
def yX6_at : MethodName := ⟨RX6, "at", "(I)I"⟩
abbrev cX6_of : ByteArray := prog_8_method_11_code
def yX6_of : MethodName := ⟨RX6, "of", "(II)I"⟩
abbrev cX6_isHeld : ByteArray := prog_8_method_12_code
def yX6_isHeld : MethodName := ⟨RX6, "isHeld", "(I)Z"⟩
abbrev cX6_pictured : ByteArray := prog_8_method_13_code
def yX6_pictured : MethodName := ⟨RX6, "pictured", "([II)I"⟩
abbrev cX6_sizeAt : ByteArray := prog_8_method_14_code
def yX6_sizeAt : MethodName := ⟨RX6, "sizeAt", "([II)I"⟩
abbrev cX6_timeAt : ByteArray := prog_8_method_15_code
def yX6_timeAt : MethodName := ⟨RX6, "timeAt", "([II)I"⟩
abbrev cX6_applies : ByteArray := prog_8_method_16_code
def yX6_applies : MethodName := ⟨RX6, "applies", "([II)V"⟩
abbrev cX6_holds : ByteArray := prog_8_method_17_code
def yX6_holds : MethodName := ⟨RX6, "holds", "(II)V"⟩
abbrev cX6_start : ByteArray := prog_8_method_18_code
def yX6_start : MethodName := ⟨RX6, "start", "(II)I"⟩
abbrev cX6_needs : ByteArray := prog_8_method_19_code
def yX6_needs : MethodName := ⟨RX6, "needs", "(III)Z"⟩
abbrev cX6_isNeeded : ByteArray := prog_8_method_20_code
def yX6_isNeeded : MethodName := ⟨RX6, "isNeeded", "(I)Z"⟩
abbrev cX6_neededMany : ByteArray := prog_8_method_21_code
def yX6_neededMany : MethodName := ⟨RX6, "neededMany", "()I"⟩
abbrev cX6_firstDamaged : ByteArray := prog_8_method_22_code
def yX6_firstDamaged : MethodName := ⟨RX6, "firstDamaged", "(II)I"⟩
abbrev cX6_timeOf : ByteArray := prog_8_method_23_code
def yX6_timeOf : MethodName := ⟨RX6, "timeOf", "(I)I"⟩
abbrev cX6_restores : ByteArray := prog_8_method_24_code
def yX6_restores : MethodName := ⟨RX6, "restores", "(II)V"⟩
abbrev cX6_used : ByteArray := prog_8_method_25_code
def yX6_used : MethodName := ⟨RX6, "used", "()I"⟩
abbrev cX6_droppable : ByteArray := prog_8_method_26_code
def yX6_droppable : MethodName := ⟨RX6, "droppable", "(I)I"⟩
abbrev cX6_usedWithout : ByteArray := prog_8_method_27_code
def yX6_usedWithout : MethodName := ⟨RX6, "usedWithout", "(I)I"⟩
abbrev cX6_drops : ByteArray := prog_8_method_28_code
def yX6_drops : MethodName := ⟨RX6, "drops", "(I)V"⟩
abbrev cX6_makes : ByteArray := prog_8_method_29_code
def yX6_makes : MethodName := ⟨RX6, "makes", "(IIIII)V"⟩
abbrev cX6_chooses : ByteArray := prog_8_method_30_code
def yX6_chooses : MethodName := ⟨RX6, "chooses", "()V"⟩
abbrev cX6_pictures : ByteArray := prog_8_method_31_code
def yX6_pictures : MethodName := ⟨RX6, "pictures", "(I)V"⟩
abbrev cX6_hasRoom : ByteArray := prog_8_method_32_code
def yX6_hasRoom : MethodName := ⟨RX6, "hasRoom", "()Z"⟩
abbrev cX6_logs : ByteArray := prog_8_method_33_code
def yX6_logs : MethodName := ⟨RX6, "logs", "()V"⟩
abbrev cX6_acts : ByteArray := prog_8_method_34_code
def yX6_acts : MethodName := ⟨RX6, "acts", "()I"⟩
abbrev cX6_fill : ByteArray := prog_8_method_35_code
def yX6_fill : MethodName := ⟨RX6, "fill", "(IIII)I"⟩
abbrev cX6_add : ByteArray := prog_8_method_36_code
def yX6_add : MethodName := ⟨RX6, "add", "(IIII)I"⟩
abbrev cX6_turn : ByteArray := prog_8_method_37_code
def yX6_turn : MethodName := ⟨RX6, "turn", "(II)I"⟩
abbrev cX6_renew : ByteArray := prog_8_method_38_code
def yX6_renew : MethodName := ⟨RX6, "renew", "(I)I"⟩
abbrev cX6_type : ByteArray := prog_8_method_39_code
def yX6_type : MethodName := ⟨RX6, "type", "(C)I"⟩
abbrev cX6_clearText : ByteArray := prog_8_method_40_code
def yX6_clearText : MethodName := ⟨RX6, "clearText", "()I"⟩
abbrev cX6_sees : ByteArray := prog_8_method_41_code
def yX6_sees : MethodName := ⟨RX6, "sees", "(CC)Z"⟩
abbrev cX6_takes : ByteArray := prog_8_method_42_code
def yX6_takes : MethodName := ⟨RX6, "takes", "(C)Z"⟩
abbrev cX6_number : ByteArray := prog_8_method_43_code
def yX6_number : MethodName := ⟨RX6, "number", "(C)I"⟩
abbrev cX6_digit : ByteArray := prog_8_method_44_code
def yX6_digit : MethodName := ⟨RX6, "digit", "(C)I"⟩
abbrev cX6_readsCells : ByteArray := prog_8_method_45_code
def yX6_readsCells : MethodName := ⟨RX6, "readsCells", "(IICC)Z"⟩
abbrev cX6_readsRow : ByteArray := prog_8_method_46_code
def yX6_readsRow : MethodName := ⟨RX6, "readsRow", "(I)Z"⟩
abbrev cX6_readsOrder : ByteArray := prog_8_method_47_code
def yX6_readsOrder : MethodName := ⟨RX6, "readsOrder", "()Z"⟩
abbrev cX6_isText : ByteArray := prog_8_method_48_code
def yX6_isText : MethodName := ⟨RX6, "isText", "()Z"⟩
abbrev cX6_does : ByteArray := prog_8_method_49_code
def yX6_does : MethodName := ⟨RX6, "does", "()Z"⟩
abbrev cX6_readOrders : ByteArray := prog_8_method_50_code
def yX6_readOrders : MethodName := ⟨RX6, "readOrders", "()I"⟩
abbrev cX6_setWay : ByteArray := prog_8_method_51_code
def yX6_setWay : MethodName := ⟨RX6, "setWay", "(I)I"⟩
abbrev cX6_setRoom : ByteArray := prog_8_method_52_code
def yX6_setRoom : MethodName := ⟨RX6, "setRoom", "(I)I"⟩
abbrev cX6_flush : ByteArray := prog_8_method_53_code
def yX6_flush : MethodName := ⟨RX6, "flush", "()I"⟩
abbrev cX6_store : ByteArray := prog_8_method_54_code
def yX6_store : MethodName := ⟨RX6, "store", "(I)I"⟩
abbrev cX6_trim : ByteArray := prog_8_method_55_code
def yX6_trim : MethodName := ⟨RX6, "trim", "()I"⟩
abbrev cX6_damage : ByteArray := prog_8_method_56_code
def yX6_damage : MethodName := ⟨RX6, "damage", "(I)I"⟩
abbrev cX6_comesBack : ByteArray := prog_8_method_57_code
def yX6_comesBack : MethodName := ⟨RX6, "comesBack", "(I)V"⟩
abbrev cX6_crash : ByteArray := prog_8_method_58_code
def yX6_crash : MethodName := ⟨RX6, "crash", "()I"⟩
abbrev cX6_cell : ByteArray := prog_8_method_59_code
def yX6_cell : MethodName := ⟨RX6, "cell", "(II)I"⟩
abbrev cX6_stored : ByteArray := prog_8_method_60_code
def yX6_stored : MethodName := ⟨RX6, "stored", "(II)I"⟩
abbrev cX6_needsMany : ByteArray := prog_8_method_61_code
def yX6_needsMany : MethodName := ⟨RX6, "needsMany", "(I)I"⟩
abbrev cX6_firstNeeded : ByteArray := prog_8_method_62_code
def yX6_firstNeeded : MethodName := ⟨RX6, "firstNeeded", "(I)I"⟩
abbrev cX6_page : ByteArray := prog_8_method_63_code
def yX6_page : MethodName := ⟨RX6, "page", "(II)I"⟩
abbrev cX6_entry : ByteArray := prog_8_method_64_code
def yX6_entry : MethodName := ⟨RX6, "entry", "(II)I"⟩
abbrev cX6_asOf : ByteArray := prog_8_method_65_code
def yX6_asOf : MethodName := ⟨RX6, "asOf", "(III)I"⟩
abbrev cX6_wouldLog : ByteArray := prog_8_method_66_code
def yX6_wouldLog : MethodName := ⟨RX6, "wouldLog", "(II)I"⟩
abbrev cX6_bestRenewed : ByteArray := prog_8_method_67_code
def yX6_bestRenewed : MethodName := ⟨RX6, "bestRenewed", "()I"⟩
abbrev cX6_ofPages : ByteArray := prog_8_method_68_code
def yX6_ofPages : MethodName := ⟨RX6, "ofPages", "(I)I"⟩
abbrev cX6_count : ByteArray := prog_8_method_69_code
def yX6_count : MethodName := ⟨RX6, "count", "(I)I"⟩
def RJ9 : String := "java/lang/Math"
def RJ10 : String := "java/lang/System"
def RJ7 : String := "java/util/Arrays"
abbrev cJ7_copyOf_59c91 : ByteArray := prog_12_method_123_code
def yJ7_copyOf_59c91 : MethodName := ⟨RJ7, "copyOf", "([II)[I"⟩
def RL : String := "PictureLogLaw"
abbrev cL_law : ByteArray := code
def yL_law : MethodName := ⟨RL, "law", "([I)Z"⟩
abbrev vwCl : List vw_C := [(RX0, TX0, 8), (RX1, TX1, 5), (RX2, TX2, 5), (RX3, TX3, 5), (RX4, TX4, 6), (RX5, TX5, 7), (RX6, TX6, 12)]
abbrev MK : Type := MethodName × ByteArray × Nat × Option FieldType
def GW : List Cond := lw_tbl.filter goodWord
theorem gw_of {w : Cond} (i : Nat) (h : lw_tbl[i]? = some w) (hg : goodWord w = true) : w ∈ GW := List.mem_filter.mpr ⟨List.mem_of_getElem? h, hg⟩
theorem gw_good : ∀ w ∈ GW, goodWord w = true := fun _ h => (List.mem_filter.mp h).2
theorem gw_tbl : ∀ w ∈ GW, w ∈ lw_tbl := fun _ h => (List.mem_filter.mp h).1
def kX5_init : MK := (yX5_init, cX5_init, 2, none)
def kX4_init : MK := (yX4_init, cX4_init, 2, none)
def kX1_init : MK := (yX1_init, cX1_init, 1, none)
def kX2_init : MK := (yX2_init, cX2_init, 1, none)
def kX5_fill : MK := (yX5_fill, cX5_fill, 5, (some .int))
def kX5_isPage : MK := (yX5_isPage, cX5_isPage, 1, (some .boolean))
def kX5_isCell : MK := (yX5_isCell, cX5_isCell, 1, (some .boolean))
def kX5_isValue : MK := (yX5_isValue, cX5_isValue, 1, (some .boolean))
def kX5_begin : MK := (yX5_begin, cX5_begin, 1, none)
def kX4_copyFrom : MK := (yX4_copyFrom, cX4_copyFrom, 3, none)
def kX2_copyFrom : MK := (yX2_copyFrom, cX2_copyFrom, 2, none)
def kX1_copyFrom : MK := (yX1_copyFrom, cX1_copyFrom, 3, none)
def kX0_ofCells : MK := (yX0_ofCells, cX0_ofCells, 5, (some (.object "PictureLog$Entry")))
def kX0_init : MK := (yX0_init, cX0_init, 8, none)
def kX0_sizeOfPicture : MK := (yX0_sizeOfPicture, cX0_sizeOfPicture, 3, (some .int))
def kX4_carryOut : MK := (yX4_carryOut, cX4_carryOut, 4, (some .int))
def kX4_rowBehind : MK := (yX4_rowBehind, cX4_rowBehind, 3, (some (.array .int)))
def kX0_applyTo : MK := (yX0_applyTo, cX0_applyTo, 3, none)
def kX0_turnRow : MK := (yX0_turnRow, cX0_turnRow, 2, none)
def kX0_reverse : MK := (yX0_reverse, cX0_reverse, 6, none)
def kX0_valueFor : MK := (yX0_valueFor, cX0_valueFor, 4, (some .int))
def kX4_isLoggedAsPicture : MK := (yX4_isLoggedAsPicture, cX4_isLoggedAsPicture, 3, (some .boolean))
def kX4_timeToRestore : MK := (yX4_timeToRestore, cX4_timeToRestore, 6, (some .int))
def kX1_next : MK := (yX1_next, cX1_next, 1, (some .int))
def kX4_firstNeeded : MK := (yX4_firstNeeded, cX4_firstNeeded, 7, (some .int))
def kX1_at : MK := (yX1_at, cX1_at, 3, (some (.object "PictureLog$Entry")))
def kX1_timesOf : MK := (yX1_timesOf, cX1_timesOf, 7, (some .int))
def kX0_time : MK := (yX0_time, cX0_time, 1, (some .int))
def kX0_ofPicture : MK := (yX0_ofPicture, cX0_ofPicture, 2, (some (.object "PictureLog$Entry")))
def kX4_append : MK := (yX4_append, cX4_append, 2, (some .int))
def kX4_dropDownTo : MK := (yX4_dropDownTo, cX4_dropDownTo, 3, (some .int))
def kX1_sizes : MK := (yX1_sizes, cX1_sizes, 4, (some .int))
def kX4_isNeeded : MK := (yX4_isNeeded, cX4_isNeeded, 3, (some .boolean))
def kX4_dropOldest : MK := (yX4_dropOldest, cX4_dropOldest, 2, none)
def kX1_dropFirst : MK := (yX1_dropFirst, cX1_dropFirst, 2, none)
def kX1_append : MK := (yX1_append, cX1_append, 2, none)
def kX5_end : MK := (yX5_end, cX5_end, 2, (some .int))
def kX5_forgetOldest : MK := (yX5_forgetOldest, cX5_forgetOldest, 3, none)
def kX5_add : MK := (yX5_add, cX5_add, 5, (some .int))
def kX5_turn : MK := (yX5_turn, cX5_turn, 3, (some .int))
def kX0_ofTurn : MK := (yX0_ofTurn, cX0_ofTurn, 2, (some (.object "PictureLog$Entry")))
def kX5_renew : MK := (yX5_renew, cX5_renew, 3, (some .int))
def kX0_ofRenewal : MK := (yX0_ofRenewal, cX0_ofRenewal, 1, (some (.object "PictureLog$Entry")))
def kX5_readOrders : MK := (yX5_readOrders, cX5_readOrders, 5, (some .int))
def kX3_init : MK := (yX3_init, cX3_init, 3, none)
def kX3_readAll : MK := (yX3_readAll, cX3_readAll, 2, (some .boolean))
def kX3_readOrder : MK := (yX3_readOrder, cX3_readOrder, 3, (some (.object "PictureLog$Entry")))
def kX3_readDigit : MK := (yX3_readDigit, cX3_readDigit, 4, (some .int))
def kX3_hasDigit : MK := (yX3_hasDigit, cX3_hasDigit, 4, (some .boolean))
def kX3_readSign : MK := (yX3_readSign, cX3_readSign, 2, (some .boolean))
def kX3_readCells : MK := (yX3_readCells, cX3_readCells, 8, (some (.object "PictureLog$Entry")))
def kX3_readNumber : MK := (yX3_readNumber, cX3_readNumber, 3, (some .int))
def kX3_readRow : MK := (yX3_readRow, cX3_readRow, 5, (some (.object "PictureLog$Entry")))
def kJ7_copyOf_59c91 : MK := (yJ7_copyOf_59c91, cJ7_copyOf_59c91, 3, (some (.array .int)))
def kX0_ofRow : MK := (yX0_ofRow, cX0_ofRow, 3, (some (.object "PictureLog$Entry")))
def kX3_order : MK := (yX3_order, cX3_order, 2, (some (.object "PictureLog$Entry")))
def kX5_setWay : MK := (yX5_setWay, cX5_setWay, 2, (some .int))
def kX4_changeWay : MK := (yX4_changeWay, cX4_changeWay, 3, (some .int))
def kX5_setRoom : MK := (yX5_setRoom, cX5_setRoom, 2, (some .int))
def kX4_changeRoom : MK := (yX4_changeRoom, cX4_changeRoom, 3, (some .int))
def kX5_flush : MK := (yX5_flush, cX5_flush, 1, (some .int))
def kX4_flushAll : MK := (yX4_flushAll, cX4_flushAll, 2, (some .int))
def kX5_store : MK := (yX5_store, cX5_store, 2, (some .int))
def kX4_storePage : MK := (yX4_storePage, cX4_storePage, 4, (some .int))
def kX1_entriesOf : MK := (yX1_entriesOf, cX1_entriesOf, 7, (some .int))
def kX4_neededEntries : MK := (yX4_neededEntries, cX4_neededEntries, 3, (some .int))
def kX5_trim : MK := (yX5_trim, cX5_trim, 2, (some .int))
def kX5_damage : MK := (yX5_damage, cX5_damage, 2, (some .int))
def kX1_holds : MK := (yX1_holds, cX1_holds, 2, (some .boolean))
def kX4_harm : MK := (yX4_harm, cX4_harm, 5, (some .int))
def kX0_asDamaged : MK := (yX0_asDamaged, cX0_asDamaged, 1, (some (.object "PictureLog$Entry")))
def kX1_replace : MK := (yX1_replace, cX1_replace, 4, none)
def kX4_needsDamaged : MK := (yX4_needsDamaged, cX4_needsDamaged, 3, (some .boolean))
def kX1_firstDamaged : MK := (yX1_firstDamaged, cX1_firstDamaged, 6, (some .int))
def kX5_crash : MK := (yX5_crash, cX5_crash, 1, (some .int))
def kX4_breakDown : MK := (yX4_breakDown, cX4_breakDown, 4, (some .int))
def kX1_loseUnflushed : MK := (yX1_loseUnflushed, cX1_loseUnflushed, 2, (some .int))
def kX4_endOfSound : MK := (yX4_endOfSound, cX4_endOfSound, 5, (some .int))
def kX4_replay : MK := (yX4_replay, cX4_replay, 7, none)
def kX5_type : MK := (yX5_type, cX5_type, 2, (some .int))
def kX5_clearText : MK := (yX5_clearText, cX5_clearText, 2, (some .int))
def kX5_undo : MK := (yX5_undo, cX5_undo, 1, (some .int))
def kX5_keep : MK := (yX5_keep, cX5_keep, 1, (some .int))
def kX5_restore : MK := (yX5_restore, cX5_restore, 1, (some .int))
def kX5_cell : MK := (yX5_cell, cX5_cell, 3, (some .int))
def kX5_page : MK := (yX5_page, cX5_page, 5, (some .int))
def kX5_asNumber : MK := (yX5_asNumber, cX5_asNumber, 1, (some .int))
def kX5_stored : MK := (yX5_stored, cX5_stored, 3, (some .int))
def kX5_entry : MK := (yX5_entry, cX5_entry, 4, (some .int))
def kX5_asOf : MK := (yX5_asOf, cX5_asOf, 5, (some .int))
def kX4_bringBackAsOf : MK := (yX4_bringBackAsOf, cX4_bringBackAsOf, 5, (some .boolean))
def kX1_latestPicture : MK := (yX1_latestPicture, cX1_latestPicture, 5, (some .int))
def kX5_wouldLog : MK := (yX5_wouldLog, cX5_wouldLog, 4, (some .int))
def kX5_bestRenewed : MK := (yX5_bestRenewed, cX5_bestRenewed, 5, (some .int))
def kX5_count : MK := (yX5_count, cX5_count, 2, (some .int))
def kX4_timeToRestoreAll : MK := (yX4_timeToRestoreAll, cX4_timeToRestoreAll, 3, (some .int))
def kX4_doubtfulPages : MK := (yX4_doubtfulPages, cX4_doubtfulPages, 3, (some .int))
def kX6_init : MK := (yX6_init, cX6_init, 2, none)
def kX6_undo : MK := (yX6_undo, cX6_undo, 1, (some .int))
def kX6_lays : MK := (yX6_lays, cX6_lays, 5, none)
def kX6_keep : MK := (yX6_keep, cX6_keep, 1, (some .int))
def kX6_restore : MK := (yX6_restore, cX6_restore, 1, (some .int))
def kX6_records : MK := (yX6_records, cX6_records, 3, none)
def kX6_fill : MK := (yX6_fill, cX6_fill, 5, (some .int))
def kX6_isPage : MK := (yX6_isPage, cX6_isPage, 1, (some .boolean))
def kX6_in : MK := (yX6_in, cX6_in, 3, (some .boolean))
def kX6_isCell : MK := (yX6_isCell, cX6_isCell, 1, (some .boolean))
def kX6_makes : MK := (yX6_makes, cX6_makes, 7, none)
def kX6_acts : MK := (yX6_acts, cX6_acts, 1, (some .int))
def kX6_chooses : MK := (yX6_chooses, cX6_chooses, 4, none)
def kX6_holds : MK := (yX6_holds, cX6_holds, 4, none)
def kX6_timeOf : MK := (yX6_timeOf, cX6_timeOf, 4, (some .int))
def kX6_start : MK := (yX6_start, cX6_start, 5, (some .int))
def kX6_of : MK := (yX6_of, cX6_of, 3, (some .int))
def kX6_at : MK := (yX6_at, cX6_at, 2, (some .int))
def kX6_needs : MK := (yX6_needs, cX6_needs, 4, (some .boolean))
def kX6_timeAt : MK := (yX6_timeAt, cX6_timeAt, 3, (some .int))
def kX6_sizeAt : MK := (yX6_sizeAt, cX6_sizeAt, 2, (some .int))
def kX6_pictured : MK := (yX6_pictured, cX6_pictured, 4, (some .int))
def kX6_applies : MK := (yX6_applies, cX6_applies, 6, none)
def kX6_pictures : MK := (yX6_pictures, cX6_pictures, 3, none)
def kX6_hasRoom : MK := (yX6_hasRoom, cX6_hasRoom, 2, (some .boolean))
def kX6_droppable : MK := (yX6_droppable, cX6_droppable, 4, (some .int))
def kX6_used : MK := (yX6_used, cX6_used, 3, (some .int))
def kX6_isNeeded : MK := (yX6_isNeeded, cX6_isNeeded, 3, (some .boolean))
def kX6_usedWithout : MK := (yX6_usedWithout, cX6_usedWithout, 4, (some .int))
def kX6_logs : MK := (yX6_logs, cX6_logs, 4, none)
def kX6_drops : MK := (yX6_drops, cX6_drops, 3, none)
def kX6_add : MK := (yX6_add, cX6_add, 5, (some .int))
def kX6_turn : MK := (yX6_turn, cX6_turn, 3, (some .int))
def kX6_renew : MK := (yX6_renew, cX6_renew, 2, (some .int))
def kX6_type : MK := (yX6_type, cX6_type, 2, (some .int))
def kX6_clearText : MK := (yX6_clearText, cX6_clearText, 2, (some .int))
def kX6_readOrders : MK := (yX6_readOrders, cX6_readOrders, 2, (some .int))
def kX6_isText : MK := (yX6_isText, cX6_isText, 2, (some .boolean))
def kX6_readsOrder : MK := (yX6_readsOrder, cX6_readsOrder, 3, (some .boolean))
def kX6_sees : MK := (yX6_sees, cX6_sees, 3, (some .boolean))
def kX6_digit : MK := (yX6_digit, cX6_digit, 2, (some .int))
def kX6_takes : MK := (yX6_takes, cX6_takes, 3, (some .boolean))
def kX6_readsCells : MK := (yX6_readsCells, cX6_readsCells, 8, (some .boolean))
def kX6_number : MK := (yX6_number, cX6_number, 3, (some .int))
def kX6_readsRow : MK := (yX6_readsRow, cX6_readsRow, 3, (some .boolean))
def kX6_does : MK := (yX6_does, cX6_does, 2, (some .boolean))
def kX6_setWay : MK := (yX6_setWay, cX6_setWay, 3, (some .int))
def kX6_setRoom : MK := (yX6_setRoom, cX6_setRoom, 4, (some .int))
def kX6_flush : MK := (yX6_flush, cX6_flush, 2, (some .int))
def kX6_store : MK := (yX6_store, cX6_store, 4, (some .int))
def kX6_neededMany : MK := (yX6_neededMany, cX6_neededMany, 3, (some .int))
def kX6_trim : MK := (yX6_trim, cX6_trim, 2, (some .int))
def kX6_damage : MK := (yX6_damage, cX6_damage, 4, (some .int))
def kX6_isHeld : MK := (yX6_isHeld, cX6_isHeld, 2, (some .boolean))
def kX6_firstDamaged : MK := (yX6_firstDamaged, cX6_firstDamaged, 5, (some .int))
def kX6_crash : MK := (yX6_crash, cX6_crash, 3, (some .int))
def kX6_comesBack : MK := (yX6_comesBack, cX6_comesBack, 5, none)
def kX6_restores : MK := (yX6_restores, cX6_restores, 4, none)
def kX6_cell : MK := (yX6_cell, cX6_cell, 3, (some .int))
def kX6_stored : MK := (yX6_stored, cX6_stored, 3, (some .int))
def kX6_page : MK := (yX6_page, cX6_page, 3, (some .int))
def kX6_needsMany : MK := (yX6_needsMany, cX6_needsMany, 4, (some .int))
def kX6_firstNeeded : MK := (yX6_firstNeeded, cX6_firstNeeded, 3, (some .int))
def kX6_entry : MK := (yX6_entry, cX6_entry, 3, (some .int))
def kX6_asOf : MK := (yX6_asOf, cX6_asOf, 8, (some .int))
def kX6_wouldLog : MK := (yX6_wouldLog, cX6_wouldLog, 3, (some .int))
def kX6_bestRenewed : MK := (yX6_bestRenewed, cX6_bestRenewed, 5, (some .int))
def kX6_count : MK := (yX6_count, cX6_count, 2, (some .int))
def kX6_ofPages : MK := (yX6_ofPages, cX6_ofPages, 4, (some .int))
def kL_law : MK := (yL_law, cL_law, 4, (some .boolean))
theorem gc_X5_init : Cond.code yX5_init cX5_init 2 none ∈ GW := gw_of 67 (by decide +kernel) (by decide +kernel)
theorem gc_X4_init : Cond.code yX4_init cX4_init 2 none ∈ GW := gw_of 75 (by decide +kernel) (by decide +kernel)
theorem gc_X1_init : Cond.code yX1_init cX1_init 1 none ∈ GW := gw_of 83 (by decide +kernel) (by decide +kernel)
theorem gc_X2_init : Cond.code yX2_init cX2_init 1 none ∈ GW := gw_of 112 (by decide +kernel) (by decide +kernel)
theorem gc_X5_fill : Cond.code yX5_fill cX5_fill 5 (some .int) ∈ GW := gw_of 192 (by decide +kernel) (by decide +kernel)
theorem gc_X5_isPage : Cond.code yX5_isPage cX5_isPage 1 (some .boolean) ∈ GW := gw_of 195 (by decide +kernel) (by decide +kernel)
theorem gc_X5_isCell : Cond.code yX5_isCell cX5_isCell 1 (some .boolean) ∈ GW := gw_of 198 (by decide +kernel) (by decide +kernel)
theorem gc_X5_isValue : Cond.code yX5_isValue cX5_isValue 1 (some .boolean) ∈ GW := gw_of 201 (by decide +kernel) (by decide +kernel)
theorem gc_X5_begin : Cond.code yX5_begin cX5_begin 1 none ∈ GW := gw_of 205 (by decide +kernel) (by decide +kernel)
theorem gc_X4_copyFrom : Cond.code yX4_copyFrom cX4_copyFrom 3 none ∈ GW := gw_of 209 (by decide +kernel) (by decide +kernel)
theorem gc_X2_copyFrom : Cond.code yX2_copyFrom cX2_copyFrom 2 none ∈ GW := gw_of 213 (by decide +kernel) (by decide +kernel)
theorem gc_X1_copyFrom : Cond.code yX1_copyFrom cX1_copyFrom 3 none ∈ GW := gw_of 220 (by decide +kernel) (by decide +kernel)
theorem gc_X0_ofCells : Cond.code yX0_ofCells cX0_ofCells 5 (some (.object "PictureLog$Entry")) ∈ GW := gw_of 223 (by decide +kernel) (by decide +kernel)
theorem gc_X0_init : Cond.code yX0_init cX0_init 8 none ∈ GW := gw_of 230 (by decide +kernel) (by decide +kernel)
theorem gc_X0_sizeOfPicture : Cond.code yX0_sizeOfPicture cX0_sizeOfPicture 3 (some .int) ∈ GW := gw_of 234 (by decide +kernel) (by decide +kernel)
theorem gc_X4_carryOut : Cond.code yX4_carryOut cX4_carryOut 4 (some .int) ∈ GW := gw_of 275 (by decide +kernel) (by decide +kernel)
theorem gc_X4_rowBehind : Cond.code yX4_rowBehind cX4_rowBehind 3 (some (.array .int)) ∈ GW := gw_of 279 (by decide +kernel) (by decide +kernel)
theorem gc_X0_applyTo : Cond.code yX0_applyTo cX0_applyTo 3 none ∈ GW := gw_of 290 (by decide +kernel) (by decide +kernel)
theorem gc_X0_turnRow : Cond.code yX0_turnRow cX0_turnRow 2 none ∈ GW := gw_of 294 (by decide +kernel) (by decide +kernel)
theorem gc_X0_reverse : Cond.code yX0_reverse cX0_reverse 6 none ∈ GW := gw_of 297 (by decide +kernel) (by decide +kernel)
theorem gc_X0_valueFor : Cond.code yX0_valueFor cX0_valueFor 4 (some .int) ∈ GW := gw_of 301 (by decide +kernel) (by decide +kernel)
theorem gc_X4_isLoggedAsPicture : Cond.code yX4_isLoggedAsPicture cX4_isLoggedAsPicture 3 (some .boolean) ∈ GW := gw_of 305 (by decide +kernel) (by decide +kernel)
theorem gc_X4_timeToRestore : Cond.code yX4_timeToRestore cX4_timeToRestore 6 (some .int) ∈ GW := gw_of 309 (by decide +kernel) (by decide +kernel)
theorem gc_X1_next : Cond.code yX1_next cX1_next 1 (some .int) ∈ GW := gw_of 313 (by decide +kernel) (by decide +kernel)
theorem gc_X4_firstNeeded : Cond.code yX4_firstNeeded cX4_firstNeeded 7 (some .int) ∈ GW := gw_of 317 (by decide +kernel) (by decide +kernel)
theorem gc_X1_at : Cond.code yX1_at cX1_at 3 (some (.object "PictureLog$Entry")) ∈ GW := gw_of 324 (by decide +kernel) (by decide +kernel)
theorem gc_X1_timesOf : Cond.code yX1_timesOf cX1_timesOf 7 (some .int) ∈ GW := gw_of 328 (by decide +kernel) (by decide +kernel)
theorem gc_X0_time : Cond.code yX0_time cX0_time 1 (some .int) ∈ GW := gw_of 334 (by decide +kernel) (by decide +kernel)
theorem gc_X0_ofPicture : Cond.code yX0_ofPicture cX0_ofPicture 2 (some (.object "PictureLog$Entry")) ∈ GW := gw_of 339 (by decide +kernel) (by decide +kernel)
theorem gc_X4_append : Cond.code yX4_append cX4_append 2 (some .int) ∈ GW := gw_of 343 (by decide +kernel) (by decide +kernel)
theorem gc_X4_dropDownTo : Cond.code yX4_dropDownTo cX4_dropDownTo 3 (some .int) ∈ GW := gw_of 347 (by decide +kernel) (by decide +kernel)
theorem gc_X1_sizes : Cond.code yX1_sizes cX1_sizes 4 (some .int) ∈ GW := gw_of 351 (by decide +kernel) (by decide +kernel)
theorem gc_X4_isNeeded : Cond.code yX4_isNeeded cX4_isNeeded 3 (some .boolean) ∈ GW := gw_of 356 (by decide +kernel) (by decide +kernel)
theorem gc_X4_dropOldest : Cond.code yX4_dropOldest cX4_dropOldest 2 none ∈ GW := gw_of 360 (by decide +kernel) (by decide +kernel)
theorem gc_X1_dropFirst : Cond.code yX1_dropFirst cX1_dropFirst 2 none ∈ GW := gw_of 364 (by decide +kernel) (by decide +kernel)
theorem gc_X1_append : Cond.code yX1_append cX1_append 2 none ∈ GW := gw_of 368 (by decide +kernel) (by decide +kernel)
theorem gc_X5_end : Cond.code yX5_end cX5_end 2 (some .int) ∈ GW := gw_of 373 (by decide +kernel) (by decide +kernel)
theorem gc_X5_forgetOldest : Cond.code yX5_forgetOldest cX5_forgetOldest 3 none ∈ GW := gw_of 377 (by decide +kernel) (by decide +kernel)
theorem gc_X5_add : Cond.code yX5_add cX5_add 5 (some .int) ∈ GW := gw_of 381 (by decide +kernel) (by decide +kernel)
theorem gc_X5_turn : Cond.code yX5_turn cX5_turn 3 (some .int) ∈ GW := gw_of 385 (by decide +kernel) (by decide +kernel)
theorem gc_X0_ofTurn : Cond.code yX0_ofTurn cX0_ofTurn 2 (some (.object "PictureLog$Entry")) ∈ GW := gw_of 388 (by decide +kernel) (by decide +kernel)
theorem gc_X5_renew : Cond.code yX5_renew cX5_renew 3 (some .int) ∈ GW := gw_of 392 (by decide +kernel) (by decide +kernel)
theorem gc_X0_ofRenewal : Cond.code yX0_ofRenewal cX0_ofRenewal 1 (some (.object "PictureLog$Entry")) ∈ GW := gw_of 396 (by decide +kernel) (by decide +kernel)
theorem gc_X5_readOrders : Cond.code yX5_readOrders cX5_readOrders 5 (some .int) ∈ GW := gw_of 401 (by decide +kernel) (by decide +kernel)
theorem gc_X3_init : Cond.code yX3_init cX3_init 3 none ∈ GW := gw_of 406 (by decide +kernel) (by decide +kernel)
theorem gc_X3_readAll : Cond.code yX3_readAll cX3_readAll 2 (some .boolean) ∈ GW := gw_of 430 (by decide +kernel) (by decide +kernel)
theorem gc_X3_readOrder : Cond.code yX3_readOrder cX3_readOrder 3 (some (.object "PictureLog$Entry")) ∈ GW := gw_of 434 (by decide +kernel) (by decide +kernel)
theorem gc_X3_readDigit : Cond.code yX3_readDigit cX3_readDigit 4 (some .int) ∈ GW := gw_of 438 (by decide +kernel) (by decide +kernel)
theorem gc_X3_hasDigit : Cond.code yX3_hasDigit cX3_hasDigit 4 (some .boolean) ∈ GW := gw_of 442 (by decide +kernel) (by decide +kernel)
theorem gc_X3_readSign : Cond.code yX3_readSign cX3_readSign 2 (some .boolean) ∈ GW := gw_of 446 (by decide +kernel) (by decide +kernel)
theorem gc_X3_readCells : Cond.code yX3_readCells cX3_readCells 8 (some (.object "PictureLog$Entry")) ∈ GW := gw_of 450 (by decide +kernel) (by decide +kernel)
theorem gc_X3_readNumber : Cond.code yX3_readNumber cX3_readNumber 3 (some .int) ∈ GW := gw_of 454 (by decide +kernel) (by decide +kernel)
theorem gc_X3_readRow : Cond.code yX3_readRow cX3_readRow 5 (some (.object "PictureLog$Entry")) ∈ GW := gw_of 460 (by decide +kernel) (by decide +kernel)
theorem gc_J7_copyOf_59c91 : Cond.code yJ7_copyOf_59c91 cJ7_copyOf_59c91 3 (some (.array .int)) ∈ GW := gw_of 463 (by decide +kernel) (by decide +kernel)
theorem gc_X0_ofRow : Cond.code yX0_ofRow cX0_ofRow 3 (some (.object "PictureLog$Entry")) ∈ GW := gw_of 472 (by decide +kernel) (by decide +kernel)
theorem gc_X3_order : Cond.code yX3_order cX3_order 2 (some (.object "PictureLog$Entry")) ∈ GW := gw_of 477 (by decide +kernel) (by decide +kernel)
theorem gc_X5_setWay : Cond.code yX5_setWay cX5_setWay 2 (some .int) ∈ GW := gw_of 481 (by decide +kernel) (by decide +kernel)
theorem gc_X4_changeWay : Cond.code yX4_changeWay cX4_changeWay 3 (some .int) ∈ GW := gw_of 485 (by decide +kernel) (by decide +kernel)
theorem gc_X5_setRoom : Cond.code yX5_setRoom cX5_setRoom 2 (some .int) ∈ GW := gw_of 489 (by decide +kernel) (by decide +kernel)
theorem gc_X4_changeRoom : Cond.code yX4_changeRoom cX4_changeRoom 3 (some .int) ∈ GW := gw_of 493 (by decide +kernel) (by decide +kernel)
theorem gc_X5_flush : Cond.code yX5_flush cX5_flush 1 (some .int) ∈ GW := gw_of 497 (by decide +kernel) (by decide +kernel)
theorem gc_X4_flushAll : Cond.code yX4_flushAll cX4_flushAll 2 (some .int) ∈ GW := gw_of 501 (by decide +kernel) (by decide +kernel)
theorem gc_X5_store : Cond.code yX5_store cX5_store 2 (some .int) ∈ GW := gw_of 505 (by decide +kernel) (by decide +kernel)
theorem gc_X4_storePage : Cond.code yX4_storePage cX4_storePage 4 (some .int) ∈ GW := gw_of 509 (by decide +kernel) (by decide +kernel)
theorem gc_X1_entriesOf : Cond.code yX1_entriesOf cX1_entriesOf 7 (some .int) ∈ GW := gw_of 513 (by decide +kernel) (by decide +kernel)
theorem gc_X4_neededEntries : Cond.code yX4_neededEntries cX4_neededEntries 3 (some .int) ∈ GW := gw_of 517 (by decide +kernel) (by decide +kernel)
theorem gc_X5_trim : Cond.code yX5_trim cX5_trim 2 (some .int) ∈ GW := gw_of 521 (by decide +kernel) (by decide +kernel)
theorem gc_X5_damage : Cond.code yX5_damage cX5_damage 2 (some .int) ∈ GW := gw_of 526 (by decide +kernel) (by decide +kernel)
theorem gc_X1_holds : Cond.code yX1_holds cX1_holds 2 (some .boolean) ∈ GW := gw_of 530 (by decide +kernel) (by decide +kernel)
theorem gc_X4_harm : Cond.code yX4_harm cX4_harm 5 (some .int) ∈ GW := gw_of 534 (by decide +kernel) (by decide +kernel)
theorem gc_X0_asDamaged : Cond.code yX0_asDamaged cX0_asDamaged 1 (some (.object "PictureLog$Entry")) ∈ GW := gw_of 538 (by decide +kernel) (by decide +kernel)
theorem gc_X1_replace : Cond.code yX1_replace cX1_replace 4 none ∈ GW := gw_of 542 (by decide +kernel) (by decide +kernel)
theorem gc_X4_needsDamaged : Cond.code yX4_needsDamaged cX4_needsDamaged 3 (some .boolean) ∈ GW := gw_of 546 (by decide +kernel) (by decide +kernel)
theorem gc_X1_firstDamaged : Cond.code yX1_firstDamaged cX1_firstDamaged 6 (some .int) ∈ GW := gw_of 550 (by decide +kernel) (by decide +kernel)
theorem gc_X5_crash : Cond.code yX5_crash cX5_crash 1 (some .int) ∈ GW := gw_of 554 (by decide +kernel) (by decide +kernel)
theorem gc_X4_breakDown : Cond.code yX4_breakDown cX4_breakDown 4 (some .int) ∈ GW := gw_of 558 (by decide +kernel) (by decide +kernel)
theorem gc_X1_loseUnflushed : Cond.code yX1_loseUnflushed cX1_loseUnflushed 2 (some .int) ∈ GW := gw_of 562 (by decide +kernel) (by decide +kernel)
theorem gc_X4_endOfSound : Cond.code yX4_endOfSound cX4_endOfSound 5 (some .int) ∈ GW := gw_of 566 (by decide +kernel) (by decide +kernel)
theorem gc_X4_replay : Cond.code yX4_replay cX4_replay 7 none ∈ GW := gw_of 570 (by decide +kernel) (by decide +kernel)
theorem gc_X5_type : Cond.code yX5_type cX5_type 2 (some .int) ∈ GW := gw_of 574 (by decide +kernel) (by decide +kernel)
theorem gc_X5_clearText : Cond.code yX5_clearText cX5_clearText 2 (some .int) ∈ GW := gw_of 578 (by decide +kernel) (by decide +kernel)
theorem gc_X5_undo : Cond.code yX5_undo cX5_undo 1 (some .int) ∈ GW := gw_of 582 (by decide +kernel) (by decide +kernel)
theorem gc_X5_keep : Cond.code yX5_keep cX5_keep 1 (some .int) ∈ GW := gw_of 586 (by decide +kernel) (by decide +kernel)
theorem gc_X5_restore : Cond.code yX5_restore cX5_restore 1 (some .int) ∈ GW := gw_of 590 (by decide +kernel) (by decide +kernel)
theorem gc_X5_cell : Cond.code yX5_cell cX5_cell 3 (some .int) ∈ GW := gw_of 594 (by decide +kernel) (by decide +kernel)
theorem gc_X5_page : Cond.code yX5_page cX5_page 5 (some .int) ∈ GW := gw_of 598 (by decide +kernel) (by decide +kernel)
theorem gc_X5_asNumber : Cond.code yX5_asNumber cX5_asNumber 1 (some .int) ∈ GW := gw_of 604 (by decide +kernel) (by decide +kernel)
theorem gc_X5_stored : Cond.code yX5_stored cX5_stored 3 (some .int) ∈ GW := gw_of 610 (by decide +kernel) (by decide +kernel)
theorem gc_X5_entry : Cond.code yX5_entry cX5_entry 4 (some .int) ∈ GW := gw_of 614 (by decide +kernel) (by decide +kernel)
theorem gc_X5_asOf : Cond.code yX5_asOf cX5_asOf 5 (some .int) ∈ GW := gw_of 621 (by decide +kernel) (by decide +kernel)
theorem gc_X4_bringBackAsOf : Cond.code yX4_bringBackAsOf cX4_bringBackAsOf 5 (some .boolean) ∈ GW := gw_of 625 (by decide +kernel) (by decide +kernel)
theorem gc_X1_latestPicture : Cond.code yX1_latestPicture cX1_latestPicture 5 (some .int) ∈ GW := gw_of 629 (by decide +kernel) (by decide +kernel)
theorem gc_X5_wouldLog : Cond.code yX5_wouldLog cX5_wouldLog 4 (some .int) ∈ GW := gw_of 633 (by decide +kernel) (by decide +kernel)
theorem gc_X5_bestRenewed : Cond.code yX5_bestRenewed cX5_bestRenewed 5 (some .int) ∈ GW := gw_of 639 (by decide +kernel) (by decide +kernel)
theorem gc_X5_count : Cond.code yX5_count cX5_count 2 (some .int) ∈ GW := gw_of 643 (by decide +kernel) (by decide +kernel)
theorem gc_X4_timeToRestoreAll : Cond.code yX4_timeToRestoreAll cX4_timeToRestoreAll 3 (some .int) ∈ GW := gw_of 649 (by decide +kernel) (by decide +kernel)
theorem gc_X4_doubtfulPages : Cond.code yX4_doubtfulPages cX4_doubtfulPages 3 (some .int) ∈ GW := gw_of 653 (by decide +kernel) (by decide +kernel)
theorem gc_X6_init : Cond.code yX6_init cX6_init 2 none ∈ GW := gw_of 658 (by decide +kernel) (by decide +kernel)
theorem gc_X6_undo : Cond.code yX6_undo cX6_undo 1 (some .int) ∈ GW := gw_of 700 (by decide +kernel) (by decide +kernel)
theorem gc_X6_lays : Cond.code yX6_lays cX6_lays 5 none ∈ GW := gw_of 703 (by decide +kernel) (by decide +kernel)
theorem gc_X6_keep : Cond.code yX6_keep cX6_keep 1 (some .int) ∈ GW := gw_of 707 (by decide +kernel) (by decide +kernel)
theorem gc_X6_restore : Cond.code yX6_restore cX6_restore 1 (some .int) ∈ GW := gw_of 711 (by decide +kernel) (by decide +kernel)
theorem gc_X6_records : Cond.code yX6_records cX6_records 3 none ∈ GW := gw_of 715 (by decide +kernel) (by decide +kernel)
theorem gc_X6_fill : Cond.code yX6_fill cX6_fill 5 (some .int) ∈ GW := gw_of 719 (by decide +kernel) (by decide +kernel)
theorem gc_X6_isPage : Cond.code yX6_isPage cX6_isPage 1 (some .boolean) ∈ GW := gw_of 722 (by decide +kernel) (by decide +kernel)
theorem gc_X6_in : Cond.code yX6_in cX6_in 3 (some .boolean) ∈ GW := gw_of 725 (by decide +kernel) (by decide +kernel)
theorem gc_X6_isCell : Cond.code yX6_isCell cX6_isCell 1 (some .boolean) ∈ GW := gw_of 728 (by decide +kernel) (by decide +kernel)
theorem gc_X6_makes : Cond.code yX6_makes cX6_makes 7 none ∈ GW := gw_of 732 (by decide +kernel) (by decide +kernel)
theorem gc_X6_acts : Cond.code yX6_acts cX6_acts 1 (some .int) ∈ GW := gw_of 736 (by decide +kernel) (by decide +kernel)
theorem gc_X6_chooses : Cond.code yX6_chooses cX6_chooses 4 none ∈ GW := gw_of 740 (by decide +kernel) (by decide +kernel)
theorem gc_X6_holds : Cond.code yX6_holds cX6_holds 4 none ∈ GW := gw_of 744 (by decide +kernel) (by decide +kernel)
theorem gc_X6_timeOf : Cond.code yX6_timeOf cX6_timeOf 4 (some .int) ∈ GW := gw_of 748 (by decide +kernel) (by decide +kernel)
theorem gc_X6_start : Cond.code yX6_start cX6_start 5 (some .int) ∈ GW := gw_of 752 (by decide +kernel) (by decide +kernel)
theorem gc_X6_of : Cond.code yX6_of cX6_of 3 (some .int) ∈ GW := gw_of 756 (by decide +kernel) (by decide +kernel)
theorem gc_X6_at : Cond.code yX6_at cX6_at 2 (some .int) ∈ GW := gw_of 760 (by decide +kernel) (by decide +kernel)
theorem gc_X6_needs : Cond.code yX6_needs cX6_needs 4 (some .boolean) ∈ GW := gw_of 764 (by decide +kernel) (by decide +kernel)
theorem gc_X6_timeAt : Cond.code yX6_timeAt cX6_timeAt 3 (some .int) ∈ GW := gw_of 767 (by decide +kernel) (by decide +kernel)
theorem gc_X6_sizeAt : Cond.code yX6_sizeAt cX6_sizeAt 2 (some .int) ∈ GW := gw_of 770 (by decide +kernel) (by decide +kernel)
theorem gc_X6_pictured : Cond.code yX6_pictured cX6_pictured 4 (some .int) ∈ GW := gw_of 773 (by decide +kernel) (by decide +kernel)
theorem gc_X6_applies : Cond.code yX6_applies cX6_applies 6 none ∈ GW := gw_of 777 (by decide +kernel) (by decide +kernel)
theorem gc_X6_pictures : Cond.code yX6_pictures cX6_pictures 3 none ∈ GW := gw_of 781 (by decide +kernel) (by decide +kernel)
theorem gc_X6_hasRoom : Cond.code yX6_hasRoom cX6_hasRoom 2 (some .boolean) ∈ GW := gw_of 785 (by decide +kernel) (by decide +kernel)
theorem gc_X6_droppable : Cond.code yX6_droppable cX6_droppable 4 (some .int) ∈ GW := gw_of 789 (by decide +kernel) (by decide +kernel)
theorem gc_X6_used : Cond.code yX6_used cX6_used 3 (some .int) ∈ GW := gw_of 793 (by decide +kernel) (by decide +kernel)
theorem gc_X6_isNeeded : Cond.code yX6_isNeeded cX6_isNeeded 3 (some .boolean) ∈ GW := gw_of 797 (by decide +kernel) (by decide +kernel)
theorem gc_X6_usedWithout : Cond.code yX6_usedWithout cX6_usedWithout 4 (some .int) ∈ GW := gw_of 801 (by decide +kernel) (by decide +kernel)
theorem gc_X6_logs : Cond.code yX6_logs cX6_logs 4 none ∈ GW := gw_of 805 (by decide +kernel) (by decide +kernel)
theorem gc_X6_drops : Cond.code yX6_drops cX6_drops 3 none ∈ GW := gw_of 809 (by decide +kernel) (by decide +kernel)
theorem gc_X6_add : Cond.code yX6_add cX6_add 5 (some .int) ∈ GW := gw_of 813 (by decide +kernel) (by decide +kernel)
theorem gc_X6_turn : Cond.code yX6_turn cX6_turn 3 (some .int) ∈ GW := gw_of 817 (by decide +kernel) (by decide +kernel)
theorem gc_X6_renew : Cond.code yX6_renew cX6_renew 2 (some .int) ∈ GW := gw_of 821 (by decide +kernel) (by decide +kernel)
theorem gc_X6_type : Cond.code yX6_type cX6_type 2 (some .int) ∈ GW := gw_of 825 (by decide +kernel) (by decide +kernel)
theorem gc_X6_clearText : Cond.code yX6_clearText cX6_clearText 2 (some .int) ∈ GW := gw_of 829 (by decide +kernel) (by decide +kernel)
theorem gc_X6_readOrders : Cond.code yX6_readOrders cX6_readOrders 2 (some .int) ∈ GW := gw_of 833 (by decide +kernel) (by decide +kernel)
theorem gc_X6_isText : Cond.code yX6_isText cX6_isText 2 (some .boolean) ∈ GW := gw_of 837 (by decide +kernel) (by decide +kernel)
theorem gc_X6_readsOrder : Cond.code yX6_readsOrder cX6_readsOrder 3 (some .boolean) ∈ GW := gw_of 841 (by decide +kernel) (by decide +kernel)
theorem gc_X6_sees : Cond.code yX6_sees cX6_sees 3 (some .boolean) ∈ GW := gw_of 845 (by decide +kernel) (by decide +kernel)
theorem gc_X6_digit : Cond.code yX6_digit cX6_digit 2 (some .int) ∈ GW := gw_of 849 (by decide +kernel) (by decide +kernel)
theorem gc_X6_takes : Cond.code yX6_takes cX6_takes 3 (some .boolean) ∈ GW := gw_of 853 (by decide +kernel) (by decide +kernel)
theorem gc_X6_readsCells : Cond.code yX6_readsCells cX6_readsCells 8 (some .boolean) ∈ GW := gw_of 857 (by decide +kernel) (by decide +kernel)
theorem gc_X6_number : Cond.code yX6_number cX6_number 3 (some .int) ∈ GW := gw_of 861 (by decide +kernel) (by decide +kernel)
theorem gc_X6_readsRow : Cond.code yX6_readsRow cX6_readsRow 3 (some .boolean) ∈ GW := gw_of 865 (by decide +kernel) (by decide +kernel)
theorem gc_X6_does : Cond.code yX6_does cX6_does 2 (some .boolean) ∈ GW := gw_of 869 (by decide +kernel) (by decide +kernel)
theorem gc_X6_setWay : Cond.code yX6_setWay cX6_setWay 3 (some .int) ∈ GW := gw_of 873 (by decide +kernel) (by decide +kernel)
theorem gc_X6_setRoom : Cond.code yX6_setRoom cX6_setRoom 4 (some .int) ∈ GW := gw_of 877 (by decide +kernel) (by decide +kernel)
theorem gc_X6_flush : Cond.code yX6_flush cX6_flush 2 (some .int) ∈ GW := gw_of 881 (by decide +kernel) (by decide +kernel)
theorem gc_X6_store : Cond.code yX6_store cX6_store 4 (some .int) ∈ GW := gw_of 885 (by decide +kernel) (by decide +kernel)
theorem gc_X6_neededMany : Cond.code yX6_neededMany cX6_neededMany 3 (some .int) ∈ GW := gw_of 889 (by decide +kernel) (by decide +kernel)
theorem gc_X6_trim : Cond.code yX6_trim cX6_trim 2 (some .int) ∈ GW := gw_of 893 (by decide +kernel) (by decide +kernel)
theorem gc_X6_damage : Cond.code yX6_damage cX6_damage 4 (some .int) ∈ GW := gw_of 897 (by decide +kernel) (by decide +kernel)
theorem gc_X6_isHeld : Cond.code yX6_isHeld cX6_isHeld 2 (some .boolean) ∈ GW := gw_of 901 (by decide +kernel) (by decide +kernel)
theorem gc_X6_firstDamaged : Cond.code yX6_firstDamaged cX6_firstDamaged 5 (some .int) ∈ GW := gw_of 905 (by decide +kernel) (by decide +kernel)
theorem gc_X6_crash : Cond.code yX6_crash cX6_crash 3 (some .int) ∈ GW := gw_of 909 (by decide +kernel) (by decide +kernel)
theorem gc_X6_comesBack : Cond.code yX6_comesBack cX6_comesBack 5 none ∈ GW := gw_of 913 (by decide +kernel) (by decide +kernel)
theorem gc_X6_restores : Cond.code yX6_restores cX6_restores 4 none ∈ GW := gw_of 917 (by decide +kernel) (by decide +kernel)
theorem gc_X6_cell : Cond.code yX6_cell cX6_cell 3 (some .int) ∈ GW := gw_of 921 (by decide +kernel) (by decide +kernel)
theorem gc_X6_stored : Cond.code yX6_stored cX6_stored 3 (some .int) ∈ GW := gw_of 925 (by decide +kernel) (by decide +kernel)
theorem gc_X6_page : Cond.code yX6_page cX6_page 3 (some .int) ∈ GW := gw_of 929 (by decide +kernel) (by decide +kernel)
theorem gc_X6_needsMany : Cond.code yX6_needsMany cX6_needsMany 4 (some .int) ∈ GW := gw_of 933 (by decide +kernel) (by decide +kernel)
theorem gc_X6_firstNeeded : Cond.code yX6_firstNeeded cX6_firstNeeded 3 (some .int) ∈ GW := gw_of 937 (by decide +kernel) (by decide +kernel)
theorem gc_X6_entry : Cond.code yX6_entry cX6_entry 3 (some .int) ∈ GW := gw_of 941 (by decide +kernel) (by decide +kernel)
theorem gc_X6_asOf : Cond.code yX6_asOf cX6_asOf 8 (some .int) ∈ GW := gw_of 945 (by decide +kernel) (by decide +kernel)
theorem gc_X6_wouldLog : Cond.code yX6_wouldLog cX6_wouldLog 3 (some .int) ∈ GW := gw_of 949 (by decide +kernel) (by decide +kernel)
theorem gc_X6_bestRenewed : Cond.code yX6_bestRenewed cX6_bestRenewed 5 (some .int) ∈ GW := gw_of 953 (by decide +kernel) (by decide +kernel)
theorem gc_X6_count : Cond.code yX6_count cX6_count 2 (some .int) ∈ GW := gw_of 957 (by decide +kernel) (by decide +kernel)
theorem gc_X6_ofPages : Cond.code yX6_ofPages cX6_ofPages 4 (some .int) ∈ GW := gw_of 961 (by decide +kernel) (by decide +kernel)
theorem ge_X5_begin : Cond.selects RX5 yX5_begin yX5_begin ∈ GW := gw_of 0 (by decide +kernel) (by decide +kernel)
theorem ge_X0_turnRow : Cond.selects RX0 yX0_turnRow yX0_turnRow ∈ GW := gw_of 1 (by decide +kernel) (by decide +kernel)
theorem ge_X0_valueFor : Cond.selects RX0 yX0_valueFor yX0_valueFor ∈ GW := gw_of 2 (by decide +kernel) (by decide +kernel)
theorem ge_X4_append : Cond.selects RX4 yX4_append yX4_append ∈ GW := gw_of 3 (by decide +kernel) (by decide +kernel)
theorem ge_X4_dropOldest : Cond.selects RX4 yX4_dropOldest yX4_dropOldest ∈ GW := gw_of 4 (by decide +kernel) (by decide +kernel)
theorem ge_X5_end : Cond.selects RX5 yX5_end yX5_end ∈ GW := gw_of 5 (by decide +kernel) (by decide +kernel)
theorem ge_X5_forgetOldest : Cond.selects RX5 yX5_forgetOldest yX5_forgetOldest ∈ GW := gw_of 6 (by decide +kernel) (by decide +kernel)
theorem ge_X3_readOrder : Cond.selects RX3 yX3_readOrder yX3_readOrder ∈ GW := gw_of 7 (by decide +kernel) (by decide +kernel)
theorem ge_X3_readDigit : Cond.selects RX3 yX3_readDigit yX3_readDigit ∈ GW := gw_of 8 (by decide +kernel) (by decide +kernel)
theorem ge_X3_hasDigit : Cond.selects RX3 yX3_hasDigit yX3_hasDigit ∈ GW := gw_of 9 (by decide +kernel) (by decide +kernel)
theorem ge_X3_readSign : Cond.selects RX3 yX3_readSign yX3_readSign ∈ GW := gw_of 10 (by decide +kernel) (by decide +kernel)
theorem ge_X3_readCells : Cond.selects RX3 yX3_readCells yX3_readCells ∈ GW := gw_of 11 (by decide +kernel) (by decide +kernel)
theorem ge_X3_readNumber : Cond.selects RX3 yX3_readNumber yX3_readNumber ∈ GW := gw_of 12 (by decide +kernel) (by decide +kernel)
theorem ge_X3_readRow : Cond.selects RX3 yX3_readRow yX3_readRow ∈ GW := gw_of 13 (by decide +kernel) (by decide +kernel)
theorem ge_X4_endOfSound : Cond.selects RX4 yX4_endOfSound yX4_endOfSound ∈ GW := gw_of 14 (by decide +kernel) (by decide +kernel)
theorem ge_X4_replay : Cond.selects RX4 yX4_replay yX4_replay ∈ GW := gw_of 15 (by decide +kernel) (by decide +kernel)
theorem ge_X6_records : Cond.selects RX6 yX6_records yX6_records ∈ GW := gw_of 16 (by decide +kernel) (by decide +kernel)
theorem ge_X6_makes : Cond.selects RX6 yX6_makes yX6_makes ∈ GW := gw_of 17 (by decide +kernel) (by decide +kernel)
theorem ge_X6_acts : Cond.selects RX6 yX6_acts yX6_acts ∈ GW := gw_of 18 (by decide +kernel) (by decide +kernel)
theorem ge_X6_chooses : Cond.selects RX6 yX6_chooses yX6_chooses ∈ GW := gw_of 19 (by decide +kernel) (by decide +kernel)
theorem ge_X6_holds : Cond.selects RX6 yX6_holds yX6_holds ∈ GW := gw_of 20 (by decide +kernel) (by decide +kernel)
theorem ge_X6_timeOf : Cond.selects RX6 yX6_timeOf yX6_timeOf ∈ GW := gw_of 21 (by decide +kernel) (by decide +kernel)
theorem ge_X6_start : Cond.selects RX6 yX6_start yX6_start ∈ GW := gw_of 22 (by decide +kernel) (by decide +kernel)
theorem ge_X6_of : Cond.selects RX6 yX6_of yX6_of ∈ GW := gw_of 23 (by decide +kernel) (by decide +kernel)
theorem ge_X6_at : Cond.selects RX6 yX6_at yX6_at ∈ GW := gw_of 24 (by decide +kernel) (by decide +kernel)
theorem ge_X6_needs : Cond.selects RX6 yX6_needs yX6_needs ∈ GW := gw_of 25 (by decide +kernel) (by decide +kernel)
theorem ge_X6_applies : Cond.selects RX6 yX6_applies yX6_applies ∈ GW := gw_of 26 (by decide +kernel) (by decide +kernel)
theorem ge_X6_pictures : Cond.selects RX6 yX6_pictures yX6_pictures ∈ GW := gw_of 27 (by decide +kernel) (by decide +kernel)
theorem ge_X6_hasRoom : Cond.selects RX6 yX6_hasRoom yX6_hasRoom ∈ GW := gw_of 28 (by decide +kernel) (by decide +kernel)
theorem ge_X6_droppable : Cond.selects RX6 yX6_droppable yX6_droppable ∈ GW := gw_of 29 (by decide +kernel) (by decide +kernel)
theorem ge_X6_used : Cond.selects RX6 yX6_used yX6_used ∈ GW := gw_of 30 (by decide +kernel) (by decide +kernel)
theorem ge_X6_isNeeded : Cond.selects RX6 yX6_isNeeded yX6_isNeeded ∈ GW := gw_of 31 (by decide +kernel) (by decide +kernel)
theorem ge_X6_usedWithout : Cond.selects RX6 yX6_usedWithout yX6_usedWithout ∈ GW := gw_of 32 (by decide +kernel) (by decide +kernel)
theorem ge_X6_logs : Cond.selects RX6 yX6_logs yX6_logs ∈ GW := gw_of 33 (by decide +kernel) (by decide +kernel)
theorem ge_X6_drops : Cond.selects RX6 yX6_drops yX6_drops ∈ GW := gw_of 34 (by decide +kernel) (by decide +kernel)
theorem ge_X6_isText : Cond.selects RX6 yX6_isText yX6_isText ∈ GW := gw_of 35 (by decide +kernel) (by decide +kernel)
theorem ge_X6_readsOrder : Cond.selects RX6 yX6_readsOrder yX6_readsOrder ∈ GW := gw_of 36 (by decide +kernel) (by decide +kernel)
theorem ge_X6_sees : Cond.selects RX6 yX6_sees yX6_sees ∈ GW := gw_of 37 (by decide +kernel) (by decide +kernel)
theorem ge_X6_digit : Cond.selects RX6 yX6_digit yX6_digit ∈ GW := gw_of 38 (by decide +kernel) (by decide +kernel)
theorem ge_X6_takes : Cond.selects RX6 yX6_takes yX6_takes ∈ GW := gw_of 39 (by decide +kernel) (by decide +kernel)
theorem ge_X6_readsCells : Cond.selects RX6 yX6_readsCells yX6_readsCells ∈ GW := gw_of 40 (by decide +kernel) (by decide +kernel)
theorem ge_X6_number : Cond.selects RX6 yX6_number yX6_number ∈ GW := gw_of 41 (by decide +kernel) (by decide +kernel)
theorem ge_X6_readsRow : Cond.selects RX6 yX6_readsRow yX6_readsRow ∈ GW := gw_of 42 (by decide +kernel) (by decide +kernel)
theorem ge_X6_does : Cond.selects RX6 yX6_does yX6_does ∈ GW := gw_of 43 (by decide +kernel) (by decide +kernel)
theorem ge_X6_neededMany : Cond.selects RX6 yX6_neededMany yX6_neededMany ∈ GW := gw_of 44 (by decide +kernel) (by decide +kernel)
theorem ge_X6_isHeld : Cond.selects RX6 yX6_isHeld yX6_isHeld ∈ GW := gw_of 45 (by decide +kernel) (by decide +kernel)
theorem ge_X6_firstDamaged : Cond.selects RX6 yX6_firstDamaged yX6_firstDamaged ∈ GW := gw_of 46 (by decide +kernel) (by decide +kernel)
theorem ge_X6_comesBack : Cond.selects RX6 yX6_comesBack yX6_comesBack ∈ GW := gw_of 47 (by decide +kernel) (by decide +kernel)
theorem ge_X6_restores : Cond.selects RX6 yX6_restores yX6_restores ∈ GW := gw_of 48 (by decide +kernel) (by decide +kernel)
theorem ge_X6_needsMany : Cond.selects RX6 yX6_needsMany yX6_needsMany ∈ GW := gw_of 49 (by decide +kernel) (by decide +kernel)
theorem ge_X6_firstNeeded : Cond.selects RX6 yX6_firstNeeded yX6_firstNeeded ∈ GW := gw_of 50 (by decide +kernel) (by decide +kernel)
theorem ge_X6_ofPages : Cond.selects RX6 yX6_ofPages yX6_ofPages ∈ GW := gw_of 51 (by decide +kernel) (by decide +kernel)
theorem gi_RL : Cond.initialized RL ∈ GW := gw_of 52 (by decide +kernel) (by decide +kernel)
theorem gi_RX5 : Cond.initialized RX5 ∈ GW := gw_of 53 (by decide +kernel) (by decide +kernel)
theorem gi_RX4 : Cond.initialized RX4 ∈ GW := gw_of 54 (by decide +kernel) (by decide +kernel)
theorem gi_RX1 : Cond.initialized RX1 ∈ GW := gw_of 55 (by decide +kernel) (by decide +kernel)
theorem gi_RX2 : Cond.initialized RX2 ∈ GW := gw_of 56 (by decide +kernel) (by decide +kernel)
theorem gi_RX6 : Cond.initialized RX6 ∈ GW := gw_of 57 (by decide +kernel) (by decide +kernel)
theorem gi_RJ10 : Cond.initialized RJ10 ∈ GW := gw_of 58 (by decide +kernel) (by decide +kernel)
theorem gi_RX0 : Cond.initialized RX0 ∈ GW := gw_of 59 (by decide +kernel) (by decide +kernel)
theorem gi_RJ9 : Cond.initialized RJ9 ∈ GW := gw_of 60 (by decide +kernel) (by decide +kernel)
theorem gi_RX3 : Cond.initialized RX3 ∈ GW := gw_of 61 (by decide +kernel) (by decide +kernel)
theorem gi_RJ7 : Cond.initialized RJ7 ∈ GW := gw_of 62 (by decide +kernel) (by decide +kernel)
theorem gk_RL_7 : Cond.classLink RL 7 RX5 ∈ GW := gw_of 63 (by decide +kernel) (by decide +kernel)
theorem gn_RX5 : Cond.instantiable RX5 7 ∈ GW := gw_of 64 (by decide +kernel) (by decide +kernel)
theorem gl_RL_9 : Cond.methodLink RL 9 yX5_init ∈ GW := gw_of 65 (by decide +kernel) (by decide +kernel)
theorem gm_X5_init : Cond.instanceMethod yX5_init ∈ GW := gw_of 66 (by decide +kernel) (by decide +kernel)
theorem gl_RX5_3 : Cond.methodLink RX5 3 Lib.objectInit ∈ GW := gw_of 68 (by decide +kernel) (by decide +kernel)
theorem gk_RX5_9 : Cond.classLink RX5 9 RX4 ∈ GW := gw_of 71 (by decide +kernel) (by decide +kernel)
theorem gn_RX4 : Cond.instantiable RX4 6 ∈ GW := gw_of 72 (by decide +kernel) (by decide +kernel)
theorem gl_RX5_11 : Cond.methodLink RX5 11 yX4_init ∈ GW := gw_of 73 (by decide +kernel) (by decide +kernel)
theorem gm_X4_init : Cond.instanceMethod yX4_init ∈ GW := gw_of 74 (by decide +kernel) (by decide +kernel)
theorem gl_RX4_3 : Cond.methodLink RX4 3 Lib.objectInit ∈ GW := gw_of 76 (by decide +kernel) (by decide +kernel)
theorem gk_RX4_9 : Cond.classLink RX4 9 RX2 ∈ GW := gw_of 77 (by decide +kernel) (by decide +kernel)
theorem gk_RX4_17 : Cond.classLink RX4 17 RX1 ∈ GW := gw_of 79 (by decide +kernel) (by decide +kernel)
theorem gn_RX1 : Cond.instantiable RX1 5 ∈ GW := gw_of 80 (by decide +kernel) (by decide +kernel)
theorem gm_X1_init : Cond.instanceMethod yX1_init ∈ GW := gw_of 82 (by decide +kernel) (by decide +kernel)
theorem gl_RX1_3 : Cond.methodLink RX1 3 Lib.objectInit ∈ GW := gw_of 84 (by decide +kernel) (by decide +kernel)
theorem gk_RX1_9 : Cond.classLink RX1 9 RX0 ∈ GW := gw_of 85 (by decide +kernel) (by decide +kernel)
theorem gn_RX2 : Cond.instantiable RX2 5 ∈ GW := gw_of 109 (by decide +kernel) (by decide +kernel)
theorem gm_X2_init : Cond.instanceMethod yX2_init ∈ GW := gw_of 111 (by decide +kernel) (by decide +kernel)
theorem gl_RX2_3 : Cond.methodLink RX2 3 Lib.objectInit ∈ GW := gw_of 113 (by decide +kernel) (by decide +kernel)
theorem gl_RL_13 : Cond.methodLink RL 13 yX5_fill ∈ GW := gw_of 189 (by decide +kernel) (by decide +kernel)
theorem gm_X5_fill : Cond.instanceMethod yX5_fill ∈ GW := gw_of 190 (by decide +kernel) (by decide +kernel)
theorem ge_X5_fill : Cond.selects RX5 yX5_fill yX5_fill ∈ GW := gw_of 191 (by decide +kernel) (by decide +kernel)
theorem gl_RX5_27 : Cond.methodLink RX5 27 yX5_isPage ∈ GW := gw_of 193 (by decide +kernel) (by decide +kernel)
theorem gs_X5_isPage : Cond.static yX5_isPage ∈ GW := gw_of 194 (by decide +kernel) (by decide +kernel)
theorem gl_RX5_31 : Cond.methodLink RX5 31 yX5_isCell ∈ GW := gw_of 196 (by decide +kernel) (by decide +kernel)
theorem gs_X5_isCell : Cond.static yX5_isCell ∈ GW := gw_of 197 (by decide +kernel) (by decide +kernel)
theorem gl_RX5_34 : Cond.methodLink RX5 34 yX5_isValue ∈ GW := gw_of 199 (by decide +kernel) (by decide +kernel)
theorem gs_X5_isValue : Cond.static yX5_isValue ∈ GW := gw_of 200 (by decide +kernel) (by decide +kernel)
theorem gl_RX5_37 : Cond.methodLink RX5 37 yX5_begin ∈ GW := gw_of 202 (by decide +kernel) (by decide +kernel)
theorem gm_X5_begin : Cond.instanceMethod yX5_begin ∈ GW := gw_of 204 (by decide +kernel) (by decide +kernel)
theorem gl_RX5_124 : Cond.methodLink RX5 124 yX4_copyFrom ∈ GW := gw_of 206 (by decide +kernel) (by decide +kernel)
theorem gm_X4_copyFrom : Cond.instanceMethod yX4_copyFrom ∈ GW := gw_of 207 (by decide +kernel) (by decide +kernel)
theorem ge_X4_copyFrom : Cond.selects RX4 yX4_copyFrom yX4_copyFrom ∈ GW := gw_of 208 (by decide +kernel) (by decide +kernel)
theorem gl_RX4_29 : Cond.methodLink RX4 29 yX2_copyFrom ∈ GW := gw_of 210 (by decide +kernel) (by decide +kernel)
theorem gm_X2_copyFrom : Cond.instanceMethod yX2_copyFrom ∈ GW := gw_of 211 (by decide +kernel) (by decide +kernel)
theorem ge_X2_copyFrom : Cond.selects RX2 yX2_copyFrom yX2_copyFrom ∈ GW := gw_of 212 (by decide +kernel) (by decide +kernel)
theorem gl_RX2_18 : Cond.methodLink RX2 18 arraycopyName ∈ GW := gw_of 214 (by decide +kernel) (by decide +kernel)
theorem gl_RX4_33 : Cond.methodLink RX4 33 yX1_copyFrom ∈ GW := gw_of 217 (by decide +kernel) (by decide +kernel)
theorem gm_X1_copyFrom : Cond.instanceMethod yX1_copyFrom ∈ GW := gw_of 218 (by decide +kernel) (by decide +kernel)
theorem ge_X1_copyFrom : Cond.selects RX1 yX1_copyFrom yX1_copyFrom ∈ GW := gw_of 219 (by decide +kernel) (by decide +kernel)
theorem gl_RX5_40 : Cond.methodLink RX5 40 yX0_ofCells ∈ GW := gw_of 221 (by decide +kernel) (by decide +kernel)
theorem gs_X0_ofCells : Cond.static yX0_ofCells ∈ GW := gw_of 222 (by decide +kernel) (by decide +kernel)
theorem gk_RX0_10 : Cond.classLink RX0 10 RX0 ∈ GW := gw_of 224 (by decide +kernel) (by decide +kernel)
theorem gn_RX0 : Cond.instantiable RX0 8 ∈ GW := gw_of 225 (by decide +kernel) (by decide +kernel)
theorem gl_RX0_45 : Cond.methodLink RX0 45 yX0_init ∈ GW := gw_of 228 (by decide +kernel) (by decide +kernel)
theorem gm_X0_init : Cond.instanceMethod yX0_init ∈ GW := gw_of 229 (by decide +kernel) (by decide +kernel)
theorem gl_RX0_3 : Cond.methodLink RX0 3 Lib.objectInit ∈ GW := gw_of 231 (by decide +kernel) (by decide +kernel)
theorem gl_RX0_35 : Cond.methodLink RX0 35 yX0_sizeOfPicture ∈ GW := gw_of 232 (by decide +kernel) (by decide +kernel)
theorem gs_X0_sizeOfPicture : Cond.static yX0_sizeOfPicture ∈ GW := gw_of 233 (by decide +kernel) (by decide +kernel)
theorem gl_RX5_46 : Cond.methodLink RX5 46 yX4_carryOut ∈ GW := gw_of 272 (by decide +kernel) (by decide +kernel)
theorem gm_X4_carryOut : Cond.instanceMethod yX4_carryOut ∈ GW := gw_of 273 (by decide +kernel) (by decide +kernel)
theorem ge_X4_carryOut : Cond.selects RX4 yX4_carryOut yX4_carryOut ∈ GW := gw_of 274 (by decide +kernel) (by decide +kernel)
theorem gl_RX4_137 : Cond.methodLink RX4 137 yX4_rowBehind ∈ GW := gw_of 276 (by decide +kernel) (by decide +kernel)
theorem gm_X4_rowBehind : Cond.instanceMethod yX4_rowBehind ∈ GW := gw_of 277 (by decide +kernel) (by decide +kernel)
theorem ge_X4_rowBehind : Cond.selects RX4 yX4_rowBehind yX4_rowBehind ∈ GW := gw_of 278 (by decide +kernel) (by decide +kernel)
theorem gl_RX4_125 : Cond.methodLink RX4 125 ⟨"[I", "clone", "()Ljava/lang/Object;"⟩ ∈ GW := gw_of 280 (by decide +kernel) (by decide +kernel)
theorem gk_RX4_126 : Cond.classLink RX4 126 "[I" ∈ GW := gw_of 286 (by decide +kernel) (by decide +kernel)
theorem gl_RX4_108 : Cond.methodLink RX4 108 yX0_applyTo ∈ GW := gw_of 287 (by decide +kernel) (by decide +kernel)
theorem gm_X0_applyTo : Cond.instanceMethod yX0_applyTo ∈ GW := gw_of 288 (by decide +kernel) (by decide +kernel)
theorem ge_X0_applyTo : Cond.selects RX0 yX0_applyTo yX0_applyTo ∈ GW := gw_of 289 (by decide +kernel) (by decide +kernel)
theorem gl_RX0_52 : Cond.methodLink RX0 52 yX0_turnRow ∈ GW := gw_of 291 (by decide +kernel) (by decide +kernel)
theorem gm_X0_turnRow : Cond.instanceMethod yX0_turnRow ∈ GW := gw_of 293 (by decide +kernel) (by decide +kernel)
theorem gl_RX0_60 : Cond.methodLink RX0 60 yX0_reverse ∈ GW := gw_of 295 (by decide +kernel) (by decide +kernel)
theorem gs_X0_reverse : Cond.static yX0_reverse ∈ GW := gw_of 296 (by decide +kernel) (by decide +kernel)
theorem gl_RX0_56 : Cond.methodLink RX0 56 yX0_valueFor ∈ GW := gw_of 298 (by decide +kernel) (by decide +kernel)
theorem gm_X0_valueFor : Cond.instanceMethod yX0_valueFor ∈ GW := gw_of 300 (by decide +kernel) (by decide +kernel)
theorem gl_RX4_141 : Cond.methodLink RX4 141 yX4_isLoggedAsPicture ∈ GW := gw_of 302 (by decide +kernel) (by decide +kernel)
theorem gm_X4_isLoggedAsPicture : Cond.instanceMethod yX4_isLoggedAsPicture ∈ GW := gw_of 303 (by decide +kernel) (by decide +kernel)
theorem ge_X4_isLoggedAsPicture : Cond.selects RX4 yX4_isLoggedAsPicture yX4_isLoggedAsPicture ∈ GW := gw_of 304 (by decide +kernel) (by decide +kernel)
theorem gl_RX4_87 : Cond.methodLink RX4 87 yX4_timeToRestore ∈ GW := gw_of 306 (by decide +kernel) (by decide +kernel)
theorem gm_X4_timeToRestore : Cond.instanceMethod yX4_timeToRestore ∈ GW := gw_of 307 (by decide +kernel) (by decide +kernel)
theorem ge_X4_timeToRestore : Cond.selects RX4 yX4_timeToRestore yX4_timeToRestore ∈ GW := gw_of 308 (by decide +kernel) (by decide +kernel)
theorem gl_RX4_69 : Cond.methodLink RX4 69 yX1_next ∈ GW := gw_of 310 (by decide +kernel) (by decide +kernel)
theorem gm_X1_next : Cond.instanceMethod yX1_next ∈ GW := gw_of 311 (by decide +kernel) (by decide +kernel)
theorem ge_X1_next : Cond.selects RX1 yX1_next yX1_next ∈ GW := gw_of 312 (by decide +kernel) (by decide +kernel)
theorem gl_RX4_73 : Cond.methodLink RX4 73 yX4_firstNeeded ∈ GW := gw_of 314 (by decide +kernel) (by decide +kernel)
theorem gm_X4_firstNeeded : Cond.instanceMethod yX4_firstNeeded ∈ GW := gw_of 315 (by decide +kernel) (by decide +kernel)
theorem ge_X4_firstNeeded : Cond.selects RX4 yX4_firstNeeded yX4_firstNeeded ∈ GW := gw_of 316 (by decide +kernel) (by decide +kernel)
theorem gl_RX4_51 : Cond.methodLink RX4 51 Lib.Math.max.name ∈ GW := gw_of 318 (by decide +kernel) (by decide +kernel)
theorem gl_RX4_57 : Cond.methodLink RX4 57 yX1_at ∈ GW := gw_of 321 (by decide +kernel) (by decide +kernel)
theorem gm_X1_at : Cond.instanceMethod yX1_at ∈ GW := gw_of 322 (by decide +kernel) (by decide +kernel)
theorem ge_X1_at : Cond.selects RX1 yX1_at yX1_at ∈ GW := gw_of 323 (by decide +kernel) (by decide +kernel)
theorem gl_RX4_83 : Cond.methodLink RX4 83 yX1_timesOf ∈ GW := gw_of 325 (by decide +kernel) (by decide +kernel)
theorem gm_X1_timesOf : Cond.instanceMethod yX1_timesOf ∈ GW := gw_of 326 (by decide +kernel) (by decide +kernel)
theorem ge_X1_timesOf : Cond.selects RX1 yX1_timesOf yX1_timesOf ∈ GW := gw_of 327 (by decide +kernel) (by decide +kernel)
theorem gl_RX1_41 : Cond.methodLink RX1 41 Lib.Math.max.name ∈ GW := gw_of 329 (by decide +kernel) (by decide +kernel)
theorem gl_RX1_34 : Cond.methodLink RX1 34 yX1_at ∈ GW := gw_of 330 (by decide +kernel) (by decide +kernel)
theorem gl_RX1_50 : Cond.methodLink RX1 50 yX0_time ∈ GW := gw_of 331 (by decide +kernel) (by decide +kernel)
theorem gm_X0_time : Cond.instanceMethod yX0_time ∈ GW := gw_of 332 (by decide +kernel) (by decide +kernel)
theorem ge_X0_time : Cond.selects RX0 yX0_time yX0_time ∈ GW := gw_of 333 (by decide +kernel) (by decide +kernel)
theorem gl_RX4_130 : Cond.methodLink RX4 130 yX0_time ∈ GW := gw_of 335 (by decide +kernel) (by decide +kernel)
theorem gl_RX4_133 : Cond.methodLink RX4 133 yX0_sizeOfPicture ∈ GW := gw_of 336 (by decide +kernel) (by decide +kernel)
theorem gl_RX4_145 : Cond.methodLink RX4 145 yX0_ofPicture ∈ GW := gw_of 337 (by decide +kernel) (by decide +kernel)
theorem gs_X0_ofPicture : Cond.static yX0_ofPicture ∈ GW := gw_of 338 (by decide +kernel) (by decide +kernel)
theorem gl_RX4_149 : Cond.methodLink RX4 149 yX4_append ∈ GW := gw_of 340 (by decide +kernel) (by decide +kernel)
theorem gm_X4_append : Cond.instanceMethod yX4_append ∈ GW := gw_of 342 (by decide +kernel) (by decide +kernel)
theorem gl_RX4_159 : Cond.methodLink RX4 159 yX4_dropDownTo ∈ GW := gw_of 344 (by decide +kernel) (by decide +kernel)
theorem gm_X4_dropDownTo : Cond.instanceMethod yX4_dropDownTo ∈ GW := gw_of 345 (by decide +kernel) (by decide +kernel)
theorem ge_X4_dropDownTo : Cond.selects RX4 yX4_dropDownTo yX4_dropDownTo ∈ GW := gw_of 346 (by decide +kernel) (by decide +kernel)
theorem gl_RX4_162 : Cond.methodLink RX4 162 yX1_sizes ∈ GW := gw_of 348 (by decide +kernel) (by decide +kernel)
theorem gm_X1_sizes : Cond.instanceMethod yX1_sizes ∈ GW := gw_of 349 (by decide +kernel) (by decide +kernel)
theorem ge_X1_sizes : Cond.selects RX1 yX1_sizes yX1_sizes ∈ GW := gw_of 350 (by decide +kernel) (by decide +kernel)
theorem gl_RX1_30 : Cond.methodLink RX1 30 yX1_next ∈ GW := gw_of 352 (by decide +kernel) (by decide +kernel)
theorem gl_RX4_79 : Cond.methodLink RX4 79 yX4_isNeeded ∈ GW := gw_of 353 (by decide +kernel) (by decide +kernel)
theorem gm_X4_isNeeded : Cond.instanceMethod yX4_isNeeded ∈ GW := gw_of 354 (by decide +kernel) (by decide +kernel)
theorem ge_X4_isNeeded : Cond.selects RX4 yX4_isNeeded yX4_isNeeded ∈ GW := gw_of 355 (by decide +kernel) (by decide +kernel)
theorem gl_RX4_168 : Cond.methodLink RX4 168 yX4_dropOldest ∈ GW := gw_of 357 (by decide +kernel) (by decide +kernel)
theorem gm_X4_dropOldest : Cond.instanceMethod yX4_dropOldest ∈ GW := gw_of 359 (by decide +kernel) (by decide +kernel)
theorem gl_RX4_171 : Cond.methodLink RX4 171 yX1_dropFirst ∈ GW := gw_of 361 (by decide +kernel) (by decide +kernel)
theorem gm_X1_dropFirst : Cond.instanceMethod yX1_dropFirst ∈ GW := gw_of 362 (by decide +kernel) (by decide +kernel)
theorem ge_X1_dropFirst : Cond.selects RX1 yX1_dropFirst yX1_dropFirst ∈ GW := gw_of 363 (by decide +kernel) (by decide +kernel)
theorem gl_RX4_165 : Cond.methodLink RX4 165 yX1_append ∈ GW := gw_of 365 (by decide +kernel) (by decide +kernel)
theorem gm_X1_append : Cond.instanceMethod yX1_append ∈ GW := gw_of 366 (by decide +kernel) (by decide +kernel)
theorem ge_X1_append : Cond.selects RX1 yX1_append yX1_append ∈ GW := gw_of 367 (by decide +kernel) (by decide +kernel)
theorem gl_RX4_102 : Cond.methodLink RX4 102 arraycopyName ∈ GW := gw_of 369 (by decide +kernel) (by decide +kernel)
theorem gl_RX5_50 : Cond.methodLink RX5 50 yX5_end ∈ GW := gw_of 370 (by decide +kernel) (by decide +kernel)
theorem gm_X5_end : Cond.instanceMethod yX5_end ∈ GW := gw_of 372 (by decide +kernel) (by decide +kernel)
theorem gl_RX5_235 : Cond.methodLink RX5 235 yX5_forgetOldest ∈ GW := gw_of 374 (by decide +kernel) (by decide +kernel)
theorem gm_X5_forgetOldest : Cond.instanceMethod yX5_forgetOldest ∈ GW := gw_of 376 (by decide +kernel) (by decide +kernel)
theorem gl_RL_18 : Cond.methodLink RL 18 yX5_add ∈ GW := gw_of 378 (by decide +kernel) (by decide +kernel)
theorem gm_X5_add : Cond.instanceMethod yX5_add ∈ GW := gw_of 379 (by decide +kernel) (by decide +kernel)
theorem ge_X5_add : Cond.selects RX5 yX5_add yX5_add ∈ GW := gw_of 380 (by decide +kernel) (by decide +kernel)
theorem gl_RL_22 : Cond.methodLink RL 22 yX5_turn ∈ GW := gw_of 382 (by decide +kernel) (by decide +kernel)
theorem gm_X5_turn : Cond.instanceMethod yX5_turn ∈ GW := gw_of 383 (by decide +kernel) (by decide +kernel)
theorem ge_X5_turn : Cond.selects RX5 yX5_turn yX5_turn ∈ GW := gw_of 384 (by decide +kernel) (by decide +kernel)
theorem gl_RX5_54 : Cond.methodLink RX5 54 yX0_ofTurn ∈ GW := gw_of 386 (by decide +kernel) (by decide +kernel)
theorem gs_X0_ofTurn : Cond.static yX0_ofTurn ∈ GW := gw_of 387 (by decide +kernel) (by decide +kernel)
theorem gl_RL_27 : Cond.methodLink RL 27 yX5_renew ∈ GW := gw_of 389 (by decide +kernel) (by decide +kernel)
theorem gm_X5_renew : Cond.instanceMethod yX5_renew ∈ GW := gw_of 390 (by decide +kernel) (by decide +kernel)
theorem ge_X5_renew : Cond.selects RX5 yX5_renew yX5_renew ∈ GW := gw_of 391 (by decide +kernel) (by decide +kernel)
theorem gl_RX5_62 : Cond.methodLink RX5 62 yX1_next ∈ GW := gw_of 393 (by decide +kernel) (by decide +kernel)
theorem gl_RX5_68 : Cond.methodLink RX5 68 yX0_ofRenewal ∈ GW := gw_of 394 (by decide +kernel) (by decide +kernel)
theorem gs_X0_ofRenewal : Cond.static yX0_ofRenewal ∈ GW := gw_of 395 (by decide +kernel) (by decide +kernel)
theorem gl_RX0_48 : Cond.methodLink RX0 48 yX0_ofPicture ∈ GW := gw_of 397 (by decide +kernel) (by decide +kernel)
theorem gl_RL_32 : Cond.methodLink RL 32 yX5_readOrders ∈ GW := gw_of 398 (by decide +kernel) (by decide +kernel)
theorem gm_X5_readOrders : Cond.instanceMethod yX5_readOrders ∈ GW := gw_of 399 (by decide +kernel) (by decide +kernel)
theorem ge_X5_readOrders : Cond.selects RX5 yX5_readOrders yX5_readOrders ∈ GW := gw_of 400 (by decide +kernel) (by decide +kernel)
theorem gk_RX5_72 : Cond.classLink RX5 72 RX3 ∈ GW := gw_of 402 (by decide +kernel) (by decide +kernel)
theorem gn_RX3 : Cond.instantiable RX3 5 ∈ GW := gw_of 403 (by decide +kernel) (by decide +kernel)
theorem gl_RX5_78 : Cond.methodLink RX5 78 yX3_init ∈ GW := gw_of 404 (by decide +kernel) (by decide +kernel)
theorem gm_X3_init : Cond.instanceMethod yX3_init ∈ GW := gw_of 405 (by decide +kernel) (by decide +kernel)
theorem gl_RX3_3 : Cond.methodLink RX3 3 Lib.objectInit ∈ GW := gw_of 407 (by decide +kernel) (by decide +kernel)
theorem gk_RX3_9 : Cond.classLink RX3 9 RX0 ∈ GW := gw_of 408 (by decide +kernel) (by decide +kernel)
theorem gl_RX5_81 : Cond.methodLink RX5 81 yX3_readAll ∈ GW := gw_of 427 (by decide +kernel) (by decide +kernel)
theorem gm_X3_readAll : Cond.instanceMethod yX3_readAll ∈ GW := gw_of 428 (by decide +kernel) (by decide +kernel)
theorem ge_X3_readAll : Cond.selects RX3 yX3_readAll yX3_readAll ∈ GW := gw_of 429 (by decide +kernel) (by decide +kernel)
theorem gl_RX3_28 : Cond.methodLink RX3 28 yX3_readOrder ∈ GW := gw_of 431 (by decide +kernel) (by decide +kernel)
theorem gm_X3_readOrder : Cond.instanceMethod yX3_readOrder ∈ GW := gw_of 433 (by decide +kernel) (by decide +kernel)
theorem gl_RX3_39 : Cond.methodLink RX3 39 yX3_readDigit ∈ GW := gw_of 435 (by decide +kernel) (by decide +kernel)
theorem gm_X3_readDigit : Cond.instanceMethod yX3_readDigit ∈ GW := gw_of 437 (by decide +kernel) (by decide +kernel)
theorem gl_RX3_66 : Cond.methodLink RX3 66 yX3_hasDigit ∈ GW := gw_of 439 (by decide +kernel) (by decide +kernel)
theorem gm_X3_hasDigit : Cond.instanceMethod yX3_hasDigit ∈ GW := gw_of 441 (by decide +kernel) (by decide +kernel)
theorem gl_RX3_35 : Cond.methodLink RX3 35 yX3_readSign ∈ GW := gw_of 443 (by decide +kernel) (by decide +kernel)
theorem gm_X3_readSign : Cond.instanceMethod yX3_readSign ∈ GW := gw_of 445 (by decide +kernel) (by decide +kernel)
theorem gl_RX3_43 : Cond.methodLink RX3 43 yX3_readCells ∈ GW := gw_of 447 (by decide +kernel) (by decide +kernel)
theorem gm_X3_readCells : Cond.instanceMethod yX3_readCells ∈ GW := gw_of 449 (by decide +kernel) (by decide +kernel)
theorem gl_RX3_47 : Cond.methodLink RX3 47 yX3_readNumber ∈ GW := gw_of 451 (by decide +kernel) (by decide +kernel)
theorem gm_X3_readNumber : Cond.instanceMethod yX3_readNumber ∈ GW := gw_of 453 (by decide +kernel) (by decide +kernel)
theorem gl_RX3_62 : Cond.methodLink RX3 62 yX0_ofCells ∈ GW := gw_of 455 (by decide +kernel) (by decide +kernel)
theorem gl_RX3_51 : Cond.methodLink RX3 51 yX0_ofTurn ∈ GW := gw_of 456 (by decide +kernel) (by decide +kernel)
theorem gl_RX3_55 : Cond.methodLink RX3 55 yX3_readRow ∈ GW := gw_of 457 (by decide +kernel) (by decide +kernel)
theorem gm_X3_readRow : Cond.instanceMethod yX3_readRow ∈ GW := gw_of 459 (by decide +kernel) (by decide +kernel)
theorem gl_RX3_70 : Cond.methodLink RX3 70 yJ7_copyOf_59c91 ∈ GW := gw_of 461 (by decide +kernel) (by decide +kernel)
theorem gs_J7_copyOf_59c91 : Cond.static yJ7_copyOf_59c91 ∈ GW := gw_of 462 (by decide +kernel) (by decide +kernel)
theorem gl_RJ7_316 : Cond.methodLink RJ7 316 ⟨"[I", "clone", "()Ljava/lang/Object;"⟩ ∈ GW := gw_of 464 (by decide +kernel) (by decide +kernel)
theorem gk_RJ7_317 : Cond.classLink RJ7 317 "[I" ∈ GW := gw_of 465 (by decide +kernel) (by decide +kernel)
theorem gl_RJ7_304 : Cond.methodLink RJ7 304 Lib.Math.min.name ∈ GW := gw_of 466 (by decide +kernel) (by decide +kernel)
theorem gl_RJ7_150 : Cond.methodLink RJ7 150 arraycopyName ∈ GW := gw_of 469 (by decide +kernel) (by decide +kernel)
theorem gl_RX3_76 : Cond.methodLink RX3 76 yX0_ofRow ∈ GW := gw_of 470 (by decide +kernel) (by decide +kernel)
theorem gs_X0_ofRow : Cond.static yX0_ofRow ∈ GW := gw_of 471 (by decide +kernel) (by decide +kernel)
theorem gl_RX3_59 : Cond.methodLink RX3 59 yX0_ofRenewal ∈ GW := gw_of 473 (by decide +kernel) (by decide +kernel)
theorem gl_RX5_94 : Cond.methodLink RX5 94 yX3_order ∈ GW := gw_of 474 (by decide +kernel) (by decide +kernel)
theorem gm_X3_order : Cond.instanceMethod yX3_order ∈ GW := gw_of 475 (by decide +kernel) (by decide +kernel)
theorem ge_X3_order : Cond.selects RX3 yX3_order yX3_order ∈ GW := gw_of 476 (by decide +kernel) (by decide +kernel)
theorem gl_RL_37 : Cond.methodLink RL 37 yX5_setWay ∈ GW := gw_of 478 (by decide +kernel) (by decide +kernel)
theorem gm_X5_setWay : Cond.instanceMethod yX5_setWay ∈ GW := gw_of 479 (by decide +kernel) (by decide +kernel)
theorem ge_X5_setWay : Cond.selects RX5 yX5_setWay yX5_setWay ∈ GW := gw_of 480 (by decide +kernel) (by decide +kernel)
theorem gl_RX5_97 : Cond.methodLink RX5 97 yX4_changeWay ∈ GW := gw_of 482 (by decide +kernel) (by decide +kernel)
theorem gm_X4_changeWay : Cond.instanceMethod yX4_changeWay ∈ GW := gw_of 483 (by decide +kernel) (by decide +kernel)
theorem ge_X4_changeWay : Cond.selects RX4 yX4_changeWay yX4_changeWay ∈ GW := gw_of 484 (by decide +kernel) (by decide +kernel)
theorem gl_RL_41 : Cond.methodLink RL 41 yX5_setRoom ∈ GW := gw_of 486 (by decide +kernel) (by decide +kernel)
theorem gm_X5_setRoom : Cond.instanceMethod yX5_setRoom ∈ GW := gw_of 487 (by decide +kernel) (by decide +kernel)
theorem ge_X5_setRoom : Cond.selects RX5 yX5_setRoom yX5_setRoom ∈ GW := gw_of 488 (by decide +kernel) (by decide +kernel)
theorem gl_RX5_100 : Cond.methodLink RX5 100 yX4_changeRoom ∈ GW := gw_of 490 (by decide +kernel) (by decide +kernel)
theorem gm_X4_changeRoom : Cond.instanceMethod yX4_changeRoom ∈ GW := gw_of 491 (by decide +kernel) (by decide +kernel)
theorem ge_X4_changeRoom : Cond.selects RX4 yX4_changeRoom yX4_changeRoom ∈ GW := gw_of 492 (by decide +kernel) (by decide +kernel)
theorem gl_RL_45 : Cond.methodLink RL 45 yX5_flush ∈ GW := gw_of 494 (by decide +kernel) (by decide +kernel)
theorem gm_X5_flush : Cond.instanceMethod yX5_flush ∈ GW := gw_of 495 (by decide +kernel) (by decide +kernel)
theorem ge_X5_flush : Cond.selects RX5 yX5_flush yX5_flush ∈ GW := gw_of 496 (by decide +kernel) (by decide +kernel)
theorem gl_RX5_103 : Cond.methodLink RX5 103 yX4_flushAll ∈ GW := gw_of 498 (by decide +kernel) (by decide +kernel)
theorem gm_X4_flushAll : Cond.instanceMethod yX4_flushAll ∈ GW := gw_of 499 (by decide +kernel) (by decide +kernel)
theorem ge_X4_flushAll : Cond.selects RX4 yX4_flushAll yX4_flushAll ∈ GW := gw_of 500 (by decide +kernel) (by decide +kernel)
theorem gl_RL_49 : Cond.methodLink RL 49 yX5_store ∈ GW := gw_of 502 (by decide +kernel) (by decide +kernel)
theorem gm_X5_store : Cond.instanceMethod yX5_store ∈ GW := gw_of 503 (by decide +kernel) (by decide +kernel)
theorem ge_X5_store : Cond.selects RX5 yX5_store yX5_store ∈ GW := gw_of 504 (by decide +kernel) (by decide +kernel)
theorem gl_RX5_106 : Cond.methodLink RX5 106 yX4_storePage ∈ GW := gw_of 506 (by decide +kernel) (by decide +kernel)
theorem gm_X4_storePage : Cond.instanceMethod yX4_storePage ∈ GW := gw_of 507 (by decide +kernel) (by decide +kernel)
theorem ge_X4_storePage : Cond.selects RX4 yX4_storePage yX4_storePage ∈ GW := gw_of 508 (by decide +kernel) (by decide +kernel)
theorem gl_RX4_174 : Cond.methodLink RX4 174 yX1_entriesOf ∈ GW := gw_of 510 (by decide +kernel) (by decide +kernel)
theorem gm_X1_entriesOf : Cond.instanceMethod yX1_entriesOf ∈ GW := gw_of 511 (by decide +kernel) (by decide +kernel)
theorem ge_X1_entriesOf : Cond.selects RX1 yX1_entriesOf yX1_entriesOf ∈ GW := gw_of 512 (by decide +kernel) (by decide +kernel)
theorem gl_RX4_177 : Cond.methodLink RX4 177 yX4_neededEntries ∈ GW := gw_of 514 (by decide +kernel) (by decide +kernel)
theorem gm_X4_neededEntries : Cond.instanceMethod yX4_neededEntries ∈ GW := gw_of 515 (by decide +kernel) (by decide +kernel)
theorem ge_X4_neededEntries : Cond.selects RX4 yX4_neededEntries yX4_neededEntries ∈ GW := gw_of 516 (by decide +kernel) (by decide +kernel)
theorem gl_RL_53 : Cond.methodLink RL 53 yX5_trim ∈ GW := gw_of 518 (by decide +kernel) (by decide +kernel)
theorem gm_X5_trim : Cond.instanceMethod yX5_trim ∈ GW := gw_of 519 (by decide +kernel) (by decide +kernel)
theorem ge_X5_trim : Cond.selects RX5 yX5_trim yX5_trim ∈ GW := gw_of 520 (by decide +kernel) (by decide +kernel)
theorem gl_RX5_109 : Cond.methodLink RX5 109 yX4_dropDownTo ∈ GW := gw_of 522 (by decide +kernel) (by decide +kernel)
theorem gl_RL_57 : Cond.methodLink RL 57 yX5_damage ∈ GW := gw_of 523 (by decide +kernel) (by decide +kernel)
theorem gm_X5_damage : Cond.instanceMethod yX5_damage ∈ GW := gw_of 524 (by decide +kernel) (by decide +kernel)
theorem ge_X5_damage : Cond.selects RX5 yX5_damage yX5_damage ∈ GW := gw_of 525 (by decide +kernel) (by decide +kernel)
theorem gl_RX5_112 : Cond.methodLink RX5 112 yX1_holds ∈ GW := gw_of 527 (by decide +kernel) (by decide +kernel)
theorem gm_X1_holds : Cond.instanceMethod yX1_holds ∈ GW := gw_of 528 (by decide +kernel) (by decide +kernel)
theorem ge_X1_holds : Cond.selects RX1 yX1_holds yX1_holds ∈ GW := gw_of 529 (by decide +kernel) (by decide +kernel)
theorem gl_RX5_115 : Cond.methodLink RX5 115 yX4_harm ∈ GW := gw_of 531 (by decide +kernel) (by decide +kernel)
theorem gm_X4_harm : Cond.instanceMethod yX4_harm ∈ GW := gw_of 532 (by decide +kernel) (by decide +kernel)
theorem ge_X4_harm : Cond.selects RX4 yX4_harm yX4_harm ∈ GW := gw_of 533 (by decide +kernel) (by decide +kernel)
theorem gl_RX4_183 : Cond.methodLink RX4 183 yX0_asDamaged ∈ GW := gw_of 535 (by decide +kernel) (by decide +kernel)
theorem gm_X0_asDamaged : Cond.instanceMethod yX0_asDamaged ∈ GW := gw_of 536 (by decide +kernel) (by decide +kernel)
theorem ge_X0_asDamaged : Cond.selects RX0 yX0_asDamaged yX0_asDamaged ∈ GW := gw_of 537 (by decide +kernel) (by decide +kernel)
theorem gl_RX4_187 : Cond.methodLink RX4 187 yX1_replace ∈ GW := gw_of 539 (by decide +kernel) (by decide +kernel)
theorem gm_X1_replace : Cond.instanceMethod yX1_replace ∈ GW := gw_of 540 (by decide +kernel) (by decide +kernel)
theorem ge_X1_replace : Cond.selects RX1 yX1_replace yX1_replace ∈ GW := gw_of 541 (by decide +kernel) (by decide +kernel)
theorem gl_RX4_191 : Cond.methodLink RX4 191 yX4_needsDamaged ∈ GW := gw_of 543 (by decide +kernel) (by decide +kernel)
theorem gm_X4_needsDamaged : Cond.instanceMethod yX4_needsDamaged ∈ GW := gw_of 544 (by decide +kernel) (by decide +kernel)
theorem ge_X4_needsDamaged : Cond.selects RX4 yX4_needsDamaged yX4_needsDamaged ∈ GW := gw_of 545 (by decide +kernel) (by decide +kernel)
theorem gl_RX4_95 : Cond.methodLink RX4 95 yX1_firstDamaged ∈ GW := gw_of 547 (by decide +kernel) (by decide +kernel)
theorem gm_X1_firstDamaged : Cond.instanceMethod yX1_firstDamaged ∈ GW := gw_of 548 (by decide +kernel) (by decide +kernel)
theorem ge_X1_firstDamaged : Cond.selects RX1 yX1_firstDamaged yX1_firstDamaged ∈ GW := gw_of 549 (by decide +kernel) (by decide +kernel)
theorem gl_RL_61 : Cond.methodLink RL 61 yX5_crash ∈ GW := gw_of 551 (by decide +kernel) (by decide +kernel)
theorem gm_X5_crash : Cond.instanceMethod yX5_crash ∈ GW := gw_of 552 (by decide +kernel) (by decide +kernel)
theorem ge_X5_crash : Cond.selects RX5 yX5_crash yX5_crash ∈ GW := gw_of 553 (by decide +kernel) (by decide +kernel)
theorem gl_RX5_118 : Cond.methodLink RX5 118 yX4_breakDown ∈ GW := gw_of 555 (by decide +kernel) (by decide +kernel)
theorem gm_X4_breakDown : Cond.instanceMethod yX4_breakDown ∈ GW := gw_of 556 (by decide +kernel) (by decide +kernel)
theorem ge_X4_breakDown : Cond.selects RX4 yX4_breakDown yX4_breakDown ∈ GW := gw_of 557 (by decide +kernel) (by decide +kernel)
theorem gl_RX4_194 : Cond.methodLink RX4 194 yX1_loseUnflushed ∈ GW := gw_of 559 (by decide +kernel) (by decide +kernel)
theorem gm_X1_loseUnflushed : Cond.instanceMethod yX1_loseUnflushed ∈ GW := gw_of 560 (by decide +kernel) (by decide +kernel)
theorem ge_X1_loseUnflushed : Cond.selects RX1 yX1_loseUnflushed yX1_loseUnflushed ∈ GW := gw_of 561 (by decide +kernel) (by decide +kernel)
theorem gl_RX4_197 : Cond.methodLink RX4 197 yX4_endOfSound ∈ GW := gw_of 563 (by decide +kernel) (by decide +kernel)
theorem gm_X4_endOfSound : Cond.instanceMethod yX4_endOfSound ∈ GW := gw_of 565 (by decide +kernel) (by decide +kernel)
theorem gl_RX4_118 : Cond.methodLink RX4 118 yX4_replay ∈ GW := gw_of 567 (by decide +kernel) (by decide +kernel)
theorem gm_X4_replay : Cond.instanceMethod yX4_replay ∈ GW := gw_of 569 (by decide +kernel) (by decide +kernel)
theorem gl_RL_65 : Cond.methodLink RL 65 yX5_type ∈ GW := gw_of 571 (by decide +kernel) (by decide +kernel)
theorem gm_X5_type : Cond.instanceMethod yX5_type ∈ GW := gw_of 572 (by decide +kernel) (by decide +kernel)
theorem ge_X5_type : Cond.selects RX5 yX5_type yX5_type ∈ GW := gw_of 573 (by decide +kernel) (by decide +kernel)
theorem gl_RL_70 : Cond.methodLink RL 70 yX5_clearText ∈ GW := gw_of 575 (by decide +kernel) (by decide +kernel)
theorem gm_X5_clearText : Cond.instanceMethod yX5_clearText ∈ GW := gw_of 576 (by decide +kernel) (by decide +kernel)
theorem ge_X5_clearText : Cond.selects RX5 yX5_clearText yX5_clearText ∈ GW := gw_of 577 (by decide +kernel) (by decide +kernel)
theorem gl_RL_74 : Cond.methodLink RL 74 yX5_undo ∈ GW := gw_of 579 (by decide +kernel) (by decide +kernel)
theorem gm_X5_undo : Cond.instanceMethod yX5_undo ∈ GW := gw_of 580 (by decide +kernel) (by decide +kernel)
theorem ge_X5_undo : Cond.selects RX5 yX5_undo yX5_undo ∈ GW := gw_of 581 (by decide +kernel) (by decide +kernel)
theorem gl_RL_78 : Cond.methodLink RL 78 yX5_keep ∈ GW := gw_of 583 (by decide +kernel) (by decide +kernel)
theorem gm_X5_keep : Cond.instanceMethod yX5_keep ∈ GW := gw_of 584 (by decide +kernel) (by decide +kernel)
theorem ge_X5_keep : Cond.selects RX5 yX5_keep yX5_keep ∈ GW := gw_of 585 (by decide +kernel) (by decide +kernel)
theorem gl_RL_82 : Cond.methodLink RL 82 yX5_restore ∈ GW := gw_of 587 (by decide +kernel) (by decide +kernel)
theorem gm_X5_restore : Cond.instanceMethod yX5_restore ∈ GW := gw_of 588 (by decide +kernel) (by decide +kernel)
theorem ge_X5_restore : Cond.selects RX5 yX5_restore yX5_restore ∈ GW := gw_of 589 (by decide +kernel) (by decide +kernel)
theorem gl_RL_86 : Cond.methodLink RL 86 yX5_cell ∈ GW := gw_of 591 (by decide +kernel) (by decide +kernel)
theorem gm_X5_cell : Cond.instanceMethod yX5_cell ∈ GW := gw_of 592 (by decide +kernel) (by decide +kernel)
theorem ge_X5_cell : Cond.selects RX5 yX5_cell yX5_cell ∈ GW := gw_of 593 (by decide +kernel) (by decide +kernel)
theorem gl_RL_90 : Cond.methodLink RL 90 yX5_page ∈ GW := gw_of 595 (by decide +kernel) (by decide +kernel)
theorem gm_X5_page : Cond.instanceMethod yX5_page ∈ GW := gw_of 596 (by decide +kernel) (by decide +kernel)
theorem ge_X5_page : Cond.selects RX5 yX5_page yX5_page ∈ GW := gw_of 597 (by decide +kernel) (by decide +kernel)
theorem gl_RX5_142 : Cond.methodLink RX5 142 yX4_firstNeeded ∈ GW := gw_of 599 (by decide +kernel) (by decide +kernel)
theorem gl_RX5_146 : Cond.methodLink RX5 146 yX4_timeToRestore ∈ GW := gw_of 600 (by decide +kernel) (by decide +kernel)
theorem gl_RX5_149 : Cond.methodLink RX5 149 yX1_entriesOf ∈ GW := gw_of 601 (by decide +kernel) (by decide +kernel)
theorem gl_RX5_159 : Cond.methodLink RX5 159 yX5_asNumber ∈ GW := gw_of 602 (by decide +kernel) (by decide +kernel)
theorem gs_X5_asNumber : Cond.static yX5_asNumber ∈ GW := gw_of 603 (by decide +kernel) (by decide +kernel)
theorem gl_RX5_163 : Cond.methodLink RX5 163 yX4_needsDamaged ∈ GW := gw_of 605 (by decide +kernel) (by decide +kernel)
theorem gl_RX5_166 : Cond.methodLink RX5 166 yX0_sizeOfPicture ∈ GW := gw_of 606 (by decide +kernel) (by decide +kernel)
theorem gl_RL_94 : Cond.methodLink RL 94 yX5_stored ∈ GW := gw_of 607 (by decide +kernel) (by decide +kernel)
theorem gm_X5_stored : Cond.instanceMethod yX5_stored ∈ GW := gw_of 608 (by decide +kernel) (by decide +kernel)
theorem ge_X5_stored : Cond.selects RX5 yX5_stored yX5_stored ∈ GW := gw_of 609 (by decide +kernel) (by decide +kernel)
theorem gl_RL_98 : Cond.methodLink RL 98 yX5_entry ∈ GW := gw_of 611 (by decide +kernel) (by decide +kernel)
theorem gm_X5_entry : Cond.instanceMethod yX5_entry ∈ GW := gw_of 612 (by decide +kernel) (by decide +kernel)
theorem ge_X5_entry : Cond.selects RX5 yX5_entry yX5_entry ∈ GW := gw_of 613 (by decide +kernel) (by decide +kernel)
theorem gl_RX5_173 : Cond.methodLink RX5 173 yX1_at ∈ GW := gw_of 615 (by decide +kernel) (by decide +kernel)
theorem gl_RX5_184 : Cond.methodLink RX5 184 yX0_time ∈ GW := gw_of 616 (by decide +kernel) (by decide +kernel)
theorem gl_RX5_187 : Cond.methodLink RX5 187 yX4_isNeeded ∈ GW := gw_of 617 (by decide +kernel) (by decide +kernel)
theorem gl_RL_102 : Cond.methodLink RL 102 yX5_asOf ∈ GW := gw_of 618 (by decide +kernel) (by decide +kernel)
theorem gm_X5_asOf : Cond.instanceMethod yX5_asOf ∈ GW := gw_of 619 (by decide +kernel) (by decide +kernel)
theorem ge_X5_asOf : Cond.selects RX5 yX5_asOf yX5_asOf ∈ GW := gw_of 620 (by decide +kernel) (by decide +kernel)
theorem gl_RX5_196 : Cond.methodLink RX5 196 yX4_bringBackAsOf ∈ GW := gw_of 622 (by decide +kernel) (by decide +kernel)
theorem gm_X4_bringBackAsOf : Cond.instanceMethod yX4_bringBackAsOf ∈ GW := gw_of 623 (by decide +kernel) (by decide +kernel)
theorem ge_X4_bringBackAsOf : Cond.selects RX4 yX4_bringBackAsOf yX4_bringBackAsOf ∈ GW := gw_of 624 (by decide +kernel) (by decide +kernel)
theorem gl_RX4_112 : Cond.methodLink RX4 112 yX1_latestPicture ∈ GW := gw_of 626 (by decide +kernel) (by decide +kernel)
theorem gm_X1_latestPicture : Cond.instanceMethod yX1_latestPicture ∈ GW := gw_of 627 (by decide +kernel) (by decide +kernel)
theorem ge_X1_latestPicture : Cond.selects RX1 yX1_latestPicture yX1_latestPicture ∈ GW := gw_of 628 (by decide +kernel) (by decide +kernel)
theorem gl_RL_107 : Cond.methodLink RL 107 yX5_wouldLog ∈ GW := gw_of 630 (by decide +kernel) (by decide +kernel)
theorem gm_X5_wouldLog : Cond.instanceMethod yX5_wouldLog ∈ GW := gw_of 631 (by decide +kernel) (by decide +kernel)
theorem ge_X5_wouldLog : Cond.selects RX5 yX5_wouldLog yX5_wouldLog ∈ GW := gw_of 632 (by decide +kernel) (by decide +kernel)
theorem gl_RX5_200 : Cond.methodLink RX5 200 yX4_rowBehind ∈ GW := gw_of 634 (by decide +kernel) (by decide +kernel)
theorem gl_RX5_204 : Cond.methodLink RX5 204 yX4_isLoggedAsPicture ∈ GW := gw_of 635 (by decide +kernel) (by decide +kernel)
theorem gl_RL_111 : Cond.methodLink RL 111 yX5_bestRenewed ∈ GW := gw_of 636 (by decide +kernel) (by decide +kernel)
theorem gm_X5_bestRenewed : Cond.instanceMethod yX5_bestRenewed ∈ GW := gw_of 637 (by decide +kernel) (by decide +kernel)
theorem ge_X5_bestRenewed : Cond.selects RX5 yX5_bestRenewed yX5_bestRenewed ∈ GW := gw_of 638 (by decide +kernel) (by decide +kernel)
theorem gl_RL_115 : Cond.methodLink RL 115 yX5_count ∈ GW := gw_of 640 (by decide +kernel) (by decide +kernel)
theorem gm_X5_count : Cond.instanceMethod yX5_count ∈ GW := gw_of 641 (by decide +kernel) (by decide +kernel)
theorem ge_X5_count : Cond.selects RX5 yX5_count yX5_count ∈ GW := gw_of 642 (by decide +kernel) (by decide +kernel)
theorem gl_RX5_211 : Cond.methodLink RX5 211 yX1_sizes ∈ GW := gw_of 644 (by decide +kernel) (by decide +kernel)
theorem gl_RX5_220 : Cond.methodLink RX5 220 yX4_neededEntries ∈ GW := gw_of 645 (by decide +kernel) (by decide +kernel)
theorem gl_RX5_223 : Cond.methodLink RX5 223 yX4_timeToRestoreAll ∈ GW := gw_of 646 (by decide +kernel) (by decide +kernel)
theorem gm_X4_timeToRestoreAll : Cond.instanceMethod yX4_timeToRestoreAll ∈ GW := gw_of 647 (by decide +kernel) (by decide +kernel)
theorem ge_X4_timeToRestoreAll : Cond.selects RX4 yX4_timeToRestoreAll yX4_timeToRestoreAll ∈ GW := gw_of 648 (by decide +kernel) (by decide +kernel)
theorem gl_RX5_226 : Cond.methodLink RX5 226 yX4_doubtfulPages ∈ GW := gw_of 650 (by decide +kernel) (by decide +kernel)
theorem gm_X4_doubtfulPages : Cond.instanceMethod yX4_doubtfulPages ∈ GW := gw_of 651 (by decide +kernel) (by decide +kernel)
theorem ge_X4_doubtfulPages : Cond.selects RX4 yX4_doubtfulPages yX4_doubtfulPages ∈ GW := gw_of 652 (by decide +kernel) (by decide +kernel)
theorem gk_RL_10 : Cond.classLink RL 10 RX6 ∈ GW := gw_of 654 (by decide +kernel) (by decide +kernel)
theorem gn_RX6 : Cond.instantiable RX6 12 ∈ GW := gw_of 655 (by decide +kernel) (by decide +kernel)
theorem gl_RL_12 : Cond.methodLink RL 12 yX6_init ∈ GW := gw_of 656 (by decide +kernel) (by decide +kernel)
theorem gm_X6_init : Cond.instanceMethod yX6_init ∈ GW := gw_of 657 (by decide +kernel) (by decide +kernel)
theorem gl_RX6_1 : Cond.methodLink RX6 1 Lib.objectInit ∈ GW := gw_of 659 (by decide +kernel) (by decide +kernel)
theorem gl_RL_77 : Cond.methodLink RL 77 yX6_undo ∈ GW := gw_of 697 (by decide +kernel) (by decide +kernel)
theorem gm_X6_undo : Cond.instanceMethod yX6_undo ∈ GW := gw_of 698 (by decide +kernel) (by decide +kernel)
theorem ge_X6_undo : Cond.selects RX6 yX6_undo yX6_undo ∈ GW := gw_of 699 (by decide +kernel) (by decide +kernel)
theorem gl_RX6_43 : Cond.methodLink RX6 43 yX6_lays ∈ GW := gw_of 701 (by decide +kernel) (by decide +kernel)
theorem gs_X6_lays : Cond.static yX6_lays ∈ GW := gw_of 702 (by decide +kernel) (by decide +kernel)
theorem gl_RL_81 : Cond.methodLink RL 81 yX6_keep ∈ GW := gw_of 704 (by decide +kernel) (by decide +kernel)
theorem gm_X6_keep : Cond.instanceMethod yX6_keep ∈ GW := gw_of 705 (by decide +kernel) (by decide +kernel)
theorem ge_X6_keep : Cond.selects RX6 yX6_keep yX6_keep ∈ GW := gw_of 706 (by decide +kernel) (by decide +kernel)
theorem gl_RL_85 : Cond.methodLink RL 85 yX6_restore ∈ GW := gw_of 708 (by decide +kernel) (by decide +kernel)
theorem gm_X6_restore : Cond.instanceMethod yX6_restore ∈ GW := gw_of 709 (by decide +kernel) (by decide +kernel)
theorem ge_X6_restore : Cond.selects RX6 yX6_restore yX6_restore ∈ GW := gw_of 710 (by decide +kernel) (by decide +kernel)
theorem gl_RX6_51 : Cond.methodLink RX6 51 yX6_records ∈ GW := gw_of 712 (by decide +kernel) (by decide +kernel)
theorem gm_X6_records : Cond.instanceMethod yX6_records ∈ GW := gw_of 714 (by decide +kernel) (by decide +kernel)
theorem gl_RL_17 : Cond.methodLink RL 17 yX6_fill ∈ GW := gw_of 716 (by decide +kernel) (by decide +kernel)
theorem gm_X6_fill : Cond.instanceMethod yX6_fill ∈ GW := gw_of 717 (by decide +kernel) (by decide +kernel)
theorem ge_X6_fill : Cond.selects RX6 yX6_fill yX6_fill ∈ GW := gw_of 718 (by decide +kernel) (by decide +kernel)
theorem gl_RX6_125 : Cond.methodLink RX6 125 yX6_isPage ∈ GW := gw_of 720 (by decide +kernel) (by decide +kernel)
theorem gs_X6_isPage : Cond.static yX6_isPage ∈ GW := gw_of 721 (by decide +kernel) (by decide +kernel)
theorem gl_RX6_35 : Cond.methodLink RX6 35 yX6_in ∈ GW := gw_of 723 (by decide +kernel) (by decide +kernel)
theorem gs_X6_in : Cond.static yX6_in ∈ GW := gw_of 724 (by decide +kernel) (by decide +kernel)
theorem gl_RX6_128 : Cond.methodLink RX6 128 yX6_isCell ∈ GW := gw_of 726 (by decide +kernel) (by decide +kernel)
theorem gs_X6_isCell : Cond.static yX6_isCell ∈ GW := gw_of 727 (by decide +kernel) (by decide +kernel)
theorem gl_RX6_102 : Cond.methodLink RX6 102 yX6_makes ∈ GW := gw_of 729 (by decide +kernel) (by decide +kernel)
theorem gm_X6_makes : Cond.instanceMethod yX6_makes ∈ GW := gw_of 731 (by decide +kernel) (by decide +kernel)
theorem gl_RX6_131 : Cond.methodLink RX6 131 yX6_acts ∈ GW := gw_of 733 (by decide +kernel) (by decide +kernel)
theorem gm_X6_acts : Cond.instanceMethod yX6_acts ∈ GW := gw_of 735 (by decide +kernel) (by decide +kernel)
theorem gl_RX6_115 : Cond.methodLink RX6 115 yX6_chooses ∈ GW := gw_of 737 (by decide +kernel) (by decide +kernel)
theorem gm_X6_chooses : Cond.instanceMethod yX6_chooses ∈ GW := gw_of 739 (by decide +kernel) (by decide +kernel)
theorem gl_RX6_83 : Cond.methodLink RX6 83 yX6_holds ∈ GW := gw_of 741 (by decide +kernel) (by decide +kernel)
theorem gm_X6_holds : Cond.instanceMethod yX6_holds ∈ GW := gw_of 743 (by decide +kernel) (by decide +kernel)
theorem gl_RX6_95 : Cond.methodLink RX6 95 yX6_timeOf ∈ GW := gw_of 745 (by decide +kernel) (by decide +kernel)
theorem gm_X6_timeOf : Cond.instanceMethod yX6_timeOf ∈ GW := gw_of 747 (by decide +kernel) (by decide +kernel)
theorem gl_RX6_70 : Cond.methodLink RX6 70 yX6_start ∈ GW := gw_of 749 (by decide +kernel) (by decide +kernel)
theorem gm_X6_start : Cond.instanceMethod yX6_start ∈ GW := gw_of 751 (by decide +kernel) (by decide +kernel)
theorem gl_RX6_66 : Cond.methodLink RX6 66 yX6_of ∈ GW := gw_of 753 (by decide +kernel) (by decide +kernel)
theorem gm_X6_of : Cond.instanceMethod yX6_of ∈ GW := gw_of 755 (by decide +kernel) (by decide +kernel)
theorem gl_RX6_55 : Cond.methodLink RX6 55 yX6_at ∈ GW := gw_of 757 (by decide +kernel) (by decide +kernel)
theorem gm_X6_at : Cond.instanceMethod yX6_at ∈ GW := gw_of 759 (by decide +kernel) (by decide +kernel)
theorem gl_RX6_73 : Cond.methodLink RX6 73 yX6_needs ∈ GW := gw_of 761 (by decide +kernel) (by decide +kernel)
theorem gm_X6_needs : Cond.instanceMethod yX6_needs ∈ GW := gw_of 763 (by decide +kernel) (by decide +kernel)
theorem gl_RX6_80 : Cond.methodLink RX6 80 yX6_timeAt ∈ GW := gw_of 765 (by decide +kernel) (by decide +kernel)
theorem gs_X6_timeAt : Cond.static yX6_timeAt ∈ GW := gw_of 766 (by decide +kernel) (by decide +kernel)
theorem gl_RX6_63 : Cond.methodLink RX6 63 yX6_sizeAt ∈ GW := gw_of 768 (by decide +kernel) (by decide +kernel)
theorem gs_X6_sizeAt : Cond.static yX6_sizeAt ∈ GW := gw_of 769 (by decide +kernel) (by decide +kernel)
theorem gl_RX6_59 : Cond.methodLink RX6 59 yX6_pictured ∈ GW := gw_of 771 (by decide +kernel) (by decide +kernel)
theorem gs_X6_pictured : Cond.static yX6_pictured ∈ GW := gw_of 772 (by decide +kernel) (by decide +kernel)
theorem gl_RX6_87 : Cond.methodLink RX6 87 yX6_applies ∈ GW := gw_of 774 (by decide +kernel) (by decide +kernel)
theorem gm_X6_applies : Cond.instanceMethod yX6_applies ∈ GW := gw_of 776 (by decide +kernel) (by decide +kernel)
theorem gl_RX6_98 : Cond.methodLink RX6 98 yX6_pictures ∈ GW := gw_of 778 (by decide +kernel) (by decide +kernel)
theorem gm_X6_pictures : Cond.instanceMethod yX6_pictures ∈ GW := gw_of 780 (by decide +kernel) (by decide +kernel)
theorem gl_RX6_118 : Cond.methodLink RX6 118 yX6_hasRoom ∈ GW := gw_of 782 (by decide +kernel) (by decide +kernel)
theorem gm_X6_hasRoom : Cond.instanceMethod yX6_hasRoom ∈ GW := gw_of 784 (by decide +kernel) (by decide +kernel)
theorem gl_RX6_106 : Cond.methodLink RX6 106 yX6_droppable ∈ GW := gw_of 786 (by decide +kernel) (by decide +kernel)
theorem gm_X6_droppable : Cond.instanceMethod yX6_droppable ∈ GW := gw_of 788 (by decide +kernel) (by decide +kernel)
theorem gl_RX6_91 : Cond.methodLink RX6 91 yX6_used ∈ GW := gw_of 790 (by decide +kernel) (by decide +kernel)
theorem gm_X6_used : Cond.instanceMethod yX6_used ∈ GW := gw_of 792 (by decide +kernel) (by decide +kernel)
theorem gl_RX6_76 : Cond.methodLink RX6 76 yX6_isNeeded ∈ GW := gw_of 794 (by decide +kernel) (by decide +kernel)
theorem gm_X6_isNeeded : Cond.instanceMethod yX6_isNeeded ∈ GW := gw_of 796 (by decide +kernel) (by decide +kernel)
theorem gl_RX6_109 : Cond.methodLink RX6 109 yX6_usedWithout ∈ GW := gw_of 798 (by decide +kernel) (by decide +kernel)
theorem gm_X6_usedWithout : Cond.instanceMethod yX6_usedWithout ∈ GW := gw_of 800 (by decide +kernel) (by decide +kernel)
theorem gl_RX6_122 : Cond.methodLink RX6 122 yX6_logs ∈ GW := gw_of 802 (by decide +kernel) (by decide +kernel)
theorem gm_X6_logs : Cond.instanceMethod yX6_logs ∈ GW := gw_of 804 (by decide +kernel) (by decide +kernel)
theorem gl_RX6_112 : Cond.methodLink RX6 112 yX6_drops ∈ GW := gw_of 806 (by decide +kernel) (by decide +kernel)
theorem gm_X6_drops : Cond.instanceMethod yX6_drops ∈ GW := gw_of 808 (by decide +kernel) (by decide +kernel)
theorem gl_RL_21 : Cond.methodLink RL 21 yX6_add ∈ GW := gw_of 810 (by decide +kernel) (by decide +kernel)
theorem gm_X6_add : Cond.instanceMethod yX6_add ∈ GW := gw_of 811 (by decide +kernel) (by decide +kernel)
theorem ge_X6_add : Cond.selects RX6 yX6_add yX6_add ∈ GW := gw_of 812 (by decide +kernel) (by decide +kernel)
theorem gl_RL_26 : Cond.methodLink RL 26 yX6_turn ∈ GW := gw_of 814 (by decide +kernel) (by decide +kernel)
theorem gm_X6_turn : Cond.instanceMethod yX6_turn ∈ GW := gw_of 815 (by decide +kernel) (by decide +kernel)
theorem ge_X6_turn : Cond.selects RX6 yX6_turn yX6_turn ∈ GW := gw_of 816 (by decide +kernel) (by decide +kernel)
theorem gl_RL_31 : Cond.methodLink RL 31 yX6_renew ∈ GW := gw_of 818 (by decide +kernel) (by decide +kernel)
theorem gm_X6_renew : Cond.instanceMethod yX6_renew ∈ GW := gw_of 819 (by decide +kernel) (by decide +kernel)
theorem ge_X6_renew : Cond.selects RX6 yX6_renew yX6_renew ∈ GW := gw_of 820 (by decide +kernel) (by decide +kernel)
theorem gl_RL_69 : Cond.methodLink RL 69 yX6_type ∈ GW := gw_of 822 (by decide +kernel) (by decide +kernel)
theorem gm_X6_type : Cond.instanceMethod yX6_type ∈ GW := gw_of 823 (by decide +kernel) (by decide +kernel)
theorem ge_X6_type : Cond.selects RX6 yX6_type yX6_type ∈ GW := gw_of 824 (by decide +kernel) (by decide +kernel)
theorem gl_RL_73 : Cond.methodLink RL 73 yX6_clearText ∈ GW := gw_of 826 (by decide +kernel) (by decide +kernel)
theorem gm_X6_clearText : Cond.instanceMethod yX6_clearText ∈ GW := gw_of 827 (by decide +kernel) (by decide +kernel)
theorem ge_X6_clearText : Cond.selects RX6 yX6_clearText yX6_clearText ∈ GW := gw_of 828 (by decide +kernel) (by decide +kernel)
theorem gl_RL_36 : Cond.methodLink RL 36 yX6_readOrders ∈ GW := gw_of 830 (by decide +kernel) (by decide +kernel)
theorem gm_X6_readOrders : Cond.instanceMethod yX6_readOrders ∈ GW := gw_of 831 (by decide +kernel) (by decide +kernel)
theorem ge_X6_readOrders : Cond.selects RX6 yX6_readOrders yX6_readOrders ∈ GW := gw_of 832 (by decide +kernel) (by decide +kernel)
theorem gl_RX6_165 : Cond.methodLink RX6 165 yX6_isText ∈ GW := gw_of 834 (by decide +kernel) (by decide +kernel)
theorem gm_X6_isText : Cond.instanceMethod yX6_isText ∈ GW := gw_of 836 (by decide +kernel) (by decide +kernel)
theorem gl_RX6_162 : Cond.methodLink RX6 162 yX6_readsOrder ∈ GW := gw_of 838 (by decide +kernel) (by decide +kernel)
theorem gm_X6_readsOrder : Cond.instanceMethod yX6_readsOrder ∈ GW := gw_of 840 (by decide +kernel) (by decide +kernel)
theorem gl_RX6_140 : Cond.methodLink RX6 140 yX6_sees ∈ GW := gw_of 842 (by decide +kernel) (by decide +kernel)
theorem gm_X6_sees : Cond.instanceMethod yX6_sees ∈ GW := gw_of 844 (by decide +kernel) (by decide +kernel)
theorem gl_RX6_152 : Cond.methodLink RX6 152 yX6_digit ∈ GW := gw_of 846 (by decide +kernel) (by decide +kernel)
theorem gm_X6_digit : Cond.instanceMethod yX6_digit ∈ GW := gw_of 848 (by decide +kernel) (by decide +kernel)
theorem gl_RX6_148 : Cond.methodLink RX6 148 yX6_takes ∈ GW := gw_of 850 (by decide +kernel) (by decide +kernel)
theorem gm_X6_takes : Cond.instanceMethod yX6_takes ∈ GW := gw_of 852 (by decide +kernel) (by decide +kernel)
theorem gl_RX6_155 : Cond.methodLink RX6 155 yX6_readsCells ∈ GW := gw_of 854 (by decide +kernel) (by decide +kernel)
theorem gm_X6_readsCells : Cond.instanceMethod yX6_readsCells ∈ GW := gw_of 856 (by decide +kernel) (by decide +kernel)
theorem gl_RX6_144 : Cond.methodLink RX6 144 yX6_number ∈ GW := gw_of 858 (by decide +kernel) (by decide +kernel)
theorem gm_X6_number : Cond.instanceMethod yX6_number ∈ GW := gw_of 860 (by decide +kernel) (by decide +kernel)
theorem gl_RX6_159 : Cond.methodLink RX6 159 yX6_readsRow ∈ GW := gw_of 862 (by decide +kernel) (by decide +kernel)
theorem gm_X6_readsRow : Cond.instanceMethod yX6_readsRow ∈ GW := gw_of 864 (by decide +kernel) (by decide +kernel)
theorem gl_RX6_168 : Cond.methodLink RX6 168 yX6_does ∈ GW := gw_of 866 (by decide +kernel) (by decide +kernel)
theorem gm_X6_does : Cond.instanceMethod yX6_does ∈ GW := gw_of 868 (by decide +kernel) (by decide +kernel)
theorem gl_RL_40 : Cond.methodLink RL 40 yX6_setWay ∈ GW := gw_of 870 (by decide +kernel) (by decide +kernel)
theorem gm_X6_setWay : Cond.instanceMethod yX6_setWay ∈ GW := gw_of 871 (by decide +kernel) (by decide +kernel)
theorem ge_X6_setWay : Cond.selects RX6 yX6_setWay yX6_setWay ∈ GW := gw_of 872 (by decide +kernel) (by decide +kernel)
theorem gl_RL_44 : Cond.methodLink RL 44 yX6_setRoom ∈ GW := gw_of 874 (by decide +kernel) (by decide +kernel)
theorem gm_X6_setRoom : Cond.instanceMethod yX6_setRoom ∈ GW := gw_of 875 (by decide +kernel) (by decide +kernel)
theorem ge_X6_setRoom : Cond.selects RX6 yX6_setRoom yX6_setRoom ∈ GW := gw_of 876 (by decide +kernel) (by decide +kernel)
theorem gl_RL_48 : Cond.methodLink RL 48 yX6_flush ∈ GW := gw_of 878 (by decide +kernel) (by decide +kernel)
theorem gm_X6_flush : Cond.instanceMethod yX6_flush ∈ GW := gw_of 879 (by decide +kernel) (by decide +kernel)
theorem ge_X6_flush : Cond.selects RX6 yX6_flush yX6_flush ∈ GW := gw_of 880 (by decide +kernel) (by decide +kernel)
theorem gl_RL_52 : Cond.methodLink RL 52 yX6_store ∈ GW := gw_of 882 (by decide +kernel) (by decide +kernel)
theorem gm_X6_store : Cond.instanceMethod yX6_store ∈ GW := gw_of 883 (by decide +kernel) (by decide +kernel)
theorem ge_X6_store : Cond.selects RX6 yX6_store yX6_store ∈ GW := gw_of 884 (by decide +kernel) (by decide +kernel)
theorem gl_RX6_171 : Cond.methodLink RX6 171 yX6_neededMany ∈ GW := gw_of 886 (by decide +kernel) (by decide +kernel)
theorem gm_X6_neededMany : Cond.instanceMethod yX6_neededMany ∈ GW := gw_of 888 (by decide +kernel) (by decide +kernel)
theorem gl_RL_56 : Cond.methodLink RL 56 yX6_trim ∈ GW := gw_of 890 (by decide +kernel) (by decide +kernel)
theorem gm_X6_trim : Cond.instanceMethod yX6_trim ∈ GW := gw_of 891 (by decide +kernel) (by decide +kernel)
theorem ge_X6_trim : Cond.selects RX6 yX6_trim yX6_trim ∈ GW := gw_of 892 (by decide +kernel) (by decide +kernel)
theorem gl_RL_60 : Cond.methodLink RL 60 yX6_damage ∈ GW := gw_of 894 (by decide +kernel) (by decide +kernel)
theorem gm_X6_damage : Cond.instanceMethod yX6_damage ∈ GW := gw_of 895 (by decide +kernel) (by decide +kernel)
theorem ge_X6_damage : Cond.selects RX6 yX6_damage yX6_damage ∈ GW := gw_of 896 (by decide +kernel) (by decide +kernel)
theorem gl_RX6_174 : Cond.methodLink RX6 174 yX6_isHeld ∈ GW := gw_of 898 (by decide +kernel) (by decide +kernel)
theorem gm_X6_isHeld : Cond.instanceMethod yX6_isHeld ∈ GW := gw_of 900 (by decide +kernel) (by decide +kernel)
theorem gl_RX6_177 : Cond.methodLink RX6 177 yX6_firstDamaged ∈ GW := gw_of 902 (by decide +kernel) (by decide +kernel)
theorem gm_X6_firstDamaged : Cond.instanceMethod yX6_firstDamaged ∈ GW := gw_of 904 (by decide +kernel) (by decide +kernel)
theorem gl_RL_64 : Cond.methodLink RL 64 yX6_crash ∈ GW := gw_of 906 (by decide +kernel) (by decide +kernel)
theorem gm_X6_crash : Cond.instanceMethod yX6_crash ∈ GW := gw_of 907 (by decide +kernel) (by decide +kernel)
theorem ge_X6_crash : Cond.selects RX6 yX6_crash yX6_crash ∈ GW := gw_of 908 (by decide +kernel) (by decide +kernel)
theorem gl_RX6_183 : Cond.methodLink RX6 183 yX6_comesBack ∈ GW := gw_of 910 (by decide +kernel) (by decide +kernel)
theorem gm_X6_comesBack : Cond.instanceMethod yX6_comesBack ∈ GW := gw_of 912 (by decide +kernel) (by decide +kernel)
theorem gl_RX6_180 : Cond.methodLink RX6 180 yX6_restores ∈ GW := gw_of 914 (by decide +kernel) (by decide +kernel)
theorem gm_X6_restores : Cond.instanceMethod yX6_restores ∈ GW := gw_of 916 (by decide +kernel) (by decide +kernel)
theorem gl_RL_89 : Cond.methodLink RL 89 yX6_cell ∈ GW := gw_of 918 (by decide +kernel) (by decide +kernel)
theorem gm_X6_cell : Cond.instanceMethod yX6_cell ∈ GW := gw_of 919 (by decide +kernel) (by decide +kernel)
theorem ge_X6_cell : Cond.selects RX6 yX6_cell yX6_cell ∈ GW := gw_of 920 (by decide +kernel) (by decide +kernel)
theorem gl_RL_97 : Cond.methodLink RL 97 yX6_stored ∈ GW := gw_of 922 (by decide +kernel) (by decide +kernel)
theorem gm_X6_stored : Cond.instanceMethod yX6_stored ∈ GW := gw_of 923 (by decide +kernel) (by decide +kernel)
theorem ge_X6_stored : Cond.selects RX6 yX6_stored yX6_stored ∈ GW := gw_of 924 (by decide +kernel) (by decide +kernel)
theorem gl_RL_93 : Cond.methodLink RL 93 yX6_page ∈ GW := gw_of 926 (by decide +kernel) (by decide +kernel)
theorem gm_X6_page : Cond.instanceMethod yX6_page ∈ GW := gw_of 927 (by decide +kernel) (by decide +kernel)
theorem ge_X6_page : Cond.selects RX6 yX6_page yX6_page ∈ GW := gw_of 928 (by decide +kernel) (by decide +kernel)
theorem gl_RX6_186 : Cond.methodLink RX6 186 yX6_needsMany ∈ GW := gw_of 930 (by decide +kernel) (by decide +kernel)
theorem gm_X6_needsMany : Cond.instanceMethod yX6_needsMany ∈ GW := gw_of 932 (by decide +kernel) (by decide +kernel)
theorem gl_RX6_189 : Cond.methodLink RX6 189 yX6_firstNeeded ∈ GW := gw_of 934 (by decide +kernel) (by decide +kernel)
theorem gm_X6_firstNeeded : Cond.instanceMethod yX6_firstNeeded ∈ GW := gw_of 936 (by decide +kernel) (by decide +kernel)
theorem gl_RL_101 : Cond.methodLink RL 101 yX6_entry ∈ GW := gw_of 938 (by decide +kernel) (by decide +kernel)
theorem gm_X6_entry : Cond.instanceMethod yX6_entry ∈ GW := gw_of 939 (by decide +kernel) (by decide +kernel)
theorem ge_X6_entry : Cond.selects RX6 yX6_entry yX6_entry ∈ GW := gw_of 940 (by decide +kernel) (by decide +kernel)
theorem gl_RL_106 : Cond.methodLink RL 106 yX6_asOf ∈ GW := gw_of 942 (by decide +kernel) (by decide +kernel)
theorem gm_X6_asOf : Cond.instanceMethod yX6_asOf ∈ GW := gw_of 943 (by decide +kernel) (by decide +kernel)
theorem ge_X6_asOf : Cond.selects RX6 yX6_asOf yX6_asOf ∈ GW := gw_of 944 (by decide +kernel) (by decide +kernel)
theorem gl_RL_110 : Cond.methodLink RL 110 yX6_wouldLog ∈ GW := gw_of 946 (by decide +kernel) (by decide +kernel)
theorem gm_X6_wouldLog : Cond.instanceMethod yX6_wouldLog ∈ GW := gw_of 947 (by decide +kernel) (by decide +kernel)
theorem ge_X6_wouldLog : Cond.selects RX6 yX6_wouldLog yX6_wouldLog ∈ GW := gw_of 948 (by decide +kernel) (by decide +kernel)
theorem gl_RL_114 : Cond.methodLink RL 114 yX6_bestRenewed ∈ GW := gw_of 950 (by decide +kernel) (by decide +kernel)
theorem gm_X6_bestRenewed : Cond.instanceMethod yX6_bestRenewed ∈ GW := gw_of 951 (by decide +kernel) (by decide +kernel)
theorem ge_X6_bestRenewed : Cond.selects RX6 yX6_bestRenewed yX6_bestRenewed ∈ GW := gw_of 952 (by decide +kernel) (by decide +kernel)
theorem gl_RL_118 : Cond.methodLink RL 118 yX6_count ∈ GW := gw_of 954 (by decide +kernel) (by decide +kernel)
theorem gm_X6_count : Cond.instanceMethod yX6_count ∈ GW := gw_of 955 (by decide +kernel) (by decide +kernel)
theorem ge_X6_count : Cond.selects RX6 yX6_count yX6_count ∈ GW := gw_of 956 (by decide +kernel) (by decide +kernel)
theorem gl_RX6_192 : Cond.methodLink RX6 192 yX6_ofPages ∈ GW := gw_of 958 (by decide +kernel) (by decide +kernel)
theorem gm_X6_ofPages : Cond.instanceMethod yX6_ofPages ∈ GW := gw_of 960 (by decide +kernel) (by decide +kernel)
theorem gf_RX1_11 : Cond.fieldLink RX1 11 (TX1 0).1 (TX1 0).2.1 (TX1 0).2.2.1 ∈ GW := gw_of 87 (by decide +kernel) (by decide +kernel)
theorem gf_RX1_21 : Cond.fieldLink RX1 21 (TX1 1).1 (TX1 1).2.1 (TX1 1).2.2.1 ∈ GW := gw_of 88 (by decide +kernel) (by decide +kernel)
theorem gf_RX4_45 : Cond.fieldLink RX4 45 (TX1 1).1 (TX1 1).2.1 (TX1 1).2.2.1 ∈ GW := gw_of 89 (by decide +kernel) (by decide +kernel)
theorem gf_RX1_24 : Cond.fieldLink RX1 24 (TX1 2).1 (TX1 2).2.1 (TX1 2).2.2.1 ∈ GW := gw_of 90 (by decide +kernel) (by decide +kernel)
theorem gf_RX5_208 : Cond.fieldLink RX5 208 (TX1 2).1 (TX1 2).2.1 (TX1 2).2.2.1 ∈ GW := gw_of 91 (by decide +kernel) (by decide +kernel)
theorem gf_RX1_27 : Cond.fieldLink RX1 27 (TX1 3).1 (TX1 3).2.1 (TX1 3).2.2.1 ∈ GW := gw_of 92 (by decide +kernel) (by decide +kernel)
theorem gf_RX4_76 : Cond.fieldLink RX4 76 (TX1 3).1 (TX1 3).2.1 (TX1 3).2.2.1 ∈ GW := gw_of 93 (by decide +kernel) (by decide +kernel)
theorem gf_RX5_190 : Cond.fieldLink RX5 190 (TX1 3).1 (TX1 3).2.1 (TX1 3).2.2.1 ∈ GW := gw_of 94 (by decide +kernel) (by decide +kernel)
theorem gf_RX1_17 : Cond.fieldLink RX1 17 (TX1 4).1 (TX1 4).2.1 (TX1 4).2.2.1 ∈ GW := gw_of 95 (by decide +kernel) (by decide +kernel)
theorem gf_RX4_153 : Cond.fieldLink RX4 153 (TX1 4).1 (TX1 4).2.1 (TX1 4).2.2.1 ∈ GW := gw_of 96 (by decide +kernel) (by decide +kernel)
theorem gf_RX5_214 : Cond.fieldLink RX5 214 (TX1 4).1 (TX1 4).2.1 (TX1 4).2.2.1 ∈ GW := gw_of 97 (by decide +kernel) (by decide +kernel)
theorem gf_RX2_9 : Cond.fieldLink RX2 9 (TX2 0).1 (TX2 0).2.1 (TX2 0).2.2.1 ∈ GW := gw_of 114 (by decide +kernel) (by decide +kernel)
theorem gf_RX4_122 : Cond.fieldLink RX4 122 (TX2 0).1 (TX2 0).2.1 (TX2 0).2.2.1 ∈ GW := gw_of 115 (by decide +kernel) (by decide +kernel)
theorem gf_RX5_136 : Cond.fieldLink RX5 136 (TX2 0).1 (TX2 0).2.1 (TX2 0).2.2.1 ∈ GW := gw_of 116 (by decide +kernel) (by decide +kernel)
theorem gf_RX2_15 : Cond.fieldLink RX2 15 (TX2 1).1 (TX2 1).2.1 (TX2 1).2.2.1 ∈ GW := gw_of 117 (by decide +kernel) (by decide +kernel)
theorem gf_RX4_98 : Cond.fieldLink RX4 98 (TX2 1).1 (TX2 1).2.1 (TX2 1).2.2.1 ∈ GW := gw_of 118 (by decide +kernel) (by decide +kernel)
theorem gf_RX5_170 : Cond.fieldLink RX5 170 (TX2 1).1 (TX2 1).2.1 (TX2 1).2.2.1 ∈ GW := gw_of 119 (by decide +kernel) (by decide +kernel)
theorem gf_RX2_24 : Cond.fieldLink RX2 24 (TX2 2).1 (TX2 2).2.1 (TX2 2).2.2.1 ∈ GW := gw_of 120 (by decide +kernel) (by decide +kernel)
theorem gf_RX4_48 : Cond.fieldLink RX4 48 (TX2 2).1 (TX2 2).2.1 (TX2 2).2.2.1 ∈ GW := gw_of 121 (by decide +kernel) (by decide +kernel)
theorem gf_RX5_153 : Cond.fieldLink RX5 153 (TX2 2).1 (TX2 2).2.1 (TX2 2).2.2.1 ∈ GW := gw_of 122 (by decide +kernel) (by decide +kernel)
theorem gf_RX2_28 : Cond.fieldLink RX2 28 (TX2 3).1 (TX2 3).2.1 (TX2 3).2.2.1 ∈ GW := gw_of 123 (by decide +kernel) (by decide +kernel)
theorem gf_RX4_91 : Cond.fieldLink RX4 91 (TX2 3).1 (TX2 3).2.1 (TX2 3).2.2.1 ∈ GW := gw_of 124 (by decide +kernel) (by decide +kernel)
theorem gf_RX5_156 : Cond.fieldLink RX5 156 (TX2 3).1 (TX2 3).2.1 (TX2 3).2.2.1 ∈ GW := gw_of 125 (by decide +kernel) (by decide +kernel)
theorem gf_RX2_32 : Cond.fieldLink RX2 32 (TX2 4).1 (TX2 4).2.1 (TX2 4).2.2.1 ∈ GW := gw_of 126 (by decide +kernel) (by decide +kernel)
theorem gf_RX4_115 : Cond.fieldLink RX4 115 (TX2 4).1 (TX2 4).2.1 (TX2 4).2.2.1 ∈ GW := gw_of 127 (by decide +kernel) (by decide +kernel)
theorem gf_RX4_11 : Cond.fieldLink RX4 11 (TX4 0).1 (TX4 0).2.1 (TX4 0).2.2.1 ∈ GW := gw_of 140 (by decide +kernel) (by decide +kernel)
theorem gf_RX5_132 : Cond.fieldLink RX5 132 (TX4 0).1 (TX4 0).2.1 (TX4 0).2.2.1 ∈ GW := gw_of 141 (by decide +kernel) (by decide +kernel)
theorem gf_RX4_20 : Cond.fieldLink RX4 20 (TX4 1).1 (TX4 1).2.1 (TX4 1).2.2.1 ∈ GW := gw_of 142 (by decide +kernel) (by decide +kernel)
theorem gf_RX5_58 : Cond.fieldLink RX5 58 (TX4 1).1 (TX4 1).2.1 (TX4 1).2.2.1 ∈ GW := gw_of 143 (by decide +kernel) (by decide +kernel)
theorem gf_RX4_24 : Cond.fieldLink RX4 24 (TX4 2).1 (TX4 2).2.1 (TX4 2).2.2.1 ∈ GW := gw_of 144 (by decide +kernel) (by decide +kernel)
theorem gf_RX5_217 : Cond.fieldLink RX5 217 (TX4 2).1 (TX4 2).2.1 (TX4 2).2.2.1 ∈ GW := gw_of 145 (by decide +kernel) (by decide +kernel)
theorem gf_RX4_36 : Cond.fieldLink RX4 36 (TX4 3).1 (TX4 3).2.1 (TX4 3).2.2.1 ∈ GW := gw_of 146 (by decide +kernel) (by decide +kernel)
theorem gf_RX5_88 : Cond.fieldLink RX5 88 (TX4 3).1 (TX4 3).2.1 (TX4 3).2.2.1 ∈ GW := gw_of 147 (by decide +kernel) (by decide +kernel)
theorem gf_RX4_39 : Cond.fieldLink RX4 39 (TX4 4).1 (TX4 4).2.1 (TX4 4).2.2.1 ∈ GW := gw_of 148 (by decide +kernel) (by decide +kernel)
theorem gf_RX5_229 : Cond.fieldLink RX5 229 (TX4 4).1 (TX4 4).2.1 (TX4 4).2.2.1 ∈ GW := gw_of 149 (by decide +kernel) (by decide +kernel)
theorem gf_RX4_42 : Cond.fieldLink RX4 42 (TX4 5).1 (TX4 5).2.1 (TX4 5).2.2.1 ∈ GW := gw_of 150 (by decide +kernel) (by decide +kernel)
theorem gf_RX5_232 : Cond.fieldLink RX5 232 (TX4 5).1 (TX4 5).2.1 (TX4 5).2.2.1 ∈ GW := gw_of 151 (by decide +kernel) (by decide +kernel)
theorem gf_RX5_12 : Cond.fieldLink RX5 12 (TX5 0).1 (TX5 0).2.1 (TX5 0).2.2.1 ∈ GW := gw_of 166 (by decide +kernel) (by decide +kernel)
theorem gf_RX5_16 : Cond.fieldLink RX5 16 (TX5 1).1 (TX5 1).2.1 (TX5 1).2.2.1 ∈ GW := gw_of 167 (by decide +kernel) (by decide +kernel)
theorem gf_RX5_121 : Cond.fieldLink RX5 121 (TX5 2).1 (TX5 2).2.1 (TX5 2).2.2.1 ∈ GW := gw_of 168 (by decide +kernel) (by decide +kernel)
theorem gf_RX5_20 : Cond.fieldLink RX5 20 (TX5 3).1 (TX5 3).2.1 (TX5 3).2.2.1 ∈ GW := gw_of 169 (by decide +kernel) (by decide +kernel)
theorem gf_RX5_128 : Cond.fieldLink RX5 128 (TX5 4).1 (TX5 4).2.1 (TX5 4).2.2.1 ∈ GW := gw_of 170 (by decide +kernel) (by decide +kernel)
theorem gf_RX5_23 : Cond.fieldLink RX5 23 (TX5 5).1 (TX5 5).2.1 (TX5 5).2.2.1 ∈ GW := gw_of 171 (by decide +kernel) (by decide +kernel)
theorem gf_RX5_74 : Cond.fieldLink RX5 74 (TX5 6).1 (TX5 6).2.1 (TX5 6).2.2.1 ∈ GW := gw_of 172 (by decide +kernel) (by decide +kernel)
theorem gf_RX0_9 : Cond.fieldLink RX0 9 (TX0 0).1 (TX0 0).2.1 (TX0 0).2.2.1 ∈ GW := gw_of 235 (by decide +kernel) (by decide +kernel)
theorem gf_RX4_61 : Cond.fieldLink RX4 61 (TX0 0).1 (TX0 0).2.1 (TX0 0).2.2.1 ∈ GW := gw_of 236 (by decide +kernel) (by decide +kernel)
theorem gf_RX1_47 : Cond.fieldLink RX1 47 (TX0 0).1 (TX0 0).2.1 (TX0 0).2.2.1 ∈ GW := gw_of 237 (by decide +kernel) (by decide +kernel)
theorem gf_RX5_175 : Cond.fieldLink RX5 175 (TX0 0).1 (TX0 0).2.1 (TX0 0).2.2.1 ∈ GW := gw_of 238 (by decide +kernel) (by decide +kernel)
theorem gf_RX0_15 : Cond.fieldLink RX0 15 (TX0 1).1 (TX0 1).2.1 (TX0 1).2.2.1 ∈ GW := gw_of 239 (by decide +kernel) (by decide +kernel)
theorem gf_RX4_66 : Cond.fieldLink RX4 66 (TX0 1).1 (TX0 1).2.1 (TX0 1).2.2.1 ∈ GW := gw_of 240 (by decide +kernel) (by decide +kernel)
theorem gf_RX1_53 : Cond.fieldLink RX1 53 (TX0 1).1 (TX0 1).2.1 (TX0 1).2.2.1 ∈ GW := gw_of 241 (by decide +kernel) (by decide +kernel)
theorem gf_RX5_178 : Cond.fieldLink RX5 178 (TX0 1).1 (TX0 1).2.1 (TX0 1).2.2.1 ∈ GW := gw_of 242 (by decide +kernel) (by decide +kernel)
theorem gf_RX0_18 : Cond.fieldLink RX0 18 (TX0 2).1 (TX0 2).2.1 (TX0 2).2.2.1 ∈ GW := gw_of 243 (by decide +kernel) (by decide +kernel)
theorem gf_RX0_21 : Cond.fieldLink RX0 21 (TX0 3).1 (TX0 3).2.1 (TX0 3).2.2.1 ∈ GW := gw_of 244 (by decide +kernel) (by decide +kernel)
theorem gf_RX0_24 : Cond.fieldLink RX0 24 (TX0 4).1 (TX0 4).2.1 (TX0 4).2.2.1 ∈ GW := gw_of 245 (by decide +kernel) (by decide +kernel)
theorem gf_RX0_27 : Cond.fieldLink RX0 27 (TX0 5).1 (TX0 5).2.1 (TX0 5).2.2.1 ∈ GW := gw_of 246 (by decide +kernel) (by decide +kernel)
theorem gf_RX0_31 : Cond.fieldLink RX0 31 (TX0 6).1 (TX0 6).2.1 (TX0 6).2.2.1 ∈ GW := gw_of 247 (by decide +kernel) (by decide +kernel)
theorem gf_RX1_56 : Cond.fieldLink RX1 56 (TX0 6).1 (TX0 6).2.1 (TX0 6).2.2.1 ∈ GW := gw_of 248 (by decide +kernel) (by decide +kernel)
theorem gf_RX5_193 : Cond.fieldLink RX5 193 (TX0 6).1 (TX0 6).2.1 (TX0 6).2.2.1 ∈ GW := gw_of 249 (by decide +kernel) (by decide +kernel)
theorem gf_RX4_180 : Cond.fieldLink RX4 180 (TX0 6).1 (TX0 6).2.1 (TX0 6).2.2.1 ∈ GW := gw_of 250 (by decide +kernel) (by decide +kernel)
theorem gf_RX0_39 : Cond.fieldLink RX0 39 (TX0 7).1 (TX0 7).2.1 (TX0 7).2.2.1 ∈ GW := gw_of 251 (by decide +kernel) (by decide +kernel)
theorem gf_RX1_38 : Cond.fieldLink RX1 38 (TX0 7).1 (TX0 7).2.1 (TX0 7).2.2.1 ∈ GW := gw_of 252 (by decide +kernel) (by decide +kernel)
theorem gf_RX4_156 : Cond.fieldLink RX4 156 (TX0 7).1 (TX0 7).2.1 (TX0 7).2.2.1 ∈ GW := gw_of 253 (by decide +kernel) (by decide +kernel)
theorem gf_RX5_181 : Cond.fieldLink RX5 181 (TX0 7).1 (TX0 7).2.1 (TX0 7).2.2.1 ∈ GW := gw_of 254 (by decide +kernel) (by decide +kernel)
theorem gf_RX3_17 : Cond.fieldLink RX3 17 (TX3 0).1 (TX3 0).2.1 (TX3 0).2.2.1 ∈ GW := gw_of 409 (by decide +kernel) (by decide +kernel)
theorem gf_RX3_21 : Cond.fieldLink RX3 21 (TX3 1).1 (TX3 1).2.1 (TX3 1).2.2.1 ∈ GW := gw_of 410 (by decide +kernel) (by decide +kernel)
theorem gf_RX3_11 : Cond.fieldLink RX3 11 (TX3 2).1 (TX3 2).2.1 (TX3 2).2.2.1 ∈ GW := gw_of 411 (by decide +kernel) (by decide +kernel)
theorem gf_RX3_25 : Cond.fieldLink RX3 25 (TX3 3).1 (TX3 3).2.1 (TX3 3).2.2.1 ∈ GW := gw_of 412 (by decide +kernel) (by decide +kernel)
theorem gf_RX5_91 : Cond.fieldLink RX5 91 (TX3 3).1 (TX3 3).2.1 (TX3 3).2.2.1 ∈ GW := gw_of 413 (by decide +kernel) (by decide +kernel)
theorem gf_RX3_32 : Cond.fieldLink RX3 32 (TX3 4).1 (TX3 4).2.1 (TX3 4).2.2.1 ∈ GW := gw_of 414 (by decide +kernel) (by decide +kernel)
theorem gf_RX5_85 : Cond.fieldLink RX5 85 (TX3 4).1 (TX3 4).2.1 (TX3 4).2.2.1 ∈ GW := gw_of 415 (by decide +kernel) (by decide +kernel)
theorem gf_RX6_7 : Cond.fieldLink RX6 7 (TX6 0).1 (TX6 0).2.1 (TX6 0).2.2.1 ∈ GW := gw_of 660 (by decide +kernel) (by decide +kernel)
theorem gf_RX6_13 : Cond.fieldLink RX6 13 (TX6 1).1 (TX6 1).2.1 (TX6 1).2.2.1 ∈ GW := gw_of 661 (by decide +kernel) (by decide +kernel)
theorem gf_RX6_16 : Cond.fieldLink RX6 16 (TX6 2).1 (TX6 2).2.1 (TX6 2).2.2.1 ∈ GW := gw_of 662 (by decide +kernel) (by decide +kernel)
theorem gf_RX6_39 : Cond.fieldLink RX6 39 (TX6 3).1 (TX6 3).2.1 (TX6 3).2.2.1 ∈ GW := gw_of 663 (by decide +kernel) (by decide +kernel)
theorem gf_RX6_19 : Cond.fieldLink RX6 19 (TX6 4).1 (TX6 4).2.1 (TX6 4).2.2.1 ∈ GW := gw_of 664 (by decide +kernel) (by decide +kernel)
theorem gf_RX6_47 : Cond.fieldLink RX6 47 (TX6 5).1 (TX6 5).2.1 (TX6 5).2.2.1 ∈ GW := gw_of 665 (by decide +kernel) (by decide +kernel)
theorem gf_RX6_22 : Cond.fieldLink RX6 22 (TX6 6).1 (TX6 6).2.1 (TX6 6).2.2.1 ∈ GW := gw_of 666 (by decide +kernel) (by decide +kernel)
theorem gf_RX6_134 : Cond.fieldLink RX6 134 (TX6 7).1 (TX6 7).2.1 (TX6 7).2.2.1 ∈ GW := gw_of 667 (by decide +kernel) (by decide +kernel)
theorem gf_RX6_26 : Cond.fieldLink RX6 26 (TX6 8).1 (TX6 8).2.1 (TX6 8).2.2.1 ∈ GW := gw_of 668 (by decide +kernel) (by decide +kernel)
theorem gf_RX6_29 : Cond.fieldLink RX6 29 (TX6 9).1 (TX6 9).2.1 (TX6 9).2.2.1 ∈ GW := gw_of 669 (by decide +kernel) (by decide +kernel)
theorem gf_RX6_32 : Cond.fieldLink RX6 32 (TX6 10).1 (TX6 10).2.1 (TX6 10).2.2.1 ∈ GW := gw_of 670 (by decide +kernel) (by decide +kernel)
theorem gf_RX6_137 : Cond.fieldLink RX6 137 (TX6 11).1 (TX6 11).2.1 (TX6 11).2.2.1 ∈ GW := gw_of 671 (by decide +kernel) (by decide +kernel)
theorem gj_objI : Cond.instanceMethod Lib.objectInit ∈ GW := gw_of 69 (by decide +kernel) (by decide +kernel)
theorem gj_objC : Cond.code Lib.objectInit ⟨#[0xb1]⟩ 1 none ∈ GW := gw_of 70 (by decide +kernel) (by decide +kernel)
theorem gj_maxS : Cond.static Lib.Math.max.name ∈ GW := gw_of 319 (by decide +kernel) (by decide +kernel)
theorem gj_maxC : Cond.code Lib.Math.max.name Lib.Math.max.code 2 (some .int) ∈ GW := gw_of 320 (by decide +kernel) (by decide +kernel)
theorem gj_minS : Cond.static Lib.Math.min.name ∈ GW := gw_of 467 (by decide +kernel) (by decide +kernel)
theorem gj_minC : Cond.code Lib.Math.min.name Lib.Math.min.code 2 (some .int) ∈ GW := gw_of 468 (by decide +kernel) (by decide +kernel)
theorem gj_cpN : Cond.native arraycopyName ∈ GW := gw_of 216 (by decide +kernel) (by decide +kernel)
theorem gj_cpS : Cond.static arraycopyName ∈ GW := gw_of 215 (by decide +kernel) (by decide +kernel)
theorem gj_clM : Cond.sameMethod "[I" "java/lang/Object" "clone" "()Ljava/lang/Object;" ∈ GW := gw_of 281 (by decide +kernel) (by decide +kernel)
theorem gj_clN : Cond.native ⟨"java/lang/Object", "clone", "()Ljava/lang/Object;"⟩ ∈ GW := gw_of 282 (by decide +kernel) (by decide +kernel)
theorem gj_clI : Cond.instanceMethod ⟨"java/lang/Object", "clone", "()Ljava/lang/Object;"⟩ ∈ GW := gw_of 283 (by decide +kernel) (by decide +kernel)
theorem gj_clE : Cond.selects "[I" ⟨"[I", "clone", "()Ljava/lang/Object;"⟩ ⟨"java/lang/Object", "clone", "()Ljava/lang/Object;"⟩ ∈ GW := gw_of 284 (by decide +kernel) (by decide +kernel)
theorem gj_aint : Cond.arrayClass .int ∈ GW := gw_of 139 (by decide +kernel) (by decide +kernel)
theorem gj_achar : Cond.arrayClass .char ∈ GW := gw_of 188 (by decide +kernel) (by decide +kernel)
theorem inG0 : ∀ w ∈ u_ws RX0 TX0 8, w ∈ GW := fun w h => List.mem_filter.mpr ⟨(by decide +kernel : ∀ w ∈ u_ws RX0 TX0 8, w ∈ lw_tbl) w h, (by decide +kernel : ∀ w ∈ u_ws RX0 TX0 8, goodWord w = true) w h⟩
theorem inG1 : ∀ w ∈ u_ws RX1 TX1 5, w ∈ GW := fun w h => List.mem_filter.mpr ⟨(by decide +kernel : ∀ w ∈ u_ws RX1 TX1 5, w ∈ lw_tbl) w h, (by decide +kernel : ∀ w ∈ u_ws RX1 TX1 5, goodWord w = true) w h⟩
theorem inG2 : ∀ w ∈ u_ws RX2 TX2 5, w ∈ GW := fun w h => List.mem_filter.mpr ⟨(by decide +kernel : ∀ w ∈ u_ws RX2 TX2 5, w ∈ lw_tbl) w h, (by decide +kernel : ∀ w ∈ u_ws RX2 TX2 5, goodWord w = true) w h⟩
theorem inG3 : ∀ w ∈ u_ws RX3 TX3 5, w ∈ GW := fun w h => List.mem_filter.mpr ⟨(by decide +kernel : ∀ w ∈ u_ws RX3 TX3 5, w ∈ lw_tbl) w h, (by decide +kernel : ∀ w ∈ u_ws RX3 TX3 5, goodWord w = true) w h⟩
theorem inG4 : ∀ w ∈ u_ws RX4 TX4 6, w ∈ GW := fun w h => List.mem_filter.mpr ⟨(by decide +kernel : ∀ w ∈ u_ws RX4 TX4 6, w ∈ lw_tbl) w h, (by decide +kernel : ∀ w ∈ u_ws RX4 TX4 6, goodWord w = true) w h⟩
theorem inG5 : ∀ w ∈ u_ws RX5 TX5 7, w ∈ GW := fun w h => List.mem_filter.mpr ⟨(by decide +kernel : ∀ w ∈ u_ws RX5 TX5 7, w ∈ lw_tbl) w h, (by decide +kernel : ∀ w ∈ u_ws RX5 TX5 7, goodWord w = true) w h⟩
theorem inG6 : ∀ w ∈ u_ws RX6 TX6 12, w ∈ GW := fun w h => List.mem_filter.mpr ⟨(by decide +kernel : ∀ w ∈ u_ws RX6 TX6 12, w ∈ lw_tbl) w h, (by decide +kernel : ∀ w ∈ u_ws RX6 TX6 12, goodWord w = true) w h⟩
end
section
def At (y : MK) (pc : Nat) (I : Instr) (n : Nat) (pc' : Nat) : Prop := decode y.2.1 pc = .ok (I, n) ∧ pc' = pc + n
theorem aX0_init_0 : At kX0_init 0 (.aload_n 0) 1 1 := ⟨by decide +kernel, rfl⟩
theorem aX0_init_1 : At kX0_init 1 (.invokespecial 3) 3 4 := ⟨by decide +kernel, rfl⟩
theorem aX0_init_4 : At kX0_init 4 (.aload_n 0) 1 5 := ⟨by decide +kernel, rfl⟩
theorem aX0_init_5 : At kX0_init 5 (.iload_n 1) 1 6 := ⟨by decide +kernel, rfl⟩
theorem aX0_init_6 : At kX0_init 6 (.putfield 9) 3 9 := ⟨by decide +kernel, rfl⟩
theorem aX0_init_9 : At kX0_init 9 (.aload_n 0) 1 10 := ⟨by decide +kernel, rfl⟩
theorem aX0_init_10 : At kX0_init 10 (.iload_n 2) 1 11 := ⟨by decide +kernel, rfl⟩
theorem aX0_init_11 : At kX0_init 11 (.putfield 15) 3 14 := ⟨by decide +kernel, rfl⟩
theorem aX0_init_14 : At kX0_init 14 (.aload_n 0) 1 15 := ⟨by decide +kernel, rfl⟩
theorem aX0_init_15 : At kX0_init 15 (.iload_n 3) 1 16 := ⟨by decide +kernel, rfl⟩
theorem aX0_init_16 : At kX0_init 16 (.putfield 18) 3 19 := ⟨by decide +kernel, rfl⟩
theorem aX0_init_19 : At kX0_init 19 (.aload_n 0) 1 20 := ⟨by decide +kernel, rfl⟩
theorem aX0_init_20 : At kX0_init 20 (.iload 4) 2 22 := ⟨by decide +kernel, rfl⟩
theorem aX0_init_22 : At kX0_init 22 (.putfield 21) 3 25 := ⟨by decide +kernel, rfl⟩
theorem aX0_init_25 : At kX0_init 25 (.aload_n 0) 1 26 := ⟨by decide +kernel, rfl⟩
theorem aX0_init_26 : At kX0_init 26 (.iload 5) 2 28 := ⟨by decide +kernel, rfl⟩
theorem aX0_init_28 : At kX0_init 28 (.putfield 24) 3 31 := ⟨by decide +kernel, rfl⟩
theorem aX0_init_31 : At kX0_init 31 (.aload_n 0) 1 32 := ⟨by decide +kernel, rfl⟩
theorem aX0_init_32 : At kX0_init 32 (.aload 6) 2 34 := ⟨by decide +kernel, rfl⟩
theorem aX0_init_34 : At kX0_init 34 (.putfield 27) 3 37 := ⟨by decide +kernel, rfl⟩
theorem aX0_init_37 : At kX0_init 37 (.aload_n 0) 1 38 := ⟨by decide +kernel, rfl⟩
theorem aX0_init_38 : At kX0_init 38 (.iload 7) 2 40 := ⟨by decide +kernel, rfl⟩
theorem aX0_init_40 : At kX0_init 40 (.putfield 31) 3 43 := ⟨by decide +kernel, rfl⟩
theorem aX0_init_43 : At kX0_init 43 (.iload_n 2) 1 44 := ⟨by decide +kernel, rfl⟩
theorem aX0_init_44 : At kX0_init 44 (.ifCond .ne 15) 3 47 := ⟨by decide +kernel, rfl⟩
theorem aX0_init_47 : At kX0_init 47 (.aload_n 0) 1 48 := ⟨by decide +kernel, rfl⟩
theorem aX0_init_48 : At kX0_init 48 (.aload 6) 2 50 := ⟨by decide +kernel, rfl⟩
theorem aX0_init_50 : At kX0_init 50 (.invokestatic 35) 3 53 := ⟨by decide +kernel, rfl⟩
theorem aX0_init_53 : At kX0_init 53 (.putfield 39) 3 56 := ⟨by decide +kernel, rfl⟩
theorem aX0_init_56 : At kX0_init 56 (.goto 26) 3 59 := ⟨by decide +kernel, rfl⟩
theorem aX0_init_59 : At kX0_init 59 (.aload_n 0) 1 60 := ⟨by decide +kernel, rfl⟩
theorem aX0_init_60 : At kX0_init 60 (.iload_n 2) 1 61 := ⟨by decide +kernel, rfl⟩
theorem aX0_init_61 : At kX0_init 61 (.iconst 1) 1 62 := ⟨by decide +kernel, rfl⟩
theorem aX0_init_62 : At kX0_init 62 (.if_icmp .eq 8) 3 65 := ⟨by decide +kernel, rfl⟩
theorem aX0_init_65 : At kX0_init 65 (.iload_n 2) 1 66 := ⟨by decide +kernel, rfl⟩
theorem aX0_init_66 : At kX0_init 66 (.iconst 2) 1 67 := ⟨by decide +kernel, rfl⟩
theorem aX0_init_67 : At kX0_init 67 (.if_icmp .ne 7) 3 70 := ⟨by decide +kernel, rfl⟩
theorem aX0_init_70 : At kX0_init 70 (.iconst 4) 1 71 := ⟨by decide +kernel, rfl⟩
theorem aX0_init_71 : At kX0_init 71 (.goto 8) 3 74 := ⟨by decide +kernel, rfl⟩
theorem aX0_init_74 : At kX0_init 74 (.iconst 3) 1 75 := ⟨by decide +kernel, rfl⟩
theorem aX0_init_75 : At kX0_init 75 (.aload 6) 2 77 := ⟨by decide +kernel, rfl⟩
theorem aX0_init_77 : At kX0_init 77 (.arraylength) 1 78 := ⟨by decide +kernel, rfl⟩
theorem aX0_init_78 : At kX0_init 78 (.iadd) 1 79 := ⟨by decide +kernel, rfl⟩
theorem aX0_init_79 : At kX0_init 79 (.putfield 39) 3 82 := ⟨by decide +kernel, rfl⟩
theorem aX0_init_82 : At kX0_init 82 (.return_) 1 83 := ⟨by decide +kernel, rfl⟩
theorem aX0_ofCells_0 : At kX0_ofCells 0 (.new 10) 3 3 := ⟨by decide +kernel, rfl⟩
theorem aX0_ofCells_3 : At kX0_ofCells 3 (.dup) 1 4 := ⟨by decide +kernel, rfl⟩
theorem aX0_ofCells_4 : At kX0_ofCells 4 (.iload_n 0) 1 5 := ⟨by decide +kernel, rfl⟩
theorem aX0_ofCells_5 : At kX0_ofCells 5 (.iload_n 1) 1 6 := ⟨by decide +kernel, rfl⟩
theorem aX0_ofCells_6 : At kX0_ofCells 6 (.iload_n 2) 1 7 := ⟨by decide +kernel, rfl⟩
theorem aX0_ofCells_7 : At kX0_ofCells 7 (.iload_n 3) 1 8 := ⟨by decide +kernel, rfl⟩
theorem aX0_ofCells_8 : At kX0_ofCells 8 (.iload 4) 2 10 := ⟨by decide +kernel, rfl⟩
theorem aX0_ofCells_10 : At kX0_ofCells 10 (.getstatic 42) 3 13 := ⟨by decide +kernel, rfl⟩
theorem aX0_ofCells_13 : At kX0_ofCells 13 (.iconst 0) 1 14 := ⟨by decide +kernel, rfl⟩
theorem aX0_ofCells_14 : At kX0_ofCells 14 (.invokespecial 45) 3 17 := ⟨by decide +kernel, rfl⟩
theorem aX0_ofCells_17 : At kX0_ofCells 17 (.areturn) 1 18 := ⟨by decide +kernel, rfl⟩
theorem aX0_ofTurn_0 : At kX0_ofTurn 0 (.new 10) 3 3 := ⟨by decide +kernel, rfl⟩
theorem aX0_ofTurn_3 : At kX0_ofTurn 3 (.dup) 1 4 := ⟨by decide +kernel, rfl⟩
theorem aX0_ofTurn_4 : At kX0_ofTurn 4 (.iload_n 0) 1 5 := ⟨by decide +kernel, rfl⟩
theorem aX0_ofTurn_5 : At kX0_ofTurn 5 (.iconst 3) 1 6 := ⟨by decide +kernel, rfl⟩
theorem aX0_ofTurn_6 : At kX0_ofTurn 6 (.iconst 0) 1 7 := ⟨by decide +kernel, rfl⟩
theorem aX0_ofTurn_7 : At kX0_ofTurn 7 (.bipush 11) 2 9 := ⟨by decide +kernel, rfl⟩
theorem aX0_ofTurn_9 : At kX0_ofTurn 9 (.iload_n 1) 1 10 := ⟨by decide +kernel, rfl⟩
theorem aX0_ofTurn_10 : At kX0_ofTurn 10 (.getstatic 42) 3 13 := ⟨by decide +kernel, rfl⟩
theorem aX0_ofTurn_13 : At kX0_ofTurn 13 (.iconst 0) 1 14 := ⟨by decide +kernel, rfl⟩
theorem aX0_ofTurn_14 : At kX0_ofTurn 14 (.invokespecial 45) 3 17 := ⟨by decide +kernel, rfl⟩
theorem aX0_ofTurn_17 : At kX0_ofTurn 17 (.areturn) 1 18 := ⟨by decide +kernel, rfl⟩
theorem aX0_ofRow_0 : At kX0_ofRow 0 (.new 10) 3 3 := ⟨by decide +kernel, rfl⟩
theorem aX0_ofRow_3 : At kX0_ofRow 3 (.dup) 1 4 := ⟨by decide +kernel, rfl⟩
theorem aX0_ofRow_4 : At kX0_ofRow 4 (.iload_n 0) 1 5 := ⟨by decide +kernel, rfl⟩
theorem aX0_ofRow_5 : At kX0_ofRow 5 (.iconst 4) 1 6 := ⟨by decide +kernel, rfl⟩
theorem aX0_ofRow_6 : At kX0_ofRow 6 (.iload_n 1) 1 7 := ⟨by decide +kernel, rfl⟩
theorem aX0_ofRow_7 : At kX0_ofRow 7 (.iload_n 1) 1 8 := ⟨by decide +kernel, rfl⟩
theorem aX0_ofRow_8 : At kX0_ofRow 8 (.aload_n 2) 1 9 := ⟨by decide +kernel, rfl⟩
theorem aX0_ofRow_9 : At kX0_ofRow 9 (.arraylength) 1 10 := ⟨by decide +kernel, rfl⟩
theorem aX0_ofRow_10 : At kX0_ofRow 10 (.iadd) 1 11 := ⟨by decide +kernel, rfl⟩
theorem aX0_ofRow_11 : At kX0_ofRow 11 (.iconst 1) 1 12 := ⟨by decide +kernel, rfl⟩
theorem aX0_ofRow_12 : At kX0_ofRow 12 (.isub) 1 13 := ⟨by decide +kernel, rfl⟩
theorem aX0_ofRow_13 : At kX0_ofRow 13 (.iconst 0) 1 14 := ⟨by decide +kernel, rfl⟩
theorem aX0_ofRow_14 : At kX0_ofRow 14 (.aload_n 2) 1 15 := ⟨by decide +kernel, rfl⟩
theorem aX0_ofRow_15 : At kX0_ofRow 15 (.iconst 0) 1 16 := ⟨by decide +kernel, rfl⟩
theorem aX0_ofRow_16 : At kX0_ofRow 16 (.invokespecial 45) 3 19 := ⟨by decide +kernel, rfl⟩
theorem aX0_ofRow_19 : At kX0_ofRow 19 (.areturn) 1 20 := ⟨by decide +kernel, rfl⟩
theorem aX0_ofPicture_0 : At kX0_ofPicture 0 (.new 10) 3 3 := ⟨by decide +kernel, rfl⟩
theorem aX0_ofPicture_3 : At kX0_ofPicture 3 (.dup) 1 4 := ⟨by decide +kernel, rfl⟩
theorem aX0_ofPicture_4 : At kX0_ofPicture 4 (.iload_n 0) 1 5 := ⟨by decide +kernel, rfl⟩
theorem aX0_ofPicture_5 : At kX0_ofPicture 5 (.iconst 0) 1 6 := ⟨by decide +kernel, rfl⟩
theorem aX0_ofPicture_6 : At kX0_ofPicture 6 (.iconst 0) 1 7 := ⟨by decide +kernel, rfl⟩
theorem aX0_ofPicture_7 : At kX0_ofPicture 7 (.bipush 11) 2 9 := ⟨by decide +kernel, rfl⟩
theorem aX0_ofPicture_9 : At kX0_ofPicture 9 (.iconst 0) 1 10 := ⟨by decide +kernel, rfl⟩
theorem aX0_ofPicture_10 : At kX0_ofPicture 10 (.aload_n 1) 1 11 := ⟨by decide +kernel, rfl⟩
theorem aX0_ofPicture_11 : At kX0_ofPicture 11 (.iconst 0) 1 12 := ⟨by decide +kernel, rfl⟩
theorem aX0_ofPicture_12 : At kX0_ofPicture 12 (.invokespecial 45) 3 15 := ⟨by decide +kernel, rfl⟩
theorem aX0_ofPicture_15 : At kX0_ofPicture 15 (.areturn) 1 16 := ⟨by decide +kernel, rfl⟩
theorem aX0_ofRenewal_0 : At kX0_ofRenewal 0 (.iload_n 0) 1 1 := ⟨by decide +kernel, rfl⟩
theorem aX0_ofRenewal_1 : At kX0_ofRenewal 1 (.getstatic 42) 3 4 := ⟨by decide +kernel, rfl⟩
theorem aX0_ofRenewal_4 : At kX0_ofRenewal 4 (.invokestatic 48) 3 7 := ⟨by decide +kernel, rfl⟩
theorem aX0_ofRenewal_7 : At kX0_ofRenewal 7 (.areturn) 1 8 := ⟨by decide +kernel, rfl⟩
theorem aX0_asDamaged_0 : At kX0_asDamaged 0 (.new 10) 3 3 := ⟨by decide +kernel, rfl⟩
theorem aX0_asDamaged_3 : At kX0_asDamaged 3 (.dup) 1 4 := ⟨by decide +kernel, rfl⟩
theorem aX0_asDamaged_4 : At kX0_asDamaged 4 (.aload_n 0) 1 5 := ⟨by decide +kernel, rfl⟩
theorem aX0_asDamaged_5 : At kX0_asDamaged 5 (.getfield 9) 3 8 := ⟨by decide +kernel, rfl⟩
theorem aX0_asDamaged_8 : At kX0_asDamaged 8 (.aload_n 0) 1 9 := ⟨by decide +kernel, rfl⟩
theorem aX0_asDamaged_9 : At kX0_asDamaged 9 (.getfield 15) 3 12 := ⟨by decide +kernel, rfl⟩
theorem aX0_asDamaged_12 : At kX0_asDamaged 12 (.aload_n 0) 1 13 := ⟨by decide +kernel, rfl⟩
theorem aX0_asDamaged_13 : At kX0_asDamaged 13 (.getfield 18) 3 16 := ⟨by decide +kernel, rfl⟩
theorem aX0_asDamaged_16 : At kX0_asDamaged 16 (.aload_n 0) 1 17 := ⟨by decide +kernel, rfl⟩
theorem aX0_asDamaged_17 : At kX0_asDamaged 17 (.getfield 21) 3 20 := ⟨by decide +kernel, rfl⟩
theorem aX0_asDamaged_20 : At kX0_asDamaged 20 (.aload_n 0) 1 21 := ⟨by decide +kernel, rfl⟩
theorem aX0_asDamaged_21 : At kX0_asDamaged 21 (.getfield 24) 3 24 := ⟨by decide +kernel, rfl⟩
theorem aX0_asDamaged_24 : At kX0_asDamaged 24 (.aload_n 0) 1 25 := ⟨by decide +kernel, rfl⟩
theorem aX0_asDamaged_25 : At kX0_asDamaged 25 (.getfield 27) 3 28 := ⟨by decide +kernel, rfl⟩
theorem aX0_asDamaged_28 : At kX0_asDamaged 28 (.iconst 1) 1 29 := ⟨by decide +kernel, rfl⟩
theorem aX0_asDamaged_29 : At kX0_asDamaged 29 (.invokespecial 45) 3 32 := ⟨by decide +kernel, rfl⟩
theorem aX0_asDamaged_32 : At kX0_asDamaged 32 (.areturn) 1 33 := ⟨by decide +kernel, rfl⟩
theorem aX0_sizeOfPicture_0 : At kX0_sizeOfPicture 0 (.iconst 1) 1 1 := ⟨by decide +kernel, rfl⟩
theorem aX0_sizeOfPicture_1 : At kX0_sizeOfPicture 1 (.istore_n 1) 1 2 := ⟨by decide +kernel, rfl⟩
theorem aX0_sizeOfPicture_2 : At kX0_sizeOfPicture 2 (.iconst 1) 1 3 := ⟨by decide +kernel, rfl⟩
theorem aX0_sizeOfPicture_3 : At kX0_sizeOfPicture 3 (.istore_n 2) 1 4 := ⟨by decide +kernel, rfl⟩
theorem aX0_sizeOfPicture_4 : At kX0_sizeOfPicture 4 (.iload_n 2) 1 5 := ⟨by decide +kernel, rfl⟩
theorem aX0_sizeOfPicture_5 : At kX0_sizeOfPicture 5 (.aload_n 0) 1 6 := ⟨by decide +kernel, rfl⟩
theorem aX0_sizeOfPicture_6 : At kX0_sizeOfPicture 6 (.arraylength) 1 7 := ⟨by decide +kernel, rfl⟩
theorem aX0_sizeOfPicture_7 : At kX0_sizeOfPicture 7 (.if_icmp .ge 23) 3 10 := ⟨by decide +kernel, rfl⟩
theorem aX0_sizeOfPicture_10 : At kX0_sizeOfPicture 10 (.aload_n 0) 1 11 := ⟨by decide +kernel, rfl⟩
theorem aX0_sizeOfPicture_11 : At kX0_sizeOfPicture 11 (.iload_n 2) 1 12 := ⟨by decide +kernel, rfl⟩
theorem aX0_sizeOfPicture_12 : At kX0_sizeOfPicture 12 (.iaload) 1 13 := ⟨by decide +kernel, rfl⟩
theorem aX0_sizeOfPicture_13 : At kX0_sizeOfPicture 13 (.aload_n 0) 1 14 := ⟨by decide +kernel, rfl⟩
theorem aX0_sizeOfPicture_14 : At kX0_sizeOfPicture 14 (.iload_n 2) 1 15 := ⟨by decide +kernel, rfl⟩
theorem aX0_sizeOfPicture_15 : At kX0_sizeOfPicture 15 (.iconst 1) 1 16 := ⟨by decide +kernel, rfl⟩
theorem aX0_sizeOfPicture_16 : At kX0_sizeOfPicture 16 (.isub) 1 17 := ⟨by decide +kernel, rfl⟩
theorem aX0_sizeOfPicture_17 : At kX0_sizeOfPicture 17 (.iaload) 1 18 := ⟨by decide +kernel, rfl⟩
theorem aX0_sizeOfPicture_18 : At kX0_sizeOfPicture 18 (.if_icmp .eq 6) 3 21 := ⟨by decide +kernel, rfl⟩
theorem aX0_sizeOfPicture_21 : At kX0_sizeOfPicture 21 (.iinc 1 1) 3 24 := ⟨by decide +kernel, rfl⟩
theorem aX0_sizeOfPicture_24 : At kX0_sizeOfPicture 24 (.iinc 2 1) 3 27 := ⟨by decide +kernel, rfl⟩
theorem aX0_sizeOfPicture_27 : At kX0_sizeOfPicture 27 (.goto (-23)) 3 30 := ⟨by decide +kernel, rfl⟩
theorem aX0_sizeOfPicture_30 : At kX0_sizeOfPicture 30 (.iconst 2) 1 31 := ⟨by decide +kernel, rfl⟩
theorem aX0_sizeOfPicture_31 : At kX0_sizeOfPicture 31 (.iconst 2) 1 32 := ⟨by decide +kernel, rfl⟩
theorem aX0_sizeOfPicture_32 : At kX0_sizeOfPicture 32 (.iload_n 1) 1 33 := ⟨by decide +kernel, rfl⟩
theorem aX0_sizeOfPicture_33 : At kX0_sizeOfPicture 33 (.imul) 1 34 := ⟨by decide +kernel, rfl⟩
theorem aX0_sizeOfPicture_34 : At kX0_sizeOfPicture 34 (.bipush 12) 2 36 := ⟨by decide +kernel, rfl⟩
theorem aX0_sizeOfPicture_36 : At kX0_sizeOfPicture 36 (.if_icmp .ge 9) 3 39 := ⟨by decide +kernel, rfl⟩
theorem aX0_sizeOfPicture_39 : At kX0_sizeOfPicture 39 (.iconst 2) 1 40 := ⟨by decide +kernel, rfl⟩
theorem aX0_sizeOfPicture_40 : At kX0_sizeOfPicture 40 (.iload_n 1) 1 41 := ⟨by decide +kernel, rfl⟩
theorem aX0_sizeOfPicture_41 : At kX0_sizeOfPicture 41 (.imul) 1 42 := ⟨by decide +kernel, rfl⟩
theorem aX0_sizeOfPicture_42 : At kX0_sizeOfPicture 42 (.goto 5) 3 45 := ⟨by decide +kernel, rfl⟩
theorem aX0_sizeOfPicture_45 : At kX0_sizeOfPicture 45 (.bipush 12) 2 47 := ⟨by decide +kernel, rfl⟩
theorem aX0_sizeOfPicture_47 : At kX0_sizeOfPicture 47 (.iadd) 1 48 := ⟨by decide +kernel, rfl⟩
theorem aX0_sizeOfPicture_48 : At kX0_sizeOfPicture 48 (.ireturn) 1 49 := ⟨by decide +kernel, rfl⟩
theorem aX0_time_0 : At kX0_time 0 (.aload_n 0) 1 1 := ⟨by decide +kernel, rfl⟩
theorem aX0_time_1 : At kX0_time 1 (.getfield 15) 3 4 := ⟨by decide +kernel, rfl⟩
theorem aX0_time_4 : At kX0_time 4 (.ifCond .ne 10) 3 7 := ⟨by decide +kernel, rfl⟩
theorem aX0_time_7 : At kX0_time 7 (.aload_n 0) 1 8 := ⟨by decide +kernel, rfl⟩
theorem aX0_time_8 : At kX0_time 8 (.getfield 39) 3 11 := ⟨by decide +kernel, rfl⟩
theorem aX0_time_11 : At kX0_time 11 (.goto 19) 3 14 := ⟨by decide +kernel, rfl⟩
theorem aX0_time_14 : At kX0_time 14 (.aload_n 0) 1 15 := ⟨by decide +kernel, rfl⟩
theorem aX0_time_15 : At kX0_time 15 (.getfield 39) 3 18 := ⟨by decide +kernel, rfl⟩
theorem aX0_time_18 : At kX0_time 18 (.aload_n 0) 1 19 := ⟨by decide +kernel, rfl⟩
theorem aX0_time_19 : At kX0_time 19 (.getfield 21) 3 22 := ⟨by decide +kernel, rfl⟩
theorem aX0_time_22 : At kX0_time 22 (.iadd) 1 23 := ⟨by decide +kernel, rfl⟩
theorem aX0_time_23 : At kX0_time 23 (.aload_n 0) 1 24 := ⟨by decide +kernel, rfl⟩
theorem aX0_time_24 : At kX0_time 24 (.getfield 18) 3 27 := ⟨by decide +kernel, rfl⟩
theorem aX0_time_27 : At kX0_time 27 (.isub) 1 28 := ⟨by decide +kernel, rfl⟩
theorem aX0_time_28 : At kX0_time 28 (.iconst 1) 1 29 := ⟨by decide +kernel, rfl⟩
theorem aX0_time_29 : At kX0_time 29 (.iadd) 1 30 := ⟨by decide +kernel, rfl⟩
theorem aX0_time_30 : At kX0_time 30 (.ireturn) 1 31 := ⟨by decide +kernel, rfl⟩
theorem aX0_applyTo_0 : At kX0_applyTo 0 (.aload_n 0) 1 1 := ⟨by decide +kernel, rfl⟩
theorem aX0_applyTo_1 : At kX0_applyTo 1 (.getfield 15) 3 4 := ⟨by decide +kernel, rfl⟩
theorem aX0_applyTo_4 : At kX0_applyTo 4 (.iconst 3) 1 5 := ⟨by decide +kernel, rfl⟩
theorem aX0_applyTo_5 : At kX0_applyTo 5 (.if_icmp .ne 9) 3 8 := ⟨by decide +kernel, rfl⟩
theorem aX0_applyTo_8 : At kX0_applyTo 8 (.aload_n 0) 1 9 := ⟨by decide +kernel, rfl⟩
theorem aX0_applyTo_9 : At kX0_applyTo 9 (.aload_n 1) 1 10 := ⟨by decide +kernel, rfl⟩
theorem aX0_applyTo_10 : At kX0_applyTo 10 (.invokevirtual 52) 3 13 := ⟨by decide +kernel, rfl⟩
theorem aX0_applyTo_13 : At kX0_applyTo 13 (.return_) 1 14 := ⟨by decide +kernel, rfl⟩
theorem aX0_applyTo_14 : At kX0_applyTo 14 (.aload_n 0) 1 15 := ⟨by decide +kernel, rfl⟩
theorem aX0_applyTo_15 : At kX0_applyTo 15 (.getfield 18) 3 18 := ⟨by decide +kernel, rfl⟩
theorem aX0_applyTo_18 : At kX0_applyTo 18 (.istore_n 2) 1 19 := ⟨by decide +kernel, rfl⟩
theorem aX0_applyTo_19 : At kX0_applyTo 19 (.iload_n 2) 1 20 := ⟨by decide +kernel, rfl⟩
theorem aX0_applyTo_20 : At kX0_applyTo 20 (.ifCond .lt 34) 3 23 := ⟨by decide +kernel, rfl⟩
theorem aX0_applyTo_23 : At kX0_applyTo 23 (.iload_n 2) 1 24 := ⟨by decide +kernel, rfl⟩
theorem aX0_applyTo_24 : At kX0_applyTo 24 (.aload_n 0) 1 25 := ⟨by decide +kernel, rfl⟩
theorem aX0_applyTo_25 : At kX0_applyTo 25 (.getfield 21) 3 28 := ⟨by decide +kernel, rfl⟩
theorem aX0_applyTo_28 : At kX0_applyTo 28 (.if_icmp .gt 26) 3 31 := ⟨by decide +kernel, rfl⟩
theorem aX0_applyTo_31 : At kX0_applyTo 31 (.iload_n 2) 1 32 := ⟨by decide +kernel, rfl⟩
theorem aX0_applyTo_32 : At kX0_applyTo 32 (.aload_n 1) 1 33 := ⟨by decide +kernel, rfl⟩
theorem aX0_applyTo_33 : At kX0_applyTo 33 (.arraylength) 1 34 := ⟨by decide +kernel, rfl⟩
theorem aX0_applyTo_34 : At kX0_applyTo 34 (.if_icmp .ge 20) 3 37 := ⟨by decide +kernel, rfl⟩
theorem aX0_applyTo_37 : At kX0_applyTo 37 (.aload_n 1) 1 38 := ⟨by decide +kernel, rfl⟩
theorem aX0_applyTo_38 : At kX0_applyTo 38 (.iload_n 2) 1 39 := ⟨by decide +kernel, rfl⟩
theorem aX0_applyTo_39 : At kX0_applyTo 39 (.aload_n 0) 1 40 := ⟨by decide +kernel, rfl⟩
theorem aX0_applyTo_40 : At kX0_applyTo 40 (.iload_n 2) 1 41 := ⟨by decide +kernel, rfl⟩
theorem aX0_applyTo_41 : At kX0_applyTo 41 (.aload_n 1) 1 42 := ⟨by decide +kernel, rfl⟩
theorem aX0_applyTo_42 : At kX0_applyTo 42 (.iload_n 2) 1 43 := ⟨by decide +kernel, rfl⟩
theorem aX0_applyTo_43 : At kX0_applyTo 43 (.iaload) 1 44 := ⟨by decide +kernel, rfl⟩
theorem aX0_applyTo_44 : At kX0_applyTo 44 (.invokevirtual 56) 3 47 := ⟨by decide +kernel, rfl⟩
theorem aX0_applyTo_47 : At kX0_applyTo 47 (.iastore) 1 48 := ⟨by decide +kernel, rfl⟩
theorem aX0_applyTo_48 : At kX0_applyTo 48 (.iinc 2 1) 3 51 := ⟨by decide +kernel, rfl⟩
theorem aX0_applyTo_51 : At kX0_applyTo 51 (.goto (-32)) 3 54 := ⟨by decide +kernel, rfl⟩
theorem aX0_applyTo_54 : At kX0_applyTo 54 (.return_) 1 55 := ⟨by decide +kernel, rfl⟩
theorem aX0_valueFor_0 : At kX0_valueFor 0 (.aload_n 0) 1 1 := ⟨by decide +kernel, rfl⟩
theorem aX0_valueFor_1 : At kX0_valueFor 1 (.getfield 15) 3 4 := ⟨by decide +kernel, rfl⟩
theorem aX0_valueFor_4 : At kX0_valueFor 4 (.iconst 1) 1 5 := ⟨by decide +kernel, rfl⟩
theorem aX0_valueFor_5 : At kX0_valueFor 5 (.if_icmp .ne 8) 3 8 := ⟨by decide +kernel, rfl⟩
theorem aX0_valueFor_8 : At kX0_valueFor 8 (.aload_n 0) 1 9 := ⟨by decide +kernel, rfl⟩
theorem aX0_valueFor_9 : At kX0_valueFor 9 (.getfield 24) 3 12 := ⟨by decide +kernel, rfl⟩
theorem aX0_valueFor_12 : At kX0_valueFor 12 (.ireturn) 1 13 := ⟨by decide +kernel, rfl⟩
theorem aX0_valueFor_13 : At kX0_valueFor 13 (.aload_n 0) 1 14 := ⟨by decide +kernel, rfl⟩
theorem aX0_valueFor_14 : At kX0_valueFor 14 (.getfield 15) 3 17 := ⟨by decide +kernel, rfl⟩
theorem aX0_valueFor_17 : At kX0_valueFor 17 (.iconst 2) 1 18 := ⟨by decide +kernel, rfl⟩
theorem aX0_valueFor_18 : At kX0_valueFor 18 (.if_icmp .ne 13) 3 21 := ⟨by decide +kernel, rfl⟩
theorem aX0_valueFor_21 : At kX0_valueFor 21 (.iload_n 2) 1 22 := ⟨by decide +kernel, rfl⟩
theorem aX0_valueFor_22 : At kX0_valueFor 22 (.aload_n 0) 1 23 := ⟨by decide +kernel, rfl⟩
theorem aX0_valueFor_23 : At kX0_valueFor 23 (.getfield 24) 3 26 := ⟨by decide +kernel, rfl⟩
theorem aX0_valueFor_26 : At kX0_valueFor 26 (.iadd) 1 27 := ⟨by decide +kernel, rfl⟩
theorem aX0_valueFor_27 : At kX0_valueFor 27 (.bipush 10) 2 29 := ⟨by decide +kernel, rfl⟩
theorem aX0_valueFor_29 : At kX0_valueFor 29 (.irem) 1 30 := ⟨by decide +kernel, rfl⟩
theorem aX0_valueFor_30 : At kX0_valueFor 30 (.ireturn) 1 31 := ⟨by decide +kernel, rfl⟩
theorem aX0_valueFor_31 : At kX0_valueFor 31 (.iload_n 1) 1 32 := ⟨by decide +kernel, rfl⟩
theorem aX0_valueFor_32 : At kX0_valueFor 32 (.aload_n 0) 1 33 := ⟨by decide +kernel, rfl⟩
theorem aX0_valueFor_33 : At kX0_valueFor 33 (.getfield 18) 3 36 := ⟨by decide +kernel, rfl⟩
theorem aX0_valueFor_36 : At kX0_valueFor 36 (.isub) 1 37 := ⟨by decide +kernel, rfl⟩
theorem aX0_valueFor_37 : At kX0_valueFor 37 (.istore_n 3) 1 38 := ⟨by decide +kernel, rfl⟩
theorem aX0_valueFor_38 : At kX0_valueFor 38 (.iload_n 3) 1 39 := ⟨by decide +kernel, rfl⟩
theorem aX0_valueFor_39 : At kX0_valueFor 39 (.ifCond .lt 21) 3 42 := ⟨by decide +kernel, rfl⟩
theorem aX0_valueFor_42 : At kX0_valueFor 42 (.iload_n 3) 1 43 := ⟨by decide +kernel, rfl⟩
theorem aX0_valueFor_43 : At kX0_valueFor 43 (.aload_n 0) 1 44 := ⟨by decide +kernel, rfl⟩
theorem aX0_valueFor_44 : At kX0_valueFor 44 (.getfield 27) 3 47 := ⟨by decide +kernel, rfl⟩
theorem aX0_valueFor_47 : At kX0_valueFor 47 (.arraylength) 1 48 := ⟨by decide +kernel, rfl⟩
theorem aX0_valueFor_48 : At kX0_valueFor 48 (.if_icmp .ge 12) 3 51 := ⟨by decide +kernel, rfl⟩
theorem aX0_valueFor_51 : At kX0_valueFor 51 (.aload_n 0) 1 52 := ⟨by decide +kernel, rfl⟩
theorem aX0_valueFor_52 : At kX0_valueFor 52 (.getfield 27) 3 55 := ⟨by decide +kernel, rfl⟩
theorem aX0_valueFor_55 : At kX0_valueFor 55 (.iload_n 3) 1 56 := ⟨by decide +kernel, rfl⟩
theorem aX0_valueFor_56 : At kX0_valueFor 56 (.iaload) 1 57 := ⟨by decide +kernel, rfl⟩
theorem aX0_valueFor_57 : At kX0_valueFor 57 (.goto 4) 3 60 := ⟨by decide +kernel, rfl⟩
theorem aX0_valueFor_60 : At kX0_valueFor 60 (.iload_n 2) 1 61 := ⟨by decide +kernel, rfl⟩
theorem aX0_valueFor_61 : At kX0_valueFor 61 (.ireturn) 1 62 := ⟨by decide +kernel, rfl⟩
theorem aX0_turnRow_0 : At kX0_turnRow 0 (.aload_n 1) 1 1 := ⟨by decide +kernel, rfl⟩
theorem aX0_turnRow_1 : At kX0_turnRow 1 (.iconst 0) 1 2 := ⟨by decide +kernel, rfl⟩
theorem aX0_turnRow_2 : At kX0_turnRow 2 (.aload_n 1) 1 3 := ⟨by decide +kernel, rfl⟩
theorem aX0_turnRow_3 : At kX0_turnRow 3 (.arraylength) 1 4 := ⟨by decide +kernel, rfl⟩
theorem aX0_turnRow_4 : At kX0_turnRow 4 (.iconst 1) 1 5 := ⟨by decide +kernel, rfl⟩
theorem aX0_turnRow_5 : At kX0_turnRow 5 (.isub) 1 6 := ⟨by decide +kernel, rfl⟩
theorem aX0_turnRow_6 : At kX0_turnRow 6 (.invokestatic 60) 3 9 := ⟨by decide +kernel, rfl⟩
theorem aX0_turnRow_9 : At kX0_turnRow 9 (.aload_n 1) 1 10 := ⟨by decide +kernel, rfl⟩
theorem aX0_turnRow_10 : At kX0_turnRow 10 (.iconst 0) 1 11 := ⟨by decide +kernel, rfl⟩
theorem aX0_turnRow_11 : At kX0_turnRow 11 (.aload_n 0) 1 12 := ⟨by decide +kernel, rfl⟩
theorem aX0_turnRow_12 : At kX0_turnRow 12 (.getfield 24) 3 15 := ⟨by decide +kernel, rfl⟩
theorem aX0_turnRow_15 : At kX0_turnRow 15 (.iconst 1) 1 16 := ⟨by decide +kernel, rfl⟩
theorem aX0_turnRow_16 : At kX0_turnRow 16 (.isub) 1 17 := ⟨by decide +kernel, rfl⟩
theorem aX0_turnRow_17 : At kX0_turnRow 17 (.invokestatic 60) 3 20 := ⟨by decide +kernel, rfl⟩
theorem aX0_turnRow_20 : At kX0_turnRow 20 (.aload_n 1) 1 21 := ⟨by decide +kernel, rfl⟩
theorem aX0_turnRow_21 : At kX0_turnRow 21 (.aload_n 0) 1 22 := ⟨by decide +kernel, rfl⟩
theorem aX0_turnRow_22 : At kX0_turnRow 22 (.getfield 24) 3 25 := ⟨by decide +kernel, rfl⟩
theorem aX0_turnRow_25 : At kX0_turnRow 25 (.aload_n 1) 1 26 := ⟨by decide +kernel, rfl⟩
theorem aX0_turnRow_26 : At kX0_turnRow 26 (.arraylength) 1 27 := ⟨by decide +kernel, rfl⟩
theorem aX0_turnRow_27 : At kX0_turnRow 27 (.iconst 1) 1 28 := ⟨by decide +kernel, rfl⟩
theorem aX0_turnRow_28 : At kX0_turnRow 28 (.isub) 1 29 := ⟨by decide +kernel, rfl⟩
theorem aX0_turnRow_29 : At kX0_turnRow 29 (.invokestatic 60) 3 32 := ⟨by decide +kernel, rfl⟩
theorem aX0_turnRow_32 : At kX0_turnRow 32 (.return_) 1 33 := ⟨by decide +kernel, rfl⟩
theorem aX0_reverse_0 : At kX0_reverse 0 (.iload_n 1) 1 1 := ⟨by decide +kernel, rfl⟩
theorem aX0_reverse_1 : At kX0_reverse 1 (.istore_n 3) 1 2 := ⟨by decide +kernel, rfl⟩
theorem aX0_reverse_2 : At kX0_reverse 2 (.iload_n 2) 1 3 := ⟨by decide +kernel, rfl⟩
theorem aX0_reverse_3 : At kX0_reverse 3 (.istore 4) 2 5 := ⟨by decide +kernel, rfl⟩
theorem aX0_reverse_5 : At kX0_reverse 5 (.iload_n 3) 1 6 := ⟨by decide +kernel, rfl⟩
theorem aX0_reverse_6 : At kX0_reverse 6 (.ifCond .lt 43) 3 9 := ⟨by decide +kernel, rfl⟩
theorem aX0_reverse_9 : At kX0_reverse 9 (.iload_n 3) 1 10 := ⟨by decide +kernel, rfl⟩
theorem aX0_reverse_10 : At kX0_reverse 10 (.iload 4) 2 12 := ⟨by decide +kernel, rfl⟩
theorem aX0_reverse_12 : At kX0_reverse 12 (.if_icmp .ge 37) 3 15 := ⟨by decide +kernel, rfl⟩
theorem aX0_reverse_15 : At kX0_reverse 15 (.iload 4) 2 17 := ⟨by decide +kernel, rfl⟩
theorem aX0_reverse_17 : At kX0_reverse 17 (.aload_n 0) 1 18 := ⟨by decide +kernel, rfl⟩
theorem aX0_reverse_18 : At kX0_reverse 18 (.arraylength) 1 19 := ⟨by decide +kernel, rfl⟩
theorem aX0_reverse_19 : At kX0_reverse 19 (.if_icmp .ge 30) 3 22 := ⟨by decide +kernel, rfl⟩
theorem aX0_reverse_22 : At kX0_reverse 22 (.aload_n 0) 1 23 := ⟨by decide +kernel, rfl⟩
theorem aX0_reverse_23 : At kX0_reverse 23 (.iload_n 3) 1 24 := ⟨by decide +kernel, rfl⟩
theorem aX0_reverse_24 : At kX0_reverse 24 (.iaload) 1 25 := ⟨by decide +kernel, rfl⟩
theorem aX0_reverse_25 : At kX0_reverse 25 (.istore 5) 2 27 := ⟨by decide +kernel, rfl⟩
theorem aX0_reverse_27 : At kX0_reverse 27 (.aload_n 0) 1 28 := ⟨by decide +kernel, rfl⟩
theorem aX0_reverse_28 : At kX0_reverse 28 (.iload_n 3) 1 29 := ⟨by decide +kernel, rfl⟩
theorem aX0_reverse_29 : At kX0_reverse 29 (.aload_n 0) 1 30 := ⟨by decide +kernel, rfl⟩
theorem aX0_reverse_30 : At kX0_reverse 30 (.iload 4) 2 32 := ⟨by decide +kernel, rfl⟩
theorem aX0_reverse_32 : At kX0_reverse 32 (.iaload) 1 33 := ⟨by decide +kernel, rfl⟩
theorem aX0_reverse_33 : At kX0_reverse 33 (.iastore) 1 34 := ⟨by decide +kernel, rfl⟩
theorem aX0_reverse_34 : At kX0_reverse 34 (.aload_n 0) 1 35 := ⟨by decide +kernel, rfl⟩
theorem aX0_reverse_35 : At kX0_reverse 35 (.iload 4) 2 37 := ⟨by decide +kernel, rfl⟩
theorem aX0_reverse_37 : At kX0_reverse 37 (.iload 5) 2 39 := ⟨by decide +kernel, rfl⟩
theorem aX0_reverse_39 : At kX0_reverse 39 (.iastore) 1 40 := ⟨by decide +kernel, rfl⟩
theorem aX0_reverse_40 : At kX0_reverse 40 (.iinc 3 1) 3 43 := ⟨by decide +kernel, rfl⟩
theorem aX0_reverse_43 : At kX0_reverse 43 (.iinc 4 (-1)) 3 46 := ⟨by decide +kernel, rfl⟩
theorem aX0_reverse_46 : At kX0_reverse 46 (.goto (-41)) 3 49 := ⟨by decide +kernel, rfl⟩
theorem aX0_reverse_49 : At kX0_reverse 49 (.return_) 1 50 := ⟨by decide +kernel, rfl⟩
theorem aX1_init_0 : At kX1_init 0 (.aload_n 0) 1 1 := ⟨by decide +kernel, rfl⟩
theorem aX1_init_1 : At kX1_init 1 (.invokespecial 3) 3 4 := ⟨by decide +kernel, rfl⟩
theorem aX1_init_4 : At kX1_init 4 (.aload_n 0) 1 5 := ⟨by decide +kernel, rfl⟩
theorem aX1_init_5 : At kX1_init 5 (.bipush 100) 2 7 := ⟨by decide +kernel, rfl⟩
theorem aX1_init_7 : At kX1_init 7 (.anewarray 9) 3 10 := ⟨by decide +kernel, rfl⟩
theorem aX1_init_10 : At kX1_init 10 (.putfield 11) 3 13 := ⟨by decide +kernel, rfl⟩
theorem aX1_init_13 : At kX1_init 13 (.aload_n 0) 1 14 := ⟨by decide +kernel, rfl⟩
theorem aX1_init_14 : At kX1_init 14 (.bipush 100) 2 16 := ⟨by decide +kernel, rfl⟩
theorem aX1_init_16 : At kX1_init 16 (.putfield 17) 3 19 := ⟨by decide +kernel, rfl⟩
theorem aX1_init_19 : At kX1_init 19 (.return_) 1 20 := ⟨by decide +kernel, rfl⟩
theorem aX1_copyFrom_0 : At kX1_copyFrom 0 (.iconst 0) 1 1 := ⟨by decide +kernel, rfl⟩
theorem aX1_copyFrom_1 : At kX1_copyFrom 1 (.istore_n 2) 1 2 := ⟨by decide +kernel, rfl⟩
theorem aX1_copyFrom_2 : At kX1_copyFrom 2 (.iload_n 2) 1 3 := ⟨by decide +kernel, rfl⟩
theorem aX1_copyFrom_3 : At kX1_copyFrom 3 (.bipush 100) 2 5 := ⟨by decide +kernel, rfl⟩
theorem aX1_copyFrom_5 : At kX1_copyFrom 5 (.if_icmp .ge 21) 3 8 := ⟨by decide +kernel, rfl⟩
theorem aX1_copyFrom_8 : At kX1_copyFrom 8 (.aload_n 0) 1 9 := ⟨by decide +kernel, rfl⟩
theorem aX1_copyFrom_9 : At kX1_copyFrom 9 (.getfield 11) 3 12 := ⟨by decide +kernel, rfl⟩
theorem aX1_copyFrom_12 : At kX1_copyFrom 12 (.iload_n 2) 1 13 := ⟨by decide +kernel, rfl⟩
theorem aX1_copyFrom_13 : At kX1_copyFrom 13 (.aload_n 1) 1 14 := ⟨by decide +kernel, rfl⟩
theorem aX1_copyFrom_14 : At kX1_copyFrom 14 (.getfield 11) 3 17 := ⟨by decide +kernel, rfl⟩
theorem aX1_copyFrom_17 : At kX1_copyFrom 17 (.iload_n 2) 1 18 := ⟨by decide +kernel, rfl⟩
theorem aX1_copyFrom_18 : At kX1_copyFrom 18 (.aaload) 1 19 := ⟨by decide +kernel, rfl⟩
theorem aX1_copyFrom_19 : At kX1_copyFrom 19 (.aastore) 1 20 := ⟨by decide +kernel, rfl⟩
theorem aX1_copyFrom_20 : At kX1_copyFrom 20 (.iinc 2 1) 3 23 := ⟨by decide +kernel, rfl⟩
theorem aX1_copyFrom_23 : At kX1_copyFrom 23 (.goto (-21)) 3 26 := ⟨by decide +kernel, rfl⟩
theorem aX1_copyFrom_26 : At kX1_copyFrom 26 (.aload_n 0) 1 27 := ⟨by decide +kernel, rfl⟩
theorem aX1_copyFrom_27 : At kX1_copyFrom 27 (.aload_n 1) 1 28 := ⟨by decide +kernel, rfl⟩
theorem aX1_copyFrom_28 : At kX1_copyFrom 28 (.getfield 21) 3 31 := ⟨by decide +kernel, rfl⟩
theorem aX1_copyFrom_31 : At kX1_copyFrom 31 (.putfield 21) 3 34 := ⟨by decide +kernel, rfl⟩
theorem aX1_copyFrom_34 : At kX1_copyFrom 34 (.aload_n 0) 1 35 := ⟨by decide +kernel, rfl⟩
theorem aX1_copyFrom_35 : At kX1_copyFrom 35 (.aload_n 1) 1 36 := ⟨by decide +kernel, rfl⟩
theorem aX1_copyFrom_36 : At kX1_copyFrom 36 (.getfield 24) 3 39 := ⟨by decide +kernel, rfl⟩
theorem aX1_copyFrom_39 : At kX1_copyFrom 39 (.putfield 24) 3 42 := ⟨by decide +kernel, rfl⟩
theorem aX1_copyFrom_42 : At kX1_copyFrom 42 (.aload_n 0) 1 43 := ⟨by decide +kernel, rfl⟩
theorem aX1_copyFrom_43 : At kX1_copyFrom 43 (.aload_n 1) 1 44 := ⟨by decide +kernel, rfl⟩
theorem aX1_copyFrom_44 : At kX1_copyFrom 44 (.getfield 27) 3 47 := ⟨by decide +kernel, rfl⟩
theorem aX1_copyFrom_47 : At kX1_copyFrom 47 (.putfield 27) 3 50 := ⟨by decide +kernel, rfl⟩
theorem aX1_copyFrom_50 : At kX1_copyFrom 50 (.aload_n 0) 1 51 := ⟨by decide +kernel, rfl⟩
theorem aX1_copyFrom_51 : At kX1_copyFrom 51 (.aload_n 1) 1 52 := ⟨by decide +kernel, rfl⟩
theorem aX1_copyFrom_52 : At kX1_copyFrom 52 (.getfield 17) 3 55 := ⟨by decide +kernel, rfl⟩
theorem aX1_copyFrom_55 : At kX1_copyFrom 55 (.putfield 17) 3 58 := ⟨by decide +kernel, rfl⟩
theorem aX1_copyFrom_58 : At kX1_copyFrom 58 (.return_) 1 59 := ⟨by decide +kernel, rfl⟩
theorem aX1_next_0 : At kX1_next 0 (.aload_n 0) 1 1 := ⟨by decide +kernel, rfl⟩
theorem aX1_next_1 : At kX1_next 1 (.getfield 21) 3 4 := ⟨by decide +kernel, rfl⟩
theorem aX1_next_4 : At kX1_next 4 (.aload_n 0) 1 5 := ⟨by decide +kernel, rfl⟩
theorem aX1_next_5 : At kX1_next 5 (.getfield 24) 3 8 := ⟨by decide +kernel, rfl⟩
theorem aX1_next_8 : At kX1_next 8 (.iadd) 1 9 := ⟨by decide +kernel, rfl⟩
theorem aX1_next_9 : At kX1_next 9 (.ireturn) 1 10 := ⟨by decide +kernel, rfl⟩
theorem aX1_holds_0 : At kX1_holds 0 (.iload_n 1) 1 1 := ⟨by decide +kernel, rfl⟩
theorem aX1_holds_1 : At kX1_holds 1 (.aload_n 0) 1 2 := ⟨by decide +kernel, rfl⟩
theorem aX1_holds_2 : At kX1_holds 2 (.getfield 21) 3 5 := ⟨by decide +kernel, rfl⟩
theorem aX1_holds_5 : At kX1_holds 5 (.if_icmp .lt 15) 3 8 := ⟨by decide +kernel, rfl⟩
theorem aX1_holds_8 : At kX1_holds 8 (.iload_n 1) 1 9 := ⟨by decide +kernel, rfl⟩
theorem aX1_holds_9 : At kX1_holds 9 (.aload_n 0) 1 10 := ⟨by decide +kernel, rfl⟩
theorem aX1_holds_10 : At kX1_holds 10 (.invokevirtual 30) 3 13 := ⟨by decide +kernel, rfl⟩
theorem aX1_holds_13 : At kX1_holds 13 (.if_icmp .ge 7) 3 16 := ⟨by decide +kernel, rfl⟩
theorem aX1_holds_16 : At kX1_holds 16 (.iconst 1) 1 17 := ⟨by decide +kernel, rfl⟩
theorem aX1_holds_17 : At kX1_holds 17 (.goto 4) 3 20 := ⟨by decide +kernel, rfl⟩
theorem aX1_holds_20 : At kX1_holds 20 (.iconst 0) 1 21 := ⟨by decide +kernel, rfl⟩
theorem aX1_holds_21 : At kX1_holds 21 (.ireturn) 1 22 := ⟨by decide +kernel, rfl⟩
theorem aX1_at_0 : At kX1_at 0 (.iload_n 1) 1 1 := ⟨by decide +kernel, rfl⟩
theorem aX1_at_1 : At kX1_at 1 (.aload_n 0) 1 2 := ⟨by decide +kernel, rfl⟩
theorem aX1_at_2 : At kX1_at 2 (.getfield 21) 3 5 := ⟨by decide +kernel, rfl⟩
theorem aX1_at_5 : At kX1_at 5 (.isub) 1 6 := ⟨by decide +kernel, rfl⟩
theorem aX1_at_6 : At kX1_at 6 (.istore_n 2) 1 7 := ⟨by decide +kernel, rfl⟩
theorem aX1_at_7 : At kX1_at 7 (.iload_n 1) 1 8 := ⟨by decide +kernel, rfl⟩
theorem aX1_at_8 : At kX1_at 8 (.aload_n 0) 1 9 := ⟨by decide +kernel, rfl⟩
theorem aX1_at_9 : At kX1_at 9 (.getfield 21) 3 12 := ⟨by decide +kernel, rfl⟩
theorem aX1_at_12 : At kX1_at 12 (.if_icmp .lt 26) 3 15 := ⟨by decide +kernel, rfl⟩
theorem aX1_at_15 : At kX1_at 15 (.iload_n 2) 1 16 := ⟨by decide +kernel, rfl⟩
theorem aX1_at_16 : At kX1_at 16 (.aload_n 0) 1 17 := ⟨by decide +kernel, rfl⟩
theorem aX1_at_17 : At kX1_at 17 (.getfield 24) 3 20 := ⟨by decide +kernel, rfl⟩
theorem aX1_at_20 : At kX1_at 20 (.if_icmp .ge 18) 3 23 := ⟨by decide +kernel, rfl⟩
theorem aX1_at_23 : At kX1_at 23 (.iload_n 2) 1 24 := ⟨by decide +kernel, rfl⟩
theorem aX1_at_24 : At kX1_at 24 (.bipush 100) 2 26 := ⟨by decide +kernel, rfl⟩
theorem aX1_at_26 : At kX1_at 26 (.if_icmp .ge 12) 3 29 := ⟨by decide +kernel, rfl⟩
theorem aX1_at_29 : At kX1_at 29 (.aload_n 0) 1 30 := ⟨by decide +kernel, rfl⟩
theorem aX1_at_30 : At kX1_at 30 (.getfield 11) 3 33 := ⟨by decide +kernel, rfl⟩
theorem aX1_at_33 : At kX1_at 33 (.iload_n 2) 1 34 := ⟨by decide +kernel, rfl⟩
theorem aX1_at_34 : At kX1_at 34 (.aaload) 1 35 := ⟨by decide +kernel, rfl⟩
theorem aX1_at_35 : At kX1_at 35 (.goto 4) 3 38 := ⟨by decide +kernel, rfl⟩
theorem aX1_at_38 : At kX1_at 38 (.aconst_null) 1 39 := ⟨by decide +kernel, rfl⟩
theorem aX1_at_39 : At kX1_at 39 (.areturn) 1 40 := ⟨by decide +kernel, rfl⟩
theorem aX1_replace_0 : At kX1_replace 0 (.iload_n 1) 1 1 := ⟨by decide +kernel, rfl⟩
theorem aX1_replace_1 : At kX1_replace 1 (.aload_n 0) 1 2 := ⟨by decide +kernel, rfl⟩
theorem aX1_replace_2 : At kX1_replace 2 (.getfield 21) 3 5 := ⟨by decide +kernel, rfl⟩
theorem aX1_replace_5 : At kX1_replace 5 (.isub) 1 6 := ⟨by decide +kernel, rfl⟩
theorem aX1_replace_6 : At kX1_replace 6 (.istore_n 3) 1 7 := ⟨by decide +kernel, rfl⟩
theorem aX1_replace_7 : At kX1_replace 7 (.iload_n 1) 1 8 := ⟨by decide +kernel, rfl⟩
theorem aX1_replace_8 : At kX1_replace 8 (.aload_n 0) 1 9 := ⟨by decide +kernel, rfl⟩
theorem aX1_replace_9 : At kX1_replace 9 (.getfield 21) 3 12 := ⟨by decide +kernel, rfl⟩
theorem aX1_replace_12 : At kX1_replace 12 (.if_icmp .lt 24) 3 15 := ⟨by decide +kernel, rfl⟩
theorem aX1_replace_15 : At kX1_replace 15 (.iload_n 3) 1 16 := ⟨by decide +kernel, rfl⟩
theorem aX1_replace_16 : At kX1_replace 16 (.aload_n 0) 1 17 := ⟨by decide +kernel, rfl⟩
theorem aX1_replace_17 : At kX1_replace 17 (.getfield 24) 3 20 := ⟨by decide +kernel, rfl⟩
theorem aX1_replace_20 : At kX1_replace 20 (.if_icmp .ge 16) 3 23 := ⟨by decide +kernel, rfl⟩
theorem aX1_replace_23 : At kX1_replace 23 (.iload_n 3) 1 24 := ⟨by decide +kernel, rfl⟩
theorem aX1_replace_24 : At kX1_replace 24 (.bipush 100) 2 26 := ⟨by decide +kernel, rfl⟩
theorem aX1_replace_26 : At kX1_replace 26 (.if_icmp .ge 10) 3 29 := ⟨by decide +kernel, rfl⟩
theorem aX1_replace_29 : At kX1_replace 29 (.aload_n 0) 1 30 := ⟨by decide +kernel, rfl⟩
theorem aX1_replace_30 : At kX1_replace 30 (.getfield 11) 3 33 := ⟨by decide +kernel, rfl⟩
theorem aX1_replace_33 : At kX1_replace 33 (.iload_n 3) 1 34 := ⟨by decide +kernel, rfl⟩
theorem aX1_replace_34 : At kX1_replace 34 (.aload_n 2) 1 35 := ⟨by decide +kernel, rfl⟩
theorem aX1_replace_35 : At kX1_replace 35 (.aastore) 1 36 := ⟨by decide +kernel, rfl⟩
theorem aX1_replace_36 : At kX1_replace 36 (.return_) 1 37 := ⟨by decide +kernel, rfl⟩
theorem aX1_append_0 : At kX1_append 0 (.aload_n 0) 1 1 := ⟨by decide +kernel, rfl⟩
theorem aX1_append_1 : At kX1_append 1 (.getfield 24) 3 4 := ⟨by decide +kernel, rfl⟩
theorem aX1_append_4 : At kX1_append 4 (.bipush 100) 2 6 := ⟨by decide +kernel, rfl⟩
theorem aX1_append_6 : At kX1_append 6 (.if_icmp .ge 23) 3 9 := ⟨by decide +kernel, rfl⟩
theorem aX1_append_9 : At kX1_append 9 (.aload_n 0) 1 10 := ⟨by decide +kernel, rfl⟩
theorem aX1_append_10 : At kX1_append 10 (.getfield 11) 3 13 := ⟨by decide +kernel, rfl⟩
theorem aX1_append_13 : At kX1_append 13 (.aload_n 0) 1 14 := ⟨by decide +kernel, rfl⟩
theorem aX1_append_14 : At kX1_append 14 (.getfield 24) 3 17 := ⟨by decide +kernel, rfl⟩
theorem aX1_append_17 : At kX1_append 17 (.aload_n 1) 1 18 := ⟨by decide +kernel, rfl⟩
theorem aX1_append_18 : At kX1_append 18 (.aastore) 1 19 := ⟨by decide +kernel, rfl⟩
theorem aX1_append_19 : At kX1_append 19 (.aload_n 0) 1 20 := ⟨by decide +kernel, rfl⟩
theorem aX1_append_20 : At kX1_append 20 (.dup) 1 21 := ⟨by decide +kernel, rfl⟩
theorem aX1_append_21 : At kX1_append 21 (.getfield 24) 3 24 := ⟨by decide +kernel, rfl⟩
theorem aX1_append_24 : At kX1_append 24 (.iconst 1) 1 25 := ⟨by decide +kernel, rfl⟩
theorem aX1_append_25 : At kX1_append 25 (.iadd) 1 26 := ⟨by decide +kernel, rfl⟩
theorem aX1_append_26 : At kX1_append 26 (.putfield 24) 3 29 := ⟨by decide +kernel, rfl⟩
theorem aX1_append_29 : At kX1_append 29 (.return_) 1 30 := ⟨by decide +kernel, rfl⟩
theorem aX1_dropFirst_0 : At kX1_dropFirst 0 (.iconst 1) 1 1 := ⟨by decide +kernel, rfl⟩
theorem aX1_dropFirst_1 : At kX1_dropFirst 1 (.istore_n 1) 1 2 := ⟨by decide +kernel, rfl⟩
theorem aX1_dropFirst_2 : At kX1_dropFirst 2 (.iload_n 1) 1 3 := ⟨by decide +kernel, rfl⟩
theorem aX1_dropFirst_3 : At kX1_dropFirst 3 (.aload_n 0) 1 4 := ⟨by decide +kernel, rfl⟩
theorem aX1_dropFirst_4 : At kX1_dropFirst 4 (.getfield 24) 3 7 := ⟨by decide +kernel, rfl⟩
theorem aX1_dropFirst_7 : At kX1_dropFirst 7 (.if_icmp .ge 29) 3 10 := ⟨by decide +kernel, rfl⟩
theorem aX1_dropFirst_10 : At kX1_dropFirst 10 (.iload_n 1) 1 11 := ⟨by decide +kernel, rfl⟩
theorem aX1_dropFirst_11 : At kX1_dropFirst 11 (.bipush 100) 2 13 := ⟨by decide +kernel, rfl⟩
theorem aX1_dropFirst_13 : At kX1_dropFirst 13 (.if_icmp .ge 23) 3 16 := ⟨by decide +kernel, rfl⟩
theorem aX1_dropFirst_16 : At kX1_dropFirst 16 (.aload_n 0) 1 17 := ⟨by decide +kernel, rfl⟩
theorem aX1_dropFirst_17 : At kX1_dropFirst 17 (.getfield 11) 3 20 := ⟨by decide +kernel, rfl⟩
theorem aX1_dropFirst_20 : At kX1_dropFirst 20 (.iload_n 1) 1 21 := ⟨by decide +kernel, rfl⟩
theorem aX1_dropFirst_21 : At kX1_dropFirst 21 (.iconst 1) 1 22 := ⟨by decide +kernel, rfl⟩
theorem aX1_dropFirst_22 : At kX1_dropFirst 22 (.isub) 1 23 := ⟨by decide +kernel, rfl⟩
theorem aX1_dropFirst_23 : At kX1_dropFirst 23 (.aload_n 0) 1 24 := ⟨by decide +kernel, rfl⟩
theorem aX1_dropFirst_24 : At kX1_dropFirst 24 (.getfield 11) 3 27 := ⟨by decide +kernel, rfl⟩
theorem aX1_dropFirst_27 : At kX1_dropFirst 27 (.iload_n 1) 1 28 := ⟨by decide +kernel, rfl⟩
theorem aX1_dropFirst_28 : At kX1_dropFirst 28 (.aaload) 1 29 := ⟨by decide +kernel, rfl⟩
theorem aX1_dropFirst_29 : At kX1_dropFirst 29 (.aastore) 1 30 := ⟨by decide +kernel, rfl⟩
theorem aX1_dropFirst_30 : At kX1_dropFirst 30 (.iinc 1 1) 3 33 := ⟨by decide +kernel, rfl⟩
theorem aX1_dropFirst_33 : At kX1_dropFirst 33 (.goto (-31)) 3 36 := ⟨by decide +kernel, rfl⟩
theorem aX1_dropFirst_36 : At kX1_dropFirst 36 (.aload_n 0) 1 37 := ⟨by decide +kernel, rfl⟩
theorem aX1_dropFirst_37 : At kX1_dropFirst 37 (.getfield 24) 3 40 := ⟨by decide +kernel, rfl⟩
theorem aX1_dropFirst_40 : At kX1_dropFirst 40 (.ifCond .le 23) 3 43 := ⟨by decide +kernel, rfl⟩
theorem aX1_dropFirst_43 : At kX1_dropFirst 43 (.aload_n 0) 1 44 := ⟨by decide +kernel, rfl⟩
theorem aX1_dropFirst_44 : At kX1_dropFirst 44 (.dup) 1 45 := ⟨by decide +kernel, rfl⟩
theorem aX1_dropFirst_45 : At kX1_dropFirst 45 (.getfield 21) 3 48 := ⟨by decide +kernel, rfl⟩
theorem aX1_dropFirst_48 : At kX1_dropFirst 48 (.iconst 1) 1 49 := ⟨by decide +kernel, rfl⟩
theorem aX1_dropFirst_49 : At kX1_dropFirst 49 (.iadd) 1 50 := ⟨by decide +kernel, rfl⟩
theorem aX1_dropFirst_50 : At kX1_dropFirst 50 (.putfield 21) 3 53 := ⟨by decide +kernel, rfl⟩
theorem aX1_dropFirst_53 : At kX1_dropFirst 53 (.aload_n 0) 1 54 := ⟨by decide +kernel, rfl⟩
theorem aX1_dropFirst_54 : At kX1_dropFirst 54 (.dup) 1 55 := ⟨by decide +kernel, rfl⟩
theorem aX1_dropFirst_55 : At kX1_dropFirst 55 (.getfield 24) 3 58 := ⟨by decide +kernel, rfl⟩
theorem aX1_dropFirst_58 : At kX1_dropFirst 58 (.iconst 1) 1 59 := ⟨by decide +kernel, rfl⟩
theorem aX1_dropFirst_59 : At kX1_dropFirst 59 (.isub) 1 60 := ⟨by decide +kernel, rfl⟩
theorem aX1_dropFirst_60 : At kX1_dropFirst 60 (.putfield 24) 3 63 := ⟨by decide +kernel, rfl⟩
theorem aX1_dropFirst_63 : At kX1_dropFirst 63 (.return_) 1 64 := ⟨by decide +kernel, rfl⟩
theorem aX1_loseUnflushed_0 : At kX1_loseUnflushed 0 (.aload_n 0) 1 1 := ⟨by decide +kernel, rfl⟩
theorem aX1_loseUnflushed_1 : At kX1_loseUnflushed 1 (.invokevirtual 30) 3 4 := ⟨by decide +kernel, rfl⟩
theorem aX1_loseUnflushed_4 : At kX1_loseUnflushed 4 (.aload_n 0) 1 5 := ⟨by decide +kernel, rfl⟩
theorem aX1_loseUnflushed_5 : At kX1_loseUnflushed 5 (.getfield 27) 3 8 := ⟨by decide +kernel, rfl⟩
theorem aX1_loseUnflushed_8 : At kX1_loseUnflushed 8 (.isub) 1 9 := ⟨by decide +kernel, rfl⟩
theorem aX1_loseUnflushed_9 : At kX1_loseUnflushed 9 (.istore_n 1) 1 10 := ⟨by decide +kernel, rfl⟩
theorem aX1_loseUnflushed_10 : At kX1_loseUnflushed 10 (.aload_n 0) 1 11 := ⟨by decide +kernel, rfl⟩
theorem aX1_loseUnflushed_11 : At kX1_loseUnflushed 11 (.aload_n 0) 1 12 := ⟨by decide +kernel, rfl⟩
theorem aX1_loseUnflushed_12 : At kX1_loseUnflushed 12 (.getfield 27) 3 15 := ⟨by decide +kernel, rfl⟩
theorem aX1_loseUnflushed_15 : At kX1_loseUnflushed 15 (.aload_n 0) 1 16 := ⟨by decide +kernel, rfl⟩
theorem aX1_loseUnflushed_16 : At kX1_loseUnflushed 16 (.getfield 21) 3 19 := ⟨by decide +kernel, rfl⟩
theorem aX1_loseUnflushed_19 : At kX1_loseUnflushed 19 (.isub) 1 20 := ⟨by decide +kernel, rfl⟩
theorem aX1_loseUnflushed_20 : At kX1_loseUnflushed 20 (.putfield 24) 3 23 := ⟨by decide +kernel, rfl⟩
theorem aX1_loseUnflushed_23 : At kX1_loseUnflushed 23 (.iload_n 1) 1 24 := ⟨by decide +kernel, rfl⟩
theorem aX1_loseUnflushed_24 : At kX1_loseUnflushed 24 (.ireturn) 1 25 := ⟨by decide +kernel, rfl⟩
theorem aX1_sizes_0 : At kX1_sizes 0 (.iconst 0) 1 1 := ⟨by decide +kernel, rfl⟩
theorem aX1_sizes_1 : At kX1_sizes 1 (.istore_n 1) 1 2 := ⟨by decide +kernel, rfl⟩
theorem aX1_sizes_2 : At kX1_sizes 2 (.aload_n 0) 1 3 := ⟨by decide +kernel, rfl⟩
theorem aX1_sizes_3 : At kX1_sizes 3 (.getfield 21) 3 6 := ⟨by decide +kernel, rfl⟩
theorem aX1_sizes_6 : At kX1_sizes 6 (.istore_n 2) 1 7 := ⟨by decide +kernel, rfl⟩
theorem aX1_sizes_7 : At kX1_sizes 7 (.iload_n 2) 1 8 := ⟨by decide +kernel, rfl⟩
theorem aX1_sizes_8 : At kX1_sizes 8 (.aload_n 0) 1 9 := ⟨by decide +kernel, rfl⟩
theorem aX1_sizes_9 : At kX1_sizes 9 (.invokevirtual 30) 3 12 := ⟨by decide +kernel, rfl⟩
theorem aX1_sizes_12 : At kX1_sizes 12 (.if_icmp .ge 26) 3 15 := ⟨by decide +kernel, rfl⟩
theorem aX1_sizes_15 : At kX1_sizes 15 (.aload_n 0) 1 16 := ⟨by decide +kernel, rfl⟩
theorem aX1_sizes_16 : At kX1_sizes 16 (.iload_n 2) 1 17 := ⟨by decide +kernel, rfl⟩
theorem aX1_sizes_17 : At kX1_sizes 17 (.invokevirtual 34) 3 20 := ⟨by decide +kernel, rfl⟩
theorem aX1_sizes_20 : At kX1_sizes 20 (.astore_n 3) 1 21 := ⟨by decide +kernel, rfl⟩
theorem aX1_sizes_21 : At kX1_sizes 21 (.aload_n 3) 1 22 := ⟨by decide +kernel, rfl⟩
theorem aX1_sizes_22 : At kX1_sizes 22 (.ifnull 10) 3 25 := ⟨by decide +kernel, rfl⟩
theorem aX1_sizes_25 : At kX1_sizes 25 (.iload_n 1) 1 26 := ⟨by decide +kernel, rfl⟩
theorem aX1_sizes_26 : At kX1_sizes 26 (.aload_n 3) 1 27 := ⟨by decide +kernel, rfl⟩
theorem aX1_sizes_27 : At kX1_sizes 27 (.getfield 38) 3 30 := ⟨by decide +kernel, rfl⟩
theorem aX1_sizes_30 : At kX1_sizes 30 (.iadd) 1 31 := ⟨by decide +kernel, rfl⟩
theorem aX1_sizes_31 : At kX1_sizes 31 (.istore_n 1) 1 32 := ⟨by decide +kernel, rfl⟩
theorem aX1_sizes_32 : At kX1_sizes 32 (.iinc 2 1) 3 35 := ⟨by decide +kernel, rfl⟩
theorem aX1_sizes_35 : At kX1_sizes 35 (.goto (-28)) 3 38 := ⟨by decide +kernel, rfl⟩
theorem aX1_sizes_38 : At kX1_sizes 38 (.iload_n 1) 1 39 := ⟨by decide +kernel, rfl⟩
theorem aX1_sizes_39 : At kX1_sizes 39 (.ireturn) 1 40 := ⟨by decide +kernel, rfl⟩
theorem aX1_entriesOf_0 : At kX1_entriesOf 0 (.iconst 0) 1 1 := ⟨by decide +kernel, rfl⟩
theorem aX1_entriesOf_1 : At kX1_entriesOf 1 (.istore 4) 2 3 := ⟨by decide +kernel, rfl⟩
theorem aX1_entriesOf_3 : At kX1_entriesOf 3 (.iload_n 2) 1 4 := ⟨by decide +kernel, rfl⟩
theorem aX1_entriesOf_4 : At kX1_entriesOf 4 (.aload_n 0) 1 5 := ⟨by decide +kernel, rfl⟩
theorem aX1_entriesOf_5 : At kX1_entriesOf 5 (.getfield 21) 3 8 := ⟨by decide +kernel, rfl⟩
theorem aX1_entriesOf_8 : At kX1_entriesOf 8 (.invokestatic 41) 3 11 := ⟨by decide +kernel, rfl⟩
theorem aX1_entriesOf_11 : At kX1_entriesOf 11 (.istore 5) 2 13 := ⟨by decide +kernel, rfl⟩
theorem aX1_entriesOf_13 : At kX1_entriesOf 13 (.iload 5) 2 15 := ⟨by decide +kernel, rfl⟩
theorem aX1_entriesOf_15 : At kX1_entriesOf 15 (.iload_n 3) 1 16 := ⟨by decide +kernel, rfl⟩
theorem aX1_entriesOf_16 : At kX1_entriesOf 16 (.if_icmp .ge 34) 3 19 := ⟨by decide +kernel, rfl⟩
theorem aX1_entriesOf_19 : At kX1_entriesOf 19 (.aload_n 0) 1 20 := ⟨by decide +kernel, rfl⟩
theorem aX1_entriesOf_20 : At kX1_entriesOf 20 (.iload 5) 2 22 := ⟨by decide +kernel, rfl⟩
theorem aX1_entriesOf_22 : At kX1_entriesOf 22 (.invokevirtual 34) 3 25 := ⟨by decide +kernel, rfl⟩
theorem aX1_entriesOf_25 : At kX1_entriesOf 25 (.astore 6) 2 27 := ⟨by decide +kernel, rfl⟩
theorem aX1_entriesOf_27 : At kX1_entriesOf 27 (.aload 6) 2 29 := ⟨by decide +kernel, rfl⟩
theorem aX1_entriesOf_29 : At kX1_entriesOf 29 (.ifnull 15) 3 32 := ⟨by decide +kernel, rfl⟩
theorem aX1_entriesOf_32 : At kX1_entriesOf 32 (.aload 6) 2 34 := ⟨by decide +kernel, rfl⟩
theorem aX1_entriesOf_34 : At kX1_entriesOf 34 (.getfield 47) 3 37 := ⟨by decide +kernel, rfl⟩
theorem aX1_entriesOf_37 : At kX1_entriesOf 37 (.iload_n 1) 1 38 := ⟨by decide +kernel, rfl⟩
theorem aX1_entriesOf_38 : At kX1_entriesOf 38 (.if_icmp .ne 6) 3 41 := ⟨by decide +kernel, rfl⟩
theorem aX1_entriesOf_41 : At kX1_entriesOf 41 (.iinc 4 1) 3 44 := ⟨by decide +kernel, rfl⟩
theorem aX1_entriesOf_44 : At kX1_entriesOf 44 (.iinc 5 1) 3 47 := ⟨by decide +kernel, rfl⟩
theorem aX1_entriesOf_47 : At kX1_entriesOf 47 (.goto (-34)) 3 50 := ⟨by decide +kernel, rfl⟩
theorem aX1_entriesOf_50 : At kX1_entriesOf 50 (.iload 4) 2 52 := ⟨by decide +kernel, rfl⟩
theorem aX1_entriesOf_52 : At kX1_entriesOf 52 (.ireturn) 1 53 := ⟨by decide +kernel, rfl⟩
theorem aX1_timesOf_0 : At kX1_timesOf 0 (.iconst 0) 1 1 := ⟨by decide +kernel, rfl⟩
theorem aX1_timesOf_1 : At kX1_timesOf 1 (.istore 4) 2 3 := ⟨by decide +kernel, rfl⟩
theorem aX1_timesOf_3 : At kX1_timesOf 3 (.iload_n 2) 1 4 := ⟨by decide +kernel, rfl⟩
theorem aX1_timesOf_4 : At kX1_timesOf 4 (.aload_n 0) 1 5 := ⟨by decide +kernel, rfl⟩
theorem aX1_timesOf_5 : At kX1_timesOf 5 (.getfield 21) 3 8 := ⟨by decide +kernel, rfl⟩
theorem aX1_timesOf_8 : At kX1_timesOf 8 (.invokestatic 41) 3 11 := ⟨by decide +kernel, rfl⟩
theorem aX1_timesOf_11 : At kX1_timesOf 11 (.istore 5) 2 13 := ⟨by decide +kernel, rfl⟩
theorem aX1_timesOf_13 : At kX1_timesOf 13 (.iload 5) 2 15 := ⟨by decide +kernel, rfl⟩
theorem aX1_timesOf_15 : At kX1_timesOf 15 (.iload_n 3) 1 16 := ⟨by decide +kernel, rfl⟩
theorem aX1_timesOf_16 : At kX1_timesOf 16 (.if_icmp .ge 41) 3 19 := ⟨by decide +kernel, rfl⟩
theorem aX1_timesOf_19 : At kX1_timesOf 19 (.aload_n 0) 1 20 := ⟨by decide +kernel, rfl⟩
theorem aX1_timesOf_20 : At kX1_timesOf 20 (.iload 5) 2 22 := ⟨by decide +kernel, rfl⟩
theorem aX1_timesOf_22 : At kX1_timesOf 22 (.invokevirtual 34) 3 25 := ⟨by decide +kernel, rfl⟩
theorem aX1_timesOf_25 : At kX1_timesOf 25 (.astore 6) 2 27 := ⟨by decide +kernel, rfl⟩
theorem aX1_timesOf_27 : At kX1_timesOf 27 (.aload 6) 2 29 := ⟨by decide +kernel, rfl⟩
theorem aX1_timesOf_29 : At kX1_timesOf 29 (.ifnull 22) 3 32 := ⟨by decide +kernel, rfl⟩
theorem aX1_timesOf_32 : At kX1_timesOf 32 (.aload 6) 2 34 := ⟨by decide +kernel, rfl⟩
theorem aX1_timesOf_34 : At kX1_timesOf 34 (.getfield 47) 3 37 := ⟨by decide +kernel, rfl⟩
theorem aX1_timesOf_37 : At kX1_timesOf 37 (.iload_n 1) 1 38 := ⟨by decide +kernel, rfl⟩
theorem aX1_timesOf_38 : At kX1_timesOf 38 (.if_icmp .ne 13) 3 41 := ⟨by decide +kernel, rfl⟩
theorem aX1_timesOf_41 : At kX1_timesOf 41 (.iload 4) 2 43 := ⟨by decide +kernel, rfl⟩
theorem aX1_timesOf_43 : At kX1_timesOf 43 (.aload 6) 2 45 := ⟨by decide +kernel, rfl⟩
theorem aX1_timesOf_45 : At kX1_timesOf 45 (.invokevirtual 50) 3 48 := ⟨by decide +kernel, rfl⟩
theorem aX1_timesOf_48 : At kX1_timesOf 48 (.iadd) 1 49 := ⟨by decide +kernel, rfl⟩
theorem aX1_timesOf_49 : At kX1_timesOf 49 (.istore 4) 2 51 := ⟨by decide +kernel, rfl⟩
theorem aX1_timesOf_51 : At kX1_timesOf 51 (.iinc 5 1) 3 54 := ⟨by decide +kernel, rfl⟩
theorem aX1_timesOf_54 : At kX1_timesOf 54 (.goto (-41)) 3 57 := ⟨by decide +kernel, rfl⟩
theorem aX1_timesOf_57 : At kX1_timesOf 57 (.iload 4) 2 59 := ⟨by decide +kernel, rfl⟩
theorem aX1_timesOf_59 : At kX1_timesOf 59 (.ireturn) 1 60 := ⟨by decide +kernel, rfl⟩
theorem aX1_latestPicture_0 : At kX1_latestPicture 0 (.iload_n 2) 1 1 := ⟨by decide +kernel, rfl⟩
theorem aX1_latestPicture_1 : At kX1_latestPicture 1 (.iconst 1) 1 2 := ⟨by decide +kernel, rfl⟩
theorem aX1_latestPicture_2 : At kX1_latestPicture 2 (.isub) 1 3 := ⟨by decide +kernel, rfl⟩
theorem aX1_latestPicture_3 : At kX1_latestPicture 3 (.istore_n 3) 1 4 := ⟨by decide +kernel, rfl⟩
theorem aX1_latestPicture_4 : At kX1_latestPicture 4 (.iload_n 3) 1 5 := ⟨by decide +kernel, rfl⟩
theorem aX1_latestPicture_5 : At kX1_latestPicture 5 (.aload_n 0) 1 6 := ⟨by decide +kernel, rfl⟩
theorem aX1_latestPicture_6 : At kX1_latestPicture 6 (.getfield 21) 3 9 := ⟨by decide +kernel, rfl⟩
theorem aX1_latestPicture_9 : At kX1_latestPicture 9 (.if_icmp .lt 40) 3 12 := ⟨by decide +kernel, rfl⟩
theorem aX1_latestPicture_12 : At kX1_latestPicture 12 (.aload_n 0) 1 13 := ⟨by decide +kernel, rfl⟩
theorem aX1_latestPicture_13 : At kX1_latestPicture 13 (.iload_n 3) 1 14 := ⟨by decide +kernel, rfl⟩
theorem aX1_latestPicture_14 : At kX1_latestPicture 14 (.invokevirtual 34) 3 17 := ⟨by decide +kernel, rfl⟩
theorem aX1_latestPicture_17 : At kX1_latestPicture 17 (.astore 4) 2 19 := ⟨by decide +kernel, rfl⟩
theorem aX1_latestPicture_19 : At kX1_latestPicture 19 (.aload 4) 2 21 := ⟨by decide +kernel, rfl⟩
theorem aX1_latestPicture_21 : At kX1_latestPicture 21 (.ifnull 22) 3 24 := ⟨by decide +kernel, rfl⟩
theorem aX1_latestPicture_24 : At kX1_latestPicture 24 (.aload 4) 2 26 := ⟨by decide +kernel, rfl⟩
theorem aX1_latestPicture_26 : At kX1_latestPicture 26 (.getfield 47) 3 29 := ⟨by decide +kernel, rfl⟩
theorem aX1_latestPicture_29 : At kX1_latestPicture 29 (.iload_n 1) 1 30 := ⟨by decide +kernel, rfl⟩
theorem aX1_latestPicture_30 : At kX1_latestPicture 30 (.if_icmp .ne 13) 3 33 := ⟨by decide +kernel, rfl⟩
theorem aX1_latestPicture_33 : At kX1_latestPicture 33 (.aload 4) 2 35 := ⟨by decide +kernel, rfl⟩
theorem aX1_latestPicture_35 : At kX1_latestPicture 35 (.getfield 53) 3 38 := ⟨by decide +kernel, rfl⟩
theorem aX1_latestPicture_38 : At kX1_latestPicture 38 (.ifCond .ne 5) 3 41 := ⟨by decide +kernel, rfl⟩
theorem aX1_latestPicture_41 : At kX1_latestPicture 41 (.iload_n 3) 1 42 := ⟨by decide +kernel, rfl⟩
theorem aX1_latestPicture_42 : At kX1_latestPicture 42 (.ireturn) 1 43 := ⟨by decide +kernel, rfl⟩
theorem aX1_latestPicture_43 : At kX1_latestPicture 43 (.iinc 3 (-1)) 3 46 := ⟨by decide +kernel, rfl⟩
theorem aX1_latestPicture_46 : At kX1_latestPicture 46 (.goto (-42)) 3 49 := ⟨by decide +kernel, rfl⟩
theorem aX1_latestPicture_49 : At kX1_latestPicture 49 (.bipush (-5)) 2 51 := ⟨by decide +kernel, rfl⟩
theorem aX1_latestPicture_51 : At kX1_latestPicture 51 (.ireturn) 1 52 := ⟨by decide +kernel, rfl⟩
theorem aX1_firstDamaged_0 : At kX1_firstDamaged 0 (.iload_n 2) 1 1 := ⟨by decide +kernel, rfl⟩
theorem aX1_firstDamaged_1 : At kX1_firstDamaged 1 (.aload_n 0) 1 2 := ⟨by decide +kernel, rfl⟩
theorem aX1_firstDamaged_2 : At kX1_firstDamaged 2 (.getfield 21) 3 5 := ⟨by decide +kernel, rfl⟩
theorem aX1_firstDamaged_5 : At kX1_firstDamaged 5 (.invokestatic 41) 3 8 := ⟨by decide +kernel, rfl⟩
theorem aX1_firstDamaged_8 : At kX1_firstDamaged 8 (.istore 4) 2 10 := ⟨by decide +kernel, rfl⟩
theorem aX1_firstDamaged_10 : At kX1_firstDamaged 10 (.iload 4) 2 12 := ⟨by decide +kernel, rfl⟩
theorem aX1_firstDamaged_12 : At kX1_firstDamaged 12 (.iload_n 3) 1 13 := ⟨by decide +kernel, rfl⟩
theorem aX1_firstDamaged_13 : At kX1_firstDamaged 13 (.if_icmp .ge 42) 3 16 := ⟨by decide +kernel, rfl⟩
theorem aX1_firstDamaged_16 : At kX1_firstDamaged 16 (.aload_n 0) 1 17 := ⟨by decide +kernel, rfl⟩
theorem aX1_firstDamaged_17 : At kX1_firstDamaged 17 (.iload 4) 2 19 := ⟨by decide +kernel, rfl⟩
theorem aX1_firstDamaged_19 : At kX1_firstDamaged 19 (.invokevirtual 34) 3 22 := ⟨by decide +kernel, rfl⟩
theorem aX1_firstDamaged_22 : At kX1_firstDamaged 22 (.astore 5) 2 24 := ⟨by decide +kernel, rfl⟩
theorem aX1_firstDamaged_24 : At kX1_firstDamaged 24 (.aload 5) 2 26 := ⟨by decide +kernel, rfl⟩
theorem aX1_firstDamaged_26 : At kX1_firstDamaged 26 (.ifnull 23) 3 29 := ⟨by decide +kernel, rfl⟩
theorem aX1_firstDamaged_29 : At kX1_firstDamaged 29 (.aload 5) 2 31 := ⟨by decide +kernel, rfl⟩
theorem aX1_firstDamaged_31 : At kX1_firstDamaged 31 (.getfield 47) 3 34 := ⟨by decide +kernel, rfl⟩
theorem aX1_firstDamaged_34 : At kX1_firstDamaged 34 (.iload_n 1) 1 35 := ⟨by decide +kernel, rfl⟩
theorem aX1_firstDamaged_35 : At kX1_firstDamaged 35 (.if_icmp .ne 14) 3 38 := ⟨by decide +kernel, rfl⟩
theorem aX1_firstDamaged_38 : At kX1_firstDamaged 38 (.aload 5) 2 40 := ⟨by decide +kernel, rfl⟩
theorem aX1_firstDamaged_40 : At kX1_firstDamaged 40 (.getfield 56) 3 43 := ⟨by decide +kernel, rfl⟩
theorem aX1_firstDamaged_43 : At kX1_firstDamaged 43 (.ifCond .eq 6) 3 46 := ⟨by decide +kernel, rfl⟩
theorem aX1_firstDamaged_46 : At kX1_firstDamaged 46 (.iload 4) 2 48 := ⟨by decide +kernel, rfl⟩
theorem aX1_firstDamaged_48 : At kX1_firstDamaged 48 (.ireturn) 1 49 := ⟨by decide +kernel, rfl⟩
theorem aX1_firstDamaged_49 : At kX1_firstDamaged 49 (.iinc 4 1) 3 52 := ⟨by decide +kernel, rfl⟩
theorem aX1_firstDamaged_52 : At kX1_firstDamaged 52 (.goto (-42)) 3 55 := ⟨by decide +kernel, rfl⟩
theorem aX1_firstDamaged_55 : At kX1_firstDamaged 55 (.iload_n 3) 1 56 := ⟨by decide +kernel, rfl⟩
theorem aX1_firstDamaged_56 : At kX1_firstDamaged 56 (.ireturn) 1 57 := ⟨by decide +kernel, rfl⟩
theorem aX2_init_0 : At kX2_init 0 (.aload_n 0) 1 1 := ⟨by decide +kernel, rfl⟩
theorem aX2_init_1 : At kX2_init 1 (.invokespecial 3) 3 4 := ⟨by decide +kernel, rfl⟩
theorem aX2_init_4 : At kX2_init 4 (.aload_n 0) 1 5 := ⟨by decide +kernel, rfl⟩
theorem aX2_init_5 : At kX2_init 5 (.bipush 12) 2 7 := ⟨by decide +kernel, rfl⟩
theorem aX2_init_7 : At kX2_init 7 (.newarray .int) 2 9 := ⟨by decide +kernel, rfl⟩
theorem aX2_init_9 : At kX2_init 9 (.putfield 9) 3 12 := ⟨by decide +kernel, rfl⟩
theorem aX2_init_12 : At kX2_init 12 (.aload_n 0) 1 13 := ⟨by decide +kernel, rfl⟩
theorem aX2_init_13 : At kX2_init 13 (.bipush 12) 2 15 := ⟨by decide +kernel, rfl⟩
theorem aX2_init_15 : At kX2_init 15 (.newarray .int) 2 17 := ⟨by decide +kernel, rfl⟩
theorem aX2_init_17 : At kX2_init 17 (.putfield 15) 3 20 := ⟨by decide +kernel, rfl⟩
theorem aX2_init_20 : At kX2_init 20 (.return_) 1 21 := ⟨by decide +kernel, rfl⟩
theorem aX2_copyFrom_0 : At kX2_copyFrom 0 (.aload_n 1) 1 1 := ⟨by decide +kernel, rfl⟩
theorem aX2_copyFrom_1 : At kX2_copyFrom 1 (.getfield 9) 3 4 := ⟨by decide +kernel, rfl⟩
theorem aX2_copyFrom_4 : At kX2_copyFrom 4 (.iconst 0) 1 5 := ⟨by decide +kernel, rfl⟩
theorem aX2_copyFrom_5 : At kX2_copyFrom 5 (.aload_n 0) 1 6 := ⟨by decide +kernel, rfl⟩
theorem aX2_copyFrom_6 : At kX2_copyFrom 6 (.getfield 9) 3 9 := ⟨by decide +kernel, rfl⟩
theorem aX2_copyFrom_9 : At kX2_copyFrom 9 (.iconst 0) 1 10 := ⟨by decide +kernel, rfl⟩
theorem aX2_copyFrom_10 : At kX2_copyFrom 10 (.bipush 12) 2 12 := ⟨by decide +kernel, rfl⟩
theorem aX2_copyFrom_12 : At kX2_copyFrom 12 (.invokestatic 18) 3 15 := ⟨by decide +kernel, rfl⟩
theorem aX2_copyFrom_15 : At kX2_copyFrom 15 (.aload_n 1) 1 16 := ⟨by decide +kernel, rfl⟩
theorem aX2_copyFrom_16 : At kX2_copyFrom 16 (.getfield 15) 3 19 := ⟨by decide +kernel, rfl⟩
theorem aX2_copyFrom_19 : At kX2_copyFrom 19 (.iconst 0) 1 20 := ⟨by decide +kernel, rfl⟩
theorem aX2_copyFrom_20 : At kX2_copyFrom 20 (.aload_n 0) 1 21 := ⟨by decide +kernel, rfl⟩
theorem aX2_copyFrom_21 : At kX2_copyFrom 21 (.getfield 15) 3 24 := ⟨by decide +kernel, rfl⟩
theorem aX2_copyFrom_24 : At kX2_copyFrom 24 (.iconst 0) 1 25 := ⟨by decide +kernel, rfl⟩
theorem aX2_copyFrom_25 : At kX2_copyFrom 25 (.bipush 12) 2 27 := ⟨by decide +kernel, rfl⟩
theorem aX2_copyFrom_27 : At kX2_copyFrom 27 (.invokestatic 18) 3 30 := ⟨by decide +kernel, rfl⟩
theorem aX2_copyFrom_30 : At kX2_copyFrom 30 (.aload_n 0) 1 31 := ⟨by decide +kernel, rfl⟩
theorem aX2_copyFrom_31 : At kX2_copyFrom 31 (.aload_n 1) 1 32 := ⟨by decide +kernel, rfl⟩
theorem aX2_copyFrom_32 : At kX2_copyFrom 32 (.getfield 24) 3 35 := ⟨by decide +kernel, rfl⟩
theorem aX2_copyFrom_35 : At kX2_copyFrom 35 (.putfield 24) 3 38 := ⟨by decide +kernel, rfl⟩
theorem aX2_copyFrom_38 : At kX2_copyFrom 38 (.aload_n 0) 1 39 := ⟨by decide +kernel, rfl⟩
theorem aX2_copyFrom_39 : At kX2_copyFrom 39 (.aload_n 1) 1 40 := ⟨by decide +kernel, rfl⟩
theorem aX2_copyFrom_40 : At kX2_copyFrom 40 (.getfield 28) 3 43 := ⟨by decide +kernel, rfl⟩
theorem aX2_copyFrom_43 : At kX2_copyFrom 43 (.putfield 28) 3 46 := ⟨by decide +kernel, rfl⟩
theorem aX2_copyFrom_46 : At kX2_copyFrom 46 (.aload_n 0) 1 47 := ⟨by decide +kernel, rfl⟩
theorem aX2_copyFrom_47 : At kX2_copyFrom 47 (.aload_n 1) 1 48 := ⟨by decide +kernel, rfl⟩
theorem aX2_copyFrom_48 : At kX2_copyFrom 48 (.getfield 32) 3 51 := ⟨by decide +kernel, rfl⟩
theorem aX2_copyFrom_51 : At kX2_copyFrom 51 (.putfield 32) 3 54 := ⟨by decide +kernel, rfl⟩
theorem aX2_copyFrom_54 : At kX2_copyFrom 54 (.return_) 1 55 := ⟨by decide +kernel, rfl⟩
theorem aX3_init_0 : At kX3_init 0 (.aload_n 0) 1 1 := ⟨by decide +kernel, rfl⟩
theorem aX3_init_1 : At kX3_init 1 (.invokespecial 3) 3 4 := ⟨by decide +kernel, rfl⟩
theorem aX3_init_4 : At kX3_init 4 (.aload_n 0) 1 5 := ⟨by decide +kernel, rfl⟩
theorem aX3_init_5 : At kX3_init 5 (.bipush 21) 2 7 := ⟨by decide +kernel, rfl⟩
theorem aX3_init_7 : At kX3_init 7 (.anewarray 9) 3 10 := ⟨by decide +kernel, rfl⟩
theorem aX3_init_10 : At kX3_init 10 (.putfield 11) 3 13 := ⟨by decide +kernel, rfl⟩
theorem aX3_init_13 : At kX3_init 13 (.aload_n 0) 1 14 := ⟨by decide +kernel, rfl⟩
theorem aX3_init_14 : At kX3_init 14 (.aload_n 1) 1 15 := ⟨by decide +kernel, rfl⟩
theorem aX3_init_15 : At kX3_init 15 (.putfield 17) 3 18 := ⟨by decide +kernel, rfl⟩
theorem aX3_init_18 : At kX3_init 18 (.aload_n 0) 1 19 := ⟨by decide +kernel, rfl⟩
theorem aX3_init_19 : At kX3_init 19 (.iload_n 2) 1 20 := ⟨by decide +kernel, rfl⟩
theorem aX3_init_20 : At kX3_init 20 (.putfield 21) 3 23 := ⟨by decide +kernel, rfl⟩
theorem aX3_init_23 : At kX3_init 23 (.return_) 1 24 := ⟨by decide +kernel, rfl⟩
theorem aX3_order_0 : At kX3_order 0 (.iload_n 1) 1 1 := ⟨by decide +kernel, rfl⟩
theorem aX3_order_1 : At kX3_order 1 (.ifCond .lt 18) 3 4 := ⟨by decide +kernel, rfl⟩
theorem aX3_order_4 : At kX3_order 4 (.iload_n 1) 1 5 := ⟨by decide +kernel, rfl⟩
theorem aX3_order_5 : At kX3_order 5 (.bipush 21) 2 7 := ⟨by decide +kernel, rfl⟩
theorem aX3_order_7 : At kX3_order 7 (.if_icmp .ge 12) 3 10 := ⟨by decide +kernel, rfl⟩
theorem aX3_order_10 : At kX3_order 10 (.aload_n 0) 1 11 := ⟨by decide +kernel, rfl⟩
theorem aX3_order_11 : At kX3_order 11 (.getfield 11) 3 14 := ⟨by decide +kernel, rfl⟩
theorem aX3_order_14 : At kX3_order 14 (.iload_n 1) 1 15 := ⟨by decide +kernel, rfl⟩
theorem aX3_order_15 : At kX3_order 15 (.aaload) 1 16 := ⟨by decide +kernel, rfl⟩
theorem aX3_order_16 : At kX3_order 16 (.goto 4) 3 19 := ⟨by decide +kernel, rfl⟩
theorem aX3_order_19 : At kX3_order 19 (.aconst_null) 1 20 := ⟨by decide +kernel, rfl⟩
theorem aX3_order_20 : At kX3_order 20 (.areturn) 1 21 := ⟨by decide +kernel, rfl⟩
theorem aX3_readAll_0 : At kX3_readAll 0 (.aload_n 0) 1 1 := ⟨by decide +kernel, rfl⟩
theorem aX3_readAll_1 : At kX3_readAll 1 (.getfield 25) 3 4 := ⟨by decide +kernel, rfl⟩
theorem aX3_readAll_4 : At kX3_readAll 4 (.bipush 21) 2 6 := ⟨by decide +kernel, rfl⟩
theorem aX3_readAll_6 : At kX3_readAll 6 (.if_icmp .ge 61) 3 9 := ⟨by decide +kernel, rfl⟩
theorem aX3_readAll_9 : At kX3_readAll 9 (.aload_n 0) 1 10 := ⟨by decide +kernel, rfl⟩
theorem aX3_readAll_10 : At kX3_readAll 10 (.invokevirtual 28) 3 13 := ⟨by decide +kernel, rfl⟩
theorem aX3_readAll_13 : At kX3_readAll 13 (.astore_n 1) 1 14 := ⟨by decide +kernel, rfl⟩
theorem aX3_readAll_14 : At kX3_readAll 14 (.aload_n 1) 1 15 := ⟨by decide +kernel, rfl⟩
theorem aX3_readAll_15 : At kX3_readAll 15 (.ifnonnull 5) 3 18 := ⟨by decide +kernel, rfl⟩
theorem aX3_readAll_18 : At kX3_readAll 18 (.iconst 0) 1 19 := ⟨by decide +kernel, rfl⟩
theorem aX3_readAll_19 : At kX3_readAll 19 (.ireturn) 1 20 := ⟨by decide +kernel, rfl⟩
theorem aX3_readAll_20 : At kX3_readAll 20 (.aload_n 0) 1 21 := ⟨by decide +kernel, rfl⟩
theorem aX3_readAll_21 : At kX3_readAll 21 (.getfield 11) 3 24 := ⟨by decide +kernel, rfl⟩
theorem aX3_readAll_24 : At kX3_readAll 24 (.aload_n 0) 1 25 := ⟨by decide +kernel, rfl⟩
theorem aX3_readAll_25 : At kX3_readAll 25 (.getfield 25) 3 28 := ⟨by decide +kernel, rfl⟩
theorem aX3_readAll_28 : At kX3_readAll 28 (.aload_n 1) 1 29 := ⟨by decide +kernel, rfl⟩
theorem aX3_readAll_29 : At kX3_readAll 29 (.aastore) 1 30 := ⟨by decide +kernel, rfl⟩
theorem aX3_readAll_30 : At kX3_readAll 30 (.aload_n 0) 1 31 := ⟨by decide +kernel, rfl⟩
theorem aX3_readAll_31 : At kX3_readAll 31 (.dup) 1 32 := ⟨by decide +kernel, rfl⟩
theorem aX3_readAll_32 : At kX3_readAll 32 (.getfield 25) 3 35 := ⟨by decide +kernel, rfl⟩
theorem aX3_readAll_35 : At kX3_readAll 35 (.iconst 1) 1 36 := ⟨by decide +kernel, rfl⟩
theorem aX3_readAll_36 : At kX3_readAll 36 (.iadd) 1 37 := ⟨by decide +kernel, rfl⟩
theorem aX3_readAll_37 : At kX3_readAll 37 (.putfield 25) 3 40 := ⟨by decide +kernel, rfl⟩
theorem aX3_readAll_40 : At kX3_readAll 40 (.aload_n 0) 1 41 := ⟨by decide +kernel, rfl⟩
theorem aX3_readAll_41 : At kX3_readAll 41 (.getfield 32) 3 44 := ⟨by decide +kernel, rfl⟩
theorem aX3_readAll_44 : At kX3_readAll 44 (.aload_n 0) 1 45 := ⟨by decide +kernel, rfl⟩
theorem aX3_readAll_45 : At kX3_readAll 45 (.getfield 21) 3 48 := ⟨by decide +kernel, rfl⟩
theorem aX3_readAll_48 : At kX3_readAll 48 (.if_icmp .lt 5) 3 51 := ⟨by decide +kernel, rfl⟩
theorem aX3_readAll_51 : At kX3_readAll 51 (.iconst 1) 1 52 := ⟨by decide +kernel, rfl⟩
theorem aX3_readAll_52 : At kX3_readAll 52 (.ireturn) 1 53 := ⟨by decide +kernel, rfl⟩
theorem aX3_readAll_53 : At kX3_readAll 53 (.aload_n 0) 1 54 := ⟨by decide +kernel, rfl⟩
theorem aX3_readAll_54 : At kX3_readAll 54 (.bipush 59) 2 56 := ⟨by decide +kernel, rfl⟩
theorem aX3_readAll_56 : At kX3_readAll 56 (.invokevirtual 35) 3 59 := ⟨by decide +kernel, rfl⟩
theorem aX3_readAll_59 : At kX3_readAll 59 (.ifCond .ne 5) 3 62 := ⟨by decide +kernel, rfl⟩
theorem aX3_readAll_62 : At kX3_readAll 62 (.iconst 0) 1 63 := ⟨by decide +kernel, rfl⟩
theorem aX3_readAll_63 : At kX3_readAll 63 (.ireturn) 1 64 := ⟨by decide +kernel, rfl⟩
theorem aX3_readAll_64 : At kX3_readAll 64 (.goto (-64)) 3 67 := ⟨by decide +kernel, rfl⟩
theorem aX3_readAll_67 : At kX3_readAll 67 (.iconst 0) 1 68 := ⟨by decide +kernel, rfl⟩
theorem aX3_readAll_68 : At kX3_readAll 68 (.ireturn) 1 69 := ⟨by decide +kernel, rfl⟩
theorem aX3_readOrder_0 : At kX3_readOrder 0 (.aload_n 0) 1 1 := ⟨by decide +kernel, rfl⟩
theorem aX3_readOrder_1 : At kX3_readOrder 1 (.iconst 0) 1 2 := ⟨by decide +kernel, rfl⟩
theorem aX3_readOrder_2 : At kX3_readOrder 2 (.iconst 5) 1 3 := ⟨by decide +kernel, rfl⟩
theorem aX3_readOrder_3 : At kX3_readOrder 3 (.invokevirtual 39) 3 6 := ⟨by decide +kernel, rfl⟩
theorem aX3_readOrder_6 : At kX3_readOrder 6 (.istore_n 1) 1 7 := ⟨by decide +kernel, rfl⟩
theorem aX3_readOrder_7 : At kX3_readOrder 7 (.iload_n 1) 1 8 := ⟨by decide +kernel, rfl⟩
theorem aX3_readOrder_8 : At kX3_readOrder 8 (.bipush (-5)) 2 10 := ⟨by decide +kernel, rfl⟩
theorem aX3_readOrder_10 : At kX3_readOrder 10 (.if_icmp .ne 5) 3 13 := ⟨by decide +kernel, rfl⟩
theorem aX3_readOrder_13 : At kX3_readOrder 13 (.aconst_null) 1 14 := ⟨by decide +kernel, rfl⟩
theorem aX3_readOrder_14 : At kX3_readOrder 14 (.areturn) 1 15 := ⟨by decide +kernel, rfl⟩
theorem aX3_readOrder_15 : At kX3_readOrder 15 (.aload_n 0) 1 16 := ⟨by decide +kernel, rfl⟩
theorem aX3_readOrder_16 : At kX3_readOrder 16 (.bipush 102) 2 18 := ⟨by decide +kernel, rfl⟩
theorem aX3_readOrder_18 : At kX3_readOrder 18 (.invokevirtual 35) 3 21 := ⟨by decide +kernel, rfl⟩
theorem aX3_readOrder_21 : At kX3_readOrder 21 (.ifCond .eq 13) 3 24 := ⟨by decide +kernel, rfl⟩
theorem aX3_readOrder_24 : At kX3_readOrder 24 (.aload_n 0) 1 25 := ⟨by decide +kernel, rfl⟩
theorem aX3_readOrder_25 : At kX3_readOrder 25 (.iload_n 1) 1 26 := ⟨by decide +kernel, rfl⟩
theorem aX3_readOrder_26 : At kX3_readOrder 26 (.iconst 1) 1 27 := ⟨by decide +kernel, rfl⟩
theorem aX3_readOrder_27 : At kX3_readOrder 27 (.bipush 61) 2 29 := ⟨by decide +kernel, rfl⟩
theorem aX3_readOrder_29 : At kX3_readOrder 29 (.iconst 0) 1 30 := ⟨by decide +kernel, rfl⟩
theorem aX3_readOrder_30 : At kX3_readOrder 30 (.invokevirtual 43) 3 33 := ⟨by decide +kernel, rfl⟩
theorem aX3_readOrder_33 : At kX3_readOrder 33 (.areturn) 1 34 := ⟨by decide +kernel, rfl⟩
theorem aX3_readOrder_34 : At kX3_readOrder 34 (.aload_n 0) 1 35 := ⟨by decide +kernel, rfl⟩
theorem aX3_readOrder_35 : At kX3_readOrder 35 (.bipush 97) 2 37 := ⟨by decide +kernel, rfl⟩
theorem aX3_readOrder_37 : At kX3_readOrder 37 (.invokevirtual 35) 3 40 := ⟨by decide +kernel, rfl⟩
theorem aX3_readOrder_40 : At kX3_readOrder 40 (.ifCond .eq 13) 3 43 := ⟨by decide +kernel, rfl⟩
theorem aX3_readOrder_43 : At kX3_readOrder 43 (.aload_n 0) 1 44 := ⟨by decide +kernel, rfl⟩
theorem aX3_readOrder_44 : At kX3_readOrder 44 (.iload_n 1) 1 45 := ⟨by decide +kernel, rfl⟩
theorem aX3_readOrder_45 : At kX3_readOrder 45 (.iconst 2) 1 46 := ⟨by decide +kernel, rfl⟩
theorem aX3_readOrder_46 : At kX3_readOrder 46 (.bipush 43) 2 48 := ⟨by decide +kernel, rfl⟩
theorem aX3_readOrder_48 : At kX3_readOrder 48 (.iconst 1) 1 49 := ⟨by decide +kernel, rfl⟩
theorem aX3_readOrder_49 : At kX3_readOrder 49 (.invokevirtual 43) 3 52 := ⟨by decide +kernel, rfl⟩
theorem aX3_readOrder_52 : At kX3_readOrder 52 (.areturn) 1 53 := ⟨by decide +kernel, rfl⟩
theorem aX3_readOrder_53 : At kX3_readOrder 53 (.aload_n 0) 1 54 := ⟨by decide +kernel, rfl⟩
theorem aX3_readOrder_54 : At kX3_readOrder 54 (.bipush 116) 2 56 := ⟨by decide +kernel, rfl⟩
theorem aX3_readOrder_56 : At kX3_readOrder 56 (.invokevirtual 35) 3 59 := ⟨by decide +kernel, rfl⟩
theorem aX3_readOrder_59 : At kX3_readOrder 59 (.ifCond .eq 25) 3 62 := ⟨by decide +kernel, rfl⟩
theorem aX3_readOrder_62 : At kX3_readOrder 62 (.aload_n 0) 1 63 := ⟨by decide +kernel, rfl⟩
theorem aX3_readOrder_63 : At kX3_readOrder 63 (.iconst 1) 1 64 := ⟨by decide +kernel, rfl⟩
theorem aX3_readOrder_64 : At kX3_readOrder 64 (.invokevirtual 47) 3 67 := ⟨by decide +kernel, rfl⟩
theorem aX3_readOrder_67 : At kX3_readOrder 67 (.istore_n 2) 1 68 := ⟨by decide +kernel, rfl⟩
theorem aX3_readOrder_68 : At kX3_readOrder 68 (.iload_n 2) 1 69 := ⟨by decide +kernel, rfl⟩
theorem aX3_readOrder_69 : At kX3_readOrder 69 (.bipush (-5)) 2 71 := ⟨by decide +kernel, rfl⟩
theorem aX3_readOrder_71 : At kX3_readOrder 71 (.if_icmp .ne 7) 3 74 := ⟨by decide +kernel, rfl⟩
theorem aX3_readOrder_74 : At kX3_readOrder 74 (.aconst_null) 1 75 := ⟨by decide +kernel, rfl⟩
theorem aX3_readOrder_75 : At kX3_readOrder 75 (.goto 8) 3 78 := ⟨by decide +kernel, rfl⟩
theorem aX3_readOrder_78 : At kX3_readOrder 78 (.iload_n 1) 1 79 := ⟨by decide +kernel, rfl⟩
theorem aX3_readOrder_79 : At kX3_readOrder 79 (.iload_n 2) 1 80 := ⟨by decide +kernel, rfl⟩
theorem aX3_readOrder_80 : At kX3_readOrder 80 (.invokestatic 51) 3 83 := ⟨by decide +kernel, rfl⟩
theorem aX3_readOrder_83 : At kX3_readOrder 83 (.areturn) 1 84 := ⟨by decide +kernel, rfl⟩
theorem aX3_readOrder_84 : At kX3_readOrder 84 (.aload_n 0) 1 85 := ⟨by decide +kernel, rfl⟩
theorem aX3_readOrder_85 : At kX3_readOrder 85 (.bipush 114) 2 87 := ⟨by decide +kernel, rfl⟩
theorem aX3_readOrder_87 : At kX3_readOrder 87 (.invokevirtual 35) 3 90 := ⟨by decide +kernel, rfl⟩
theorem aX3_readOrder_90 : At kX3_readOrder 90 (.ifCond .eq 9) 3 93 := ⟨by decide +kernel, rfl⟩
theorem aX3_readOrder_93 : At kX3_readOrder 93 (.aload_n 0) 1 94 := ⟨by decide +kernel, rfl⟩
theorem aX3_readOrder_94 : At kX3_readOrder 94 (.iload_n 1) 1 95 := ⟨by decide +kernel, rfl⟩
theorem aX3_readOrder_95 : At kX3_readOrder 95 (.invokevirtual 55) 3 98 := ⟨by decide +kernel, rfl⟩
theorem aX3_readOrder_98 : At kX3_readOrder 98 (.areturn) 1 99 := ⟨by decide +kernel, rfl⟩
theorem aX3_readOrder_99 : At kX3_readOrder 99 (.aload_n 0) 1 100 := ⟨by decide +kernel, rfl⟩
theorem aX3_readOrder_100 : At kX3_readOrder 100 (.bipush 112) 2 102 := ⟨by decide +kernel, rfl⟩
theorem aX3_readOrder_102 : At kX3_readOrder 102 (.invokevirtual 35) 3 105 := ⟨by decide +kernel, rfl⟩
theorem aX3_readOrder_105 : At kX3_readOrder 105 (.ifCond .eq 10) 3 108 := ⟨by decide +kernel, rfl⟩
theorem aX3_readOrder_108 : At kX3_readOrder 108 (.iload_n 1) 1 109 := ⟨by decide +kernel, rfl⟩
theorem aX3_readOrder_109 : At kX3_readOrder 109 (.invokestatic 59) 3 112 := ⟨by decide +kernel, rfl⟩
theorem aX3_readOrder_112 : At kX3_readOrder 112 (.goto 4) 3 115 := ⟨by decide +kernel, rfl⟩
theorem aX3_readOrder_115 : At kX3_readOrder 115 (.aconst_null) 1 116 := ⟨by decide +kernel, rfl⟩
theorem aX3_readOrder_116 : At kX3_readOrder 116 (.areturn) 1 117 := ⟨by decide +kernel, rfl⟩
theorem aX3_readCells_0 : At kX3_readCells 0 (.aload_n 0) 1 1 := ⟨by decide +kernel, rfl⟩
theorem aX3_readCells_1 : At kX3_readCells 1 (.iconst 0) 1 2 := ⟨by decide +kernel, rfl⟩
theorem aX3_readCells_2 : At kX3_readCells 2 (.invokevirtual 47) 3 5 := ⟨by decide +kernel, rfl⟩
theorem aX3_readCells_5 : At kX3_readCells 5 (.istore 5) 2 7 := ⟨by decide +kernel, rfl⟩
theorem aX3_readCells_7 : At kX3_readCells 7 (.iload 5) 2 9 := ⟨by decide +kernel, rfl⟩
theorem aX3_readCells_9 : At kX3_readCells 9 (.bipush (-5)) 2 11 := ⟨by decide +kernel, rfl⟩
theorem aX3_readCells_11 : At kX3_readCells 11 (.if_icmp .eq 12) 3 14 := ⟨by decide +kernel, rfl⟩
theorem aX3_readCells_14 : At kX3_readCells 14 (.aload_n 0) 1 15 := ⟨by decide +kernel, rfl⟩
theorem aX3_readCells_15 : At kX3_readCells 15 (.bipush 45) 2 17 := ⟨by decide +kernel, rfl⟩
theorem aX3_readCells_17 : At kX3_readCells 17 (.invokevirtual 35) 3 20 := ⟨by decide +kernel, rfl⟩
theorem aX3_readCells_20 : At kX3_readCells 20 (.ifCond .ne 5) 3 23 := ⟨by decide +kernel, rfl⟩
theorem aX3_readCells_23 : At kX3_readCells 23 (.aconst_null) 1 24 := ⟨by decide +kernel, rfl⟩
theorem aX3_readCells_24 : At kX3_readCells 24 (.areturn) 1 25 := ⟨by decide +kernel, rfl⟩
theorem aX3_readCells_25 : At kX3_readCells 25 (.aload_n 0) 1 26 := ⟨by decide +kernel, rfl⟩
theorem aX3_readCells_26 : At kX3_readCells 26 (.iconst 0) 1 27 := ⟨by decide +kernel, rfl⟩
theorem aX3_readCells_27 : At kX3_readCells 27 (.invokevirtual 47) 3 30 := ⟨by decide +kernel, rfl⟩
theorem aX3_readCells_30 : At kX3_readCells 30 (.istore 6) 2 32 := ⟨by decide +kernel, rfl⟩
theorem aX3_readCells_32 : At kX3_readCells 32 (.iload 6) 2 34 := ⟨by decide +kernel, rfl⟩
theorem aX3_readCells_34 : At kX3_readCells 34 (.bipush (-5)) 2 36 := ⟨by decide +kernel, rfl⟩
theorem aX3_readCells_36 : At kX3_readCells 36 (.if_icmp .eq 22) 3 39 := ⟨by decide +kernel, rfl⟩
theorem aX3_readCells_39 : At kX3_readCells 39 (.iload 6) 2 41 := ⟨by decide +kernel, rfl⟩
theorem aX3_readCells_41 : At kX3_readCells 41 (.iload 5) 2 43 := ⟨by decide +kernel, rfl⟩
theorem aX3_readCells_43 : At kX3_readCells 43 (.if_icmp .ge 15) 3 46 := ⟨by decide +kernel, rfl⟩
theorem aX3_readCells_46 : At kX3_readCells 46 (.aload_n 0) 1 47 := ⟨by decide +kernel, rfl⟩
theorem aX3_readCells_47 : At kX3_readCells 47 (.dup) 1 48 := ⟨by decide +kernel, rfl⟩
theorem aX3_readCells_48 : At kX3_readCells 48 (.getfield 32) 3 51 := ⟨by decide +kernel, rfl⟩
theorem aX3_readCells_51 : At kX3_readCells 51 (.iconst 1) 1 52 := ⟨by decide +kernel, rfl⟩
theorem aX3_readCells_52 : At kX3_readCells 52 (.isub) 1 53 := ⟨by decide +kernel, rfl⟩
theorem aX3_readCells_53 : At kX3_readCells 53 (.putfield 32) 3 56 := ⟨by decide +kernel, rfl⟩
theorem aX3_readCells_56 : At kX3_readCells 56 (.aconst_null) 1 57 := ⟨by decide +kernel, rfl⟩
theorem aX3_readCells_57 : At kX3_readCells 57 (.areturn) 1 58 := ⟨by decide +kernel, rfl⟩
theorem aX3_readCells_58 : At kX3_readCells 58 (.iload 6) 2 60 := ⟨by decide +kernel, rfl⟩
theorem aX3_readCells_60 : At kX3_readCells 60 (.bipush (-5)) 2 62 := ⟨by decide +kernel, rfl⟩
theorem aX3_readCells_62 : At kX3_readCells 62 (.if_icmp .eq 11) 3 65 := ⟨by decide +kernel, rfl⟩
theorem aX3_readCells_65 : At kX3_readCells 65 (.aload_n 0) 1 66 := ⟨by decide +kernel, rfl⟩
theorem aX3_readCells_66 : At kX3_readCells 66 (.iload_n 3) 1 67 := ⟨by decide +kernel, rfl⟩
theorem aX3_readCells_67 : At kX3_readCells 67 (.invokevirtual 35) 3 70 := ⟨by decide +kernel, rfl⟩
theorem aX3_readCells_70 : At kX3_readCells 70 (.ifCond .ne 5) 3 73 := ⟨by decide +kernel, rfl⟩
theorem aX3_readCells_73 : At kX3_readCells 73 (.aconst_null) 1 74 := ⟨by decide +kernel, rfl⟩
theorem aX3_readCells_74 : At kX3_readCells 74 (.areturn) 1 75 := ⟨by decide +kernel, rfl⟩
theorem aX3_readCells_75 : At kX3_readCells 75 (.aload_n 0) 1 76 := ⟨by decide +kernel, rfl⟩
theorem aX3_readCells_76 : At kX3_readCells 76 (.iload 4) 2 78 := ⟨by decide +kernel, rfl⟩
theorem aX3_readCells_78 : At kX3_readCells 78 (.bipush 9) 2 80 := ⟨by decide +kernel, rfl⟩
theorem aX3_readCells_80 : At kX3_readCells 80 (.invokevirtual 39) 3 83 := ⟨by decide +kernel, rfl⟩
theorem aX3_readCells_83 : At kX3_readCells 83 (.istore 7) 2 85 := ⟨by decide +kernel, rfl⟩
theorem aX3_readCells_85 : At kX3_readCells 85 (.iload 7) 2 87 := ⟨by decide +kernel, rfl⟩
theorem aX3_readCells_87 : At kX3_readCells 87 (.bipush (-5)) 2 89 := ⟨by decide +kernel, rfl⟩
theorem aX3_readCells_89 : At kX3_readCells 89 (.if_icmp .ne 7) 3 92 := ⟨by decide +kernel, rfl⟩
theorem aX3_readCells_92 : At kX3_readCells 92 (.aconst_null) 1 93 := ⟨by decide +kernel, rfl⟩
theorem aX3_readCells_93 : At kX3_readCells 93 (.goto 14) 3 96 := ⟨by decide +kernel, rfl⟩
theorem aX3_readCells_96 : At kX3_readCells 96 (.iload_n 1) 1 97 := ⟨by decide +kernel, rfl⟩
theorem aX3_readCells_97 : At kX3_readCells 97 (.iload_n 2) 1 98 := ⟨by decide +kernel, rfl⟩
theorem aX3_readCells_98 : At kX3_readCells 98 (.iload 5) 2 100 := ⟨by decide +kernel, rfl⟩
theorem aX3_readCells_100 : At kX3_readCells 100 (.iload 6) 2 102 := ⟨by decide +kernel, rfl⟩
theorem aX3_readCells_102 : At kX3_readCells 102 (.iload 7) 2 104 := ⟨by decide +kernel, rfl⟩
theorem aX3_readCells_104 : At kX3_readCells 104 (.invokestatic 62) 3 107 := ⟨by decide +kernel, rfl⟩
theorem aX3_readCells_107 : At kX3_readCells 107 (.areturn) 1 108 := ⟨by decide +kernel, rfl⟩
theorem aX3_readRow_0 : At kX3_readRow 0 (.aload_n 0) 1 1 := ⟨by decide +kernel, rfl⟩
theorem aX3_readRow_1 : At kX3_readRow 1 (.iconst 0) 1 2 := ⟨by decide +kernel, rfl⟩
theorem aX3_readRow_2 : At kX3_readRow 2 (.invokevirtual 47) 3 5 := ⟨by decide +kernel, rfl⟩
theorem aX3_readRow_5 : At kX3_readRow 5 (.istore_n 2) 1 6 := ⟨by decide +kernel, rfl⟩
theorem aX3_readRow_6 : At kX3_readRow 6 (.iload_n 2) 1 7 := ⟨by decide +kernel, rfl⟩
theorem aX3_readRow_7 : At kX3_readRow 7 (.bipush (-5)) 2 9 := ⟨by decide +kernel, rfl⟩
theorem aX3_readRow_9 : At kX3_readRow 9 (.if_icmp .eq 12) 3 12 := ⟨by decide +kernel, rfl⟩
theorem aX3_readRow_12 : At kX3_readRow 12 (.aload_n 0) 1 13 := ⟨by decide +kernel, rfl⟩
theorem aX3_readRow_13 : At kX3_readRow 13 (.bipush 61) 2 15 := ⟨by decide +kernel, rfl⟩
theorem aX3_readRow_15 : At kX3_readRow 15 (.invokevirtual 35) 3 18 := ⟨by decide +kernel, rfl⟩
theorem aX3_readRow_18 : At kX3_readRow 18 (.ifCond .ne 5) 3 21 := ⟨by decide +kernel, rfl⟩
theorem aX3_readRow_21 : At kX3_readRow 21 (.aconst_null) 1 22 := ⟨by decide +kernel, rfl⟩
theorem aX3_readRow_22 : At kX3_readRow 22 (.areturn) 1 23 := ⟨by decide +kernel, rfl⟩
theorem aX3_readRow_23 : At kX3_readRow 23 (.bipush 12) 2 25 := ⟨by decide +kernel, rfl⟩
theorem aX3_readRow_25 : At kX3_readRow 25 (.newarray .int) 2 27 := ⟨by decide +kernel, rfl⟩
theorem aX3_readRow_27 : At kX3_readRow 27 (.astore_n 3) 1 28 := ⟨by decide +kernel, rfl⟩
theorem aX3_readRow_28 : At kX3_readRow 28 (.iconst 0) 1 29 := ⟨by decide +kernel, rfl⟩
theorem aX3_readRow_29 : At kX3_readRow 29 (.istore 4) 2 31 := ⟨by decide +kernel, rfl⟩
theorem aX3_readRow_31 : At kX3_readRow 31 (.iload_n 2) 1 32 := ⟨by decide +kernel, rfl⟩
theorem aX3_readRow_32 : At kX3_readRow 32 (.iload 4) 2 34 := ⟨by decide +kernel, rfl⟩
theorem aX3_readRow_34 : At kX3_readRow 34 (.iadd) 1 35 := ⟨by decide +kernel, rfl⟩
theorem aX3_readRow_35 : At kX3_readRow 35 (.bipush 12) 2 37 := ⟨by decide +kernel, rfl⟩
theorem aX3_readRow_37 : At kX3_readRow 37 (.if_icmp .ge 30) 3 40 := ⟨by decide +kernel, rfl⟩
theorem aX3_readRow_40 : At kX3_readRow 40 (.aload_n 0) 1 41 := ⟨by decide +kernel, rfl⟩
theorem aX3_readRow_41 : At kX3_readRow 41 (.iconst 0) 1 42 := ⟨by decide +kernel, rfl⟩
theorem aX3_readRow_42 : At kX3_readRow 42 (.bipush 9) 2 44 := ⟨by decide +kernel, rfl⟩
theorem aX3_readRow_44 : At kX3_readRow 44 (.invokevirtual 66) 3 47 := ⟨by decide +kernel, rfl⟩
theorem aX3_readRow_47 : At kX3_readRow 47 (.ifCond .eq 20) 3 50 := ⟨by decide +kernel, rfl⟩
theorem aX3_readRow_50 : At kX3_readRow 50 (.aload_n 3) 1 51 := ⟨by decide +kernel, rfl⟩
theorem aX3_readRow_51 : At kX3_readRow 51 (.iload 4) 2 53 := ⟨by decide +kernel, rfl⟩
theorem aX3_readRow_53 : At kX3_readRow 53 (.aload_n 0) 1 54 := ⟨by decide +kernel, rfl⟩
theorem aX3_readRow_54 : At kX3_readRow 54 (.iconst 0) 1 55 := ⟨by decide +kernel, rfl⟩
theorem aX3_readRow_55 : At kX3_readRow 55 (.bipush 9) 2 57 := ⟨by decide +kernel, rfl⟩
theorem aX3_readRow_57 : At kX3_readRow 57 (.invokevirtual 39) 3 60 := ⟨by decide +kernel, rfl⟩
theorem aX3_readRow_60 : At kX3_readRow 60 (.iastore) 1 61 := ⟨by decide +kernel, rfl⟩
theorem aX3_readRow_61 : At kX3_readRow 61 (.iinc 4 1) 3 64 := ⟨by decide +kernel, rfl⟩
theorem aX3_readRow_64 : At kX3_readRow 64 (.goto (-33)) 3 67 := ⟨by decide +kernel, rfl⟩
theorem aX3_readRow_67 : At kX3_readRow 67 (.iload 4) 2 69 := ⟨by decide +kernel, rfl⟩
theorem aX3_readRow_69 : At kX3_readRow 69 (.ifCond .ne 7) 3 72 := ⟨by decide +kernel, rfl⟩
theorem aX3_readRow_72 : At kX3_readRow 72 (.aconst_null) 1 73 := ⟨by decide +kernel, rfl⟩
theorem aX3_readRow_73 : At kX3_readRow 73 (.goto 14) 3 76 := ⟨by decide +kernel, rfl⟩
theorem aX3_readRow_76 : At kX3_readRow 76 (.iload_n 1) 1 77 := ⟨by decide +kernel, rfl⟩
theorem aX3_readRow_77 : At kX3_readRow 77 (.iload_n 2) 1 78 := ⟨by decide +kernel, rfl⟩
theorem aX3_readRow_78 : At kX3_readRow 78 (.aload_n 3) 1 79 := ⟨by decide +kernel, rfl⟩
theorem aX3_readRow_79 : At kX3_readRow 79 (.iload 4) 2 81 := ⟨by decide +kernel, rfl⟩
theorem aX3_readRow_81 : At kX3_readRow 81 (.invokestatic 70) 3 84 := ⟨by decide +kernel, rfl⟩
theorem aX3_readRow_84 : At kX3_readRow 84 (.invokestatic 76) 3 87 := ⟨by decide +kernel, rfl⟩
theorem aX3_readRow_87 : At kX3_readRow 87 (.areturn) 1 88 := ⟨by decide +kernel, rfl⟩
theorem aX3_readNumber_0 : At kX3_readNumber 0 (.aload_n 0) 1 1 := ⟨by decide +kernel, rfl⟩
theorem aX3_readNumber_1 : At kX3_readNumber 1 (.iload_n 1) 1 2 := ⟨by decide +kernel, rfl⟩
theorem aX3_readNumber_2 : At kX3_readNumber 2 (.bipush 9) 2 4 := ⟨by decide +kernel, rfl⟩
theorem aX3_readNumber_4 : At kX3_readNumber 4 (.invokevirtual 39) 3 7 := ⟨by decide +kernel, rfl⟩
theorem aX3_readNumber_7 : At kX3_readNumber 7 (.istore_n 2) 1 8 := ⟨by decide +kernel, rfl⟩
theorem aX3_readNumber_8 : At kX3_readNumber 8 (.iload_n 2) 1 9 := ⟨by decide +kernel, rfl⟩
theorem aX3_readNumber_9 : At kX3_readNumber 9 (.iconst 1) 1 10 := ⟨by decide +kernel, rfl⟩
theorem aX3_readNumber_10 : At kX3_readNumber 10 (.if_icmp .ne 22) 3 13 := ⟨by decide +kernel, rfl⟩
theorem aX3_readNumber_13 : At kX3_readNumber 13 (.aload_n 0) 1 14 := ⟨by decide +kernel, rfl⟩
theorem aX3_readNumber_14 : At kX3_readNumber 14 (.iconst 0) 1 15 := ⟨by decide +kernel, rfl⟩
theorem aX3_readNumber_15 : At kX3_readNumber 15 (.iconst 1) 1 16 := ⟨by decide +kernel, rfl⟩
theorem aX3_readNumber_16 : At kX3_readNumber 16 (.invokevirtual 66) 3 19 := ⟨by decide +kernel, rfl⟩
theorem aX3_readNumber_19 : At kX3_readNumber 19 (.ifCond .eq 13) 3 22 := ⟨by decide +kernel, rfl⟩
theorem aX3_readNumber_22 : At kX3_readNumber 22 (.bipush 10) 2 24 := ⟨by decide +kernel, rfl⟩
theorem aX3_readNumber_24 : At kX3_readNumber 24 (.aload_n 0) 1 25 := ⟨by decide +kernel, rfl⟩
theorem aX3_readNumber_25 : At kX3_readNumber 25 (.iconst 0) 1 26 := ⟨by decide +kernel, rfl⟩
theorem aX3_readNumber_26 : At kX3_readNumber 26 (.iconst 1) 1 27 := ⟨by decide +kernel, rfl⟩
theorem aX3_readNumber_27 : At kX3_readNumber 27 (.invokevirtual 39) 3 30 := ⟨by decide +kernel, rfl⟩
theorem aX3_readNumber_30 : At kX3_readNumber 30 (.iadd) 1 31 := ⟨by decide +kernel, rfl⟩
theorem aX3_readNumber_31 : At kX3_readNumber 31 (.ireturn) 1 32 := ⟨by decide +kernel, rfl⟩
theorem aX3_readNumber_32 : At kX3_readNumber 32 (.iload_n 2) 1 33 := ⟨by decide +kernel, rfl⟩
theorem aX3_readNumber_33 : At kX3_readNumber 33 (.ireturn) 1 34 := ⟨by decide +kernel, rfl⟩
theorem aX3_hasDigit_0 : At kX3_hasDigit 0 (.aload_n 0) 1 1 := ⟨by decide +kernel, rfl⟩
theorem aX3_hasDigit_1 : At kX3_hasDigit 1 (.getfield 32) 3 4 := ⟨by decide +kernel, rfl⟩
theorem aX3_hasDigit_4 : At kX3_hasDigit 4 (.ifCond .lt 26) 3 7 := ⟨by decide +kernel, rfl⟩
theorem aX3_hasDigit_7 : At kX3_hasDigit 7 (.aload_n 0) 1 8 := ⟨by decide +kernel, rfl⟩
theorem aX3_hasDigit_8 : At kX3_hasDigit 8 (.getfield 32) 3 11 := ⟨by decide +kernel, rfl⟩
theorem aX3_hasDigit_11 : At kX3_hasDigit 11 (.aload_n 0) 1 12 := ⟨by decide +kernel, rfl⟩
theorem aX3_hasDigit_12 : At kX3_hasDigit 12 (.getfield 21) 3 15 := ⟨by decide +kernel, rfl⟩
theorem aX3_hasDigit_15 : At kX3_hasDigit 15 (.if_icmp .ge 15) 3 18 := ⟨by decide +kernel, rfl⟩
theorem aX3_hasDigit_18 : At kX3_hasDigit 18 (.aload_n 0) 1 19 := ⟨by decide +kernel, rfl⟩
theorem aX3_hasDigit_19 : At kX3_hasDigit 19 (.getfield 32) 3 22 := ⟨by decide +kernel, rfl⟩
theorem aX3_hasDigit_22 : At kX3_hasDigit 22 (.aload_n 0) 1 23 := ⟨by decide +kernel, rfl⟩
theorem aX3_hasDigit_23 : At kX3_hasDigit 23 (.getfield 17) 3 26 := ⟨by decide +kernel, rfl⟩
theorem aX3_hasDigit_26 : At kX3_hasDigit 26 (.arraylength) 1 27 := ⟨by decide +kernel, rfl⟩
theorem aX3_hasDigit_27 : At kX3_hasDigit 27 (.if_icmp .lt 5) 3 30 := ⟨by decide +kernel, rfl⟩
theorem aX3_hasDigit_30 : At kX3_hasDigit 30 (.iconst 0) 1 31 := ⟨by decide +kernel, rfl⟩
theorem aX3_hasDigit_31 : At kX3_hasDigit 31 (.ireturn) 1 32 := ⟨by decide +kernel, rfl⟩
theorem aX3_hasDigit_32 : At kX3_hasDigit 32 (.aload_n 0) 1 33 := ⟨by decide +kernel, rfl⟩
theorem aX3_hasDigit_33 : At kX3_hasDigit 33 (.getfield 17) 3 36 := ⟨by decide +kernel, rfl⟩
theorem aX3_hasDigit_36 : At kX3_hasDigit 36 (.aload_n 0) 1 37 := ⟨by decide +kernel, rfl⟩
theorem aX3_hasDigit_37 : At kX3_hasDigit 37 (.getfield 32) 3 40 := ⟨by decide +kernel, rfl⟩
theorem aX3_hasDigit_40 : At kX3_hasDigit 40 (.caload) 1 41 := ⟨by decide +kernel, rfl⟩
theorem aX3_hasDigit_41 : At kX3_hasDigit 41 (.bipush 48) 2 43 := ⟨by decide +kernel, rfl⟩
theorem aX3_hasDigit_43 : At kX3_hasDigit 43 (.isub) 1 44 := ⟨by decide +kernel, rfl⟩
theorem aX3_hasDigit_44 : At kX3_hasDigit 44 (.istore_n 3) 1 45 := ⟨by decide +kernel, rfl⟩
theorem aX3_hasDigit_45 : At kX3_hasDigit 45 (.iload_n 3) 1 46 := ⟨by decide +kernel, rfl⟩
theorem aX3_hasDigit_46 : At kX3_hasDigit 46 (.iload_n 1) 1 47 := ⟨by decide +kernel, rfl⟩
theorem aX3_hasDigit_47 : At kX3_hasDigit 47 (.if_icmp .lt 12) 3 50 := ⟨by decide +kernel, rfl⟩
theorem aX3_hasDigit_50 : At kX3_hasDigit 50 (.iload_n 3) 1 51 := ⟨by decide +kernel, rfl⟩
theorem aX3_hasDigit_51 : At kX3_hasDigit 51 (.iload_n 2) 1 52 := ⟨by decide +kernel, rfl⟩
theorem aX3_hasDigit_52 : At kX3_hasDigit 52 (.if_icmp .gt 7) 3 55 := ⟨by decide +kernel, rfl⟩
theorem aX3_hasDigit_55 : At kX3_hasDigit 55 (.iconst 1) 1 56 := ⟨by decide +kernel, rfl⟩
theorem aX3_hasDigit_56 : At kX3_hasDigit 56 (.goto 4) 3 59 := ⟨by decide +kernel, rfl⟩
theorem aX3_hasDigit_59 : At kX3_hasDigit 59 (.iconst 0) 1 60 := ⟨by decide +kernel, rfl⟩
theorem aX3_hasDigit_60 : At kX3_hasDigit 60 (.ireturn) 1 61 := ⟨by decide +kernel, rfl⟩
theorem aX3_readDigit_0 : At kX3_readDigit 0 (.aload_n 0) 1 1 := ⟨by decide +kernel, rfl⟩
theorem aX3_readDigit_1 : At kX3_readDigit 1 (.iload_n 1) 1 2 := ⟨by decide +kernel, rfl⟩
theorem aX3_readDigit_2 : At kX3_readDigit 2 (.iload_n 2) 1 3 := ⟨by decide +kernel, rfl⟩
theorem aX3_readDigit_3 : At kX3_readDigit 3 (.invokevirtual 66) 3 6 := ⟨by decide +kernel, rfl⟩
theorem aX3_readDigit_6 : At kX3_readDigit 6 (.ifCond .ne 6) 3 9 := ⟨by decide +kernel, rfl⟩
theorem aX3_readDigit_9 : At kX3_readDigit 9 (.bipush (-5)) 2 11 := ⟨by decide +kernel, rfl⟩
theorem aX3_readDigit_11 : At kX3_readDigit 11 (.ireturn) 1 12 := ⟨by decide +kernel, rfl⟩
theorem aX3_readDigit_12 : At kX3_readDigit 12 (.aload_n 0) 1 13 := ⟨by decide +kernel, rfl⟩
theorem aX3_readDigit_13 : At kX3_readDigit 13 (.getfield 17) 3 16 := ⟨by decide +kernel, rfl⟩
theorem aX3_readDigit_16 : At kX3_readDigit 16 (.aload_n 0) 1 17 := ⟨by decide +kernel, rfl⟩
theorem aX3_readDigit_17 : At kX3_readDigit 17 (.getfield 32) 3 20 := ⟨by decide +kernel, rfl⟩
theorem aX3_readDigit_20 : At kX3_readDigit 20 (.caload) 1 21 := ⟨by decide +kernel, rfl⟩
theorem aX3_readDigit_21 : At kX3_readDigit 21 (.bipush 48) 2 23 := ⟨by decide +kernel, rfl⟩
theorem aX3_readDigit_23 : At kX3_readDigit 23 (.isub) 1 24 := ⟨by decide +kernel, rfl⟩
theorem aX3_readDigit_24 : At kX3_readDigit 24 (.istore_n 3) 1 25 := ⟨by decide +kernel, rfl⟩
theorem aX3_readDigit_25 : At kX3_readDigit 25 (.aload_n 0) 1 26 := ⟨by decide +kernel, rfl⟩
theorem aX3_readDigit_26 : At kX3_readDigit 26 (.dup) 1 27 := ⟨by decide +kernel, rfl⟩
theorem aX3_readDigit_27 : At kX3_readDigit 27 (.getfield 32) 3 30 := ⟨by decide +kernel, rfl⟩
theorem aX3_readDigit_30 : At kX3_readDigit 30 (.iconst 1) 1 31 := ⟨by decide +kernel, rfl⟩
theorem aX3_readDigit_31 : At kX3_readDigit 31 (.iadd) 1 32 := ⟨by decide +kernel, rfl⟩
theorem aX3_readDigit_32 : At kX3_readDigit 32 (.putfield 32) 3 35 := ⟨by decide +kernel, rfl⟩
theorem aX3_readDigit_35 : At kX3_readDigit 35 (.iload_n 3) 1 36 := ⟨by decide +kernel, rfl⟩
theorem aX3_readDigit_36 : At kX3_readDigit 36 (.ireturn) 1 37 := ⟨by decide +kernel, rfl⟩
theorem aX3_readSign_0 : At kX3_readSign 0 (.aload_n 0) 1 1 := ⟨by decide +kernel, rfl⟩
theorem aX3_readSign_1 : At kX3_readSign 1 (.getfield 32) 3 4 := ⟨by decide +kernel, rfl⟩
theorem aX3_readSign_4 : At kX3_readSign 4 (.ifCond .lt 39) 3 7 := ⟨by decide +kernel, rfl⟩
theorem aX3_readSign_7 : At kX3_readSign 7 (.aload_n 0) 1 8 := ⟨by decide +kernel, rfl⟩
theorem aX3_readSign_8 : At kX3_readSign 8 (.getfield 32) 3 11 := ⟨by decide +kernel, rfl⟩
theorem aX3_readSign_11 : At kX3_readSign 11 (.aload_n 0) 1 12 := ⟨by decide +kernel, rfl⟩
theorem aX3_readSign_12 : At kX3_readSign 12 (.getfield 21) 3 15 := ⟨by decide +kernel, rfl⟩
theorem aX3_readSign_15 : At kX3_readSign 15 (.if_icmp .ge 28) 3 18 := ⟨by decide +kernel, rfl⟩
theorem aX3_readSign_18 : At kX3_readSign 18 (.aload_n 0) 1 19 := ⟨by decide +kernel, rfl⟩
theorem aX3_readSign_19 : At kX3_readSign 19 (.getfield 32) 3 22 := ⟨by decide +kernel, rfl⟩
theorem aX3_readSign_22 : At kX3_readSign 22 (.aload_n 0) 1 23 := ⟨by decide +kernel, rfl⟩
theorem aX3_readSign_23 : At kX3_readSign 23 (.getfield 17) 3 26 := ⟨by decide +kernel, rfl⟩
theorem aX3_readSign_26 : At kX3_readSign 26 (.arraylength) 1 27 := ⟨by decide +kernel, rfl⟩
theorem aX3_readSign_27 : At kX3_readSign 27 (.if_icmp .ge 16) 3 30 := ⟨by decide +kernel, rfl⟩
theorem aX3_readSign_30 : At kX3_readSign 30 (.aload_n 0) 1 31 := ⟨by decide +kernel, rfl⟩
theorem aX3_readSign_31 : At kX3_readSign 31 (.getfield 17) 3 34 := ⟨by decide +kernel, rfl⟩
theorem aX3_readSign_34 : At kX3_readSign 34 (.aload_n 0) 1 35 := ⟨by decide +kernel, rfl⟩
theorem aX3_readSign_35 : At kX3_readSign 35 (.getfield 32) 3 38 := ⟨by decide +kernel, rfl⟩
theorem aX3_readSign_38 : At kX3_readSign 38 (.caload) 1 39 := ⟨by decide +kernel, rfl⟩
theorem aX3_readSign_39 : At kX3_readSign 39 (.iload_n 1) 1 40 := ⟨by decide +kernel, rfl⟩
theorem aX3_readSign_40 : At kX3_readSign 40 (.if_icmp .eq 5) 3 43 := ⟨by decide +kernel, rfl⟩
theorem aX3_readSign_43 : At kX3_readSign 43 (.iconst 0) 1 44 := ⟨by decide +kernel, rfl⟩
theorem aX3_readSign_44 : At kX3_readSign 44 (.ireturn) 1 45 := ⟨by decide +kernel, rfl⟩
theorem aX3_readSign_45 : At kX3_readSign 45 (.aload_n 0) 1 46 := ⟨by decide +kernel, rfl⟩
theorem aX3_readSign_46 : At kX3_readSign 46 (.dup) 1 47 := ⟨by decide +kernel, rfl⟩
theorem aX3_readSign_47 : At kX3_readSign 47 (.getfield 32) 3 50 := ⟨by decide +kernel, rfl⟩
theorem aX3_readSign_50 : At kX3_readSign 50 (.iconst 1) 1 51 := ⟨by decide +kernel, rfl⟩
theorem aX3_readSign_51 : At kX3_readSign 51 (.iadd) 1 52 := ⟨by decide +kernel, rfl⟩
theorem aX3_readSign_52 : At kX3_readSign 52 (.putfield 32) 3 55 := ⟨by decide +kernel, rfl⟩
theorem aX3_readSign_55 : At kX3_readSign 55 (.iconst 1) 1 56 := ⟨by decide +kernel, rfl⟩
theorem aX3_readSign_56 : At kX3_readSign 56 (.ireturn) 1 57 := ⟨by decide +kernel, rfl⟩
theorem aX4_init_0 : At kX4_init 0 (.aload_n 0) 1 1 := ⟨by decide +kernel, rfl⟩
theorem aX4_init_1 : At kX4_init 1 (.invokespecial 3) 3 4 := ⟨by decide +kernel, rfl⟩
theorem aX4_init_4 : At kX4_init 4 (.aload_n 0) 1 5 := ⟨by decide +kernel, rfl⟩
theorem aX4_init_5 : At kX4_init 5 (.bipush 6) 2 7 := ⟨by decide +kernel, rfl⟩
theorem aX4_init_7 : At kX4_init 7 (.anewarray 9) 3 10 := ⟨by decide +kernel, rfl⟩
theorem aX4_init_10 : At kX4_init 10 (.putfield 11) 3 13 := ⟨by decide +kernel, rfl⟩
theorem aX4_init_13 : At kX4_init 13 (.aload_n 0) 1 14 := ⟨by decide +kernel, rfl⟩
theorem aX4_init_14 : At kX4_init 14 (.new 17) 3 17 := ⟨by decide +kernel, rfl⟩
theorem aX4_init_17 : At kX4_init 17 (.dup) 1 18 := ⟨by decide +kernel, rfl⟩
theorem aX4_init_18 : At kX4_init 18 (.invokespecial 19) 3 21 := ⟨by decide +kernel, rfl⟩
theorem aX4_init_21 : At kX4_init 21 (.putfield 20) 3 24 := ⟨by decide +kernel, rfl⟩
theorem aX4_init_24 : At kX4_init 24 (.aload_n 0) 1 25 := ⟨by decide +kernel, rfl⟩
theorem aX4_init_25 : At kX4_init 25 (.iconst 2) 1 26 := ⟨by decide +kernel, rfl⟩
theorem aX4_init_26 : At kX4_init 26 (.putfield 24) 3 29 := ⟨by decide +kernel, rfl⟩
theorem aX4_init_29 : At kX4_init 29 (.iconst 0) 1 30 := ⟨by decide +kernel, rfl⟩
theorem aX4_init_30 : At kX4_init 30 (.istore_n 1) 1 31 := ⟨by decide +kernel, rfl⟩
theorem aX4_init_31 : At kX4_init 31 (.iload_n 1) 1 32 := ⟨by decide +kernel, rfl⟩
theorem aX4_init_32 : At kX4_init 32 (.bipush 6) 2 34 := ⟨by decide +kernel, rfl⟩
theorem aX4_init_34 : At kX4_init 34 (.if_icmp .ge 22) 3 37 := ⟨by decide +kernel, rfl⟩
theorem aX4_init_37 : At kX4_init 37 (.aload_n 0) 1 38 := ⟨by decide +kernel, rfl⟩
theorem aX4_init_38 : At kX4_init 38 (.getfield 11) 3 41 := ⟨by decide +kernel, rfl⟩
theorem aX4_init_41 : At kX4_init 41 (.iload_n 1) 1 42 := ⟨by decide +kernel, rfl⟩
theorem aX4_init_42 : At kX4_init 42 (.new 9) 3 45 := ⟨by decide +kernel, rfl⟩
theorem aX4_init_45 : At kX4_init 45 (.dup) 1 46 := ⟨by decide +kernel, rfl⟩
theorem aX4_init_46 : At kX4_init 46 (.invokespecial 28) 3 49 := ⟨by decide +kernel, rfl⟩
theorem aX4_init_49 : At kX4_init 49 (.aastore) 1 50 := ⟨by decide +kernel, rfl⟩
theorem aX4_init_50 : At kX4_init 50 (.iinc 1 1) 3 53 := ⟨by decide +kernel, rfl⟩
theorem aX4_init_53 : At kX4_init 53 (.goto (-22)) 3 56 := ⟨by decide +kernel, rfl⟩
theorem aX4_init_56 : At kX4_init 56 (.return_) 1 57 := ⟨by decide +kernel, rfl⟩
theorem aX4_copyFrom_0 : At kX4_copyFrom 0 (.iconst 0) 1 1 := ⟨by decide +kernel, rfl⟩
theorem aX4_copyFrom_1 : At kX4_copyFrom 1 (.istore_n 2) 1 2 := ⟨by decide +kernel, rfl⟩
theorem aX4_copyFrom_2 : At kX4_copyFrom 2 (.iload_n 2) 1 3 := ⟨by decide +kernel, rfl⟩
theorem aX4_copyFrom_3 : At kX4_copyFrom 3 (.bipush 6) 2 5 := ⟨by decide +kernel, rfl⟩
theorem aX4_copyFrom_5 : At kX4_copyFrom 5 (.if_icmp .ge 24) 3 8 := ⟨by decide +kernel, rfl⟩
theorem aX4_copyFrom_8 : At kX4_copyFrom 8 (.aload_n 0) 1 9 := ⟨by decide +kernel, rfl⟩
theorem aX4_copyFrom_9 : At kX4_copyFrom 9 (.getfield 11) 3 12 := ⟨by decide +kernel, rfl⟩
theorem aX4_copyFrom_12 : At kX4_copyFrom 12 (.iload_n 2) 1 13 := ⟨by decide +kernel, rfl⟩
theorem aX4_copyFrom_13 : At kX4_copyFrom 13 (.aaload) 1 14 := ⟨by decide +kernel, rfl⟩
theorem aX4_copyFrom_14 : At kX4_copyFrom 14 (.aload_n 1) 1 15 := ⟨by decide +kernel, rfl⟩
theorem aX4_copyFrom_15 : At kX4_copyFrom 15 (.getfield 11) 3 18 := ⟨by decide +kernel, rfl⟩
theorem aX4_copyFrom_18 : At kX4_copyFrom 18 (.iload_n 2) 1 19 := ⟨by decide +kernel, rfl⟩
theorem aX4_copyFrom_19 : At kX4_copyFrom 19 (.aaload) 1 20 := ⟨by decide +kernel, rfl⟩
theorem aX4_copyFrom_20 : At kX4_copyFrom 20 (.invokevirtual 29) 3 23 := ⟨by decide +kernel, rfl⟩
theorem aX4_copyFrom_23 : At kX4_copyFrom 23 (.iinc 2 1) 3 26 := ⟨by decide +kernel, rfl⟩
theorem aX4_copyFrom_26 : At kX4_copyFrom 26 (.goto (-24)) 3 29 := ⟨by decide +kernel, rfl⟩
theorem aX4_copyFrom_29 : At kX4_copyFrom 29 (.aload_n 0) 1 30 := ⟨by decide +kernel, rfl⟩
theorem aX4_copyFrom_30 : At kX4_copyFrom 30 (.getfield 20) 3 33 := ⟨by decide +kernel, rfl⟩
theorem aX4_copyFrom_33 : At kX4_copyFrom 33 (.aload_n 1) 1 34 := ⟨by decide +kernel, rfl⟩
theorem aX4_copyFrom_34 : At kX4_copyFrom 34 (.getfield 20) 3 37 := ⟨by decide +kernel, rfl⟩
theorem aX4_copyFrom_37 : At kX4_copyFrom 37 (.invokevirtual 33) 3 40 := ⟨by decide +kernel, rfl⟩
theorem aX4_copyFrom_40 : At kX4_copyFrom 40 (.aload_n 0) 1 41 := ⟨by decide +kernel, rfl⟩
theorem aX4_copyFrom_41 : At kX4_copyFrom 41 (.aload_n 1) 1 42 := ⟨by decide +kernel, rfl⟩
theorem aX4_copyFrom_42 : At kX4_copyFrom 42 (.getfield 24) 3 45 := ⟨by decide +kernel, rfl⟩
theorem aX4_copyFrom_45 : At kX4_copyFrom 45 (.putfield 24) 3 48 := ⟨by decide +kernel, rfl⟩
theorem aX4_copyFrom_48 : At kX4_copyFrom 48 (.aload_n 0) 1 49 := ⟨by decide +kernel, rfl⟩
theorem aX4_copyFrom_49 : At kX4_copyFrom 49 (.aload_n 1) 1 50 := ⟨by decide +kernel, rfl⟩
theorem aX4_copyFrom_50 : At kX4_copyFrom 50 (.getfield 36) 3 53 := ⟨by decide +kernel, rfl⟩
theorem aX4_copyFrom_53 : At kX4_copyFrom 53 (.putfield 36) 3 56 := ⟨by decide +kernel, rfl⟩
theorem aX4_copyFrom_56 : At kX4_copyFrom 56 (.aload_n 0) 1 57 := ⟨by decide +kernel, rfl⟩
theorem aX4_copyFrom_57 : At kX4_copyFrom 57 (.aload_n 1) 1 58 := ⟨by decide +kernel, rfl⟩
theorem aX4_copyFrom_58 : At kX4_copyFrom 58 (.getfield 39) 3 61 := ⟨by decide +kernel, rfl⟩
theorem aX4_copyFrom_61 : At kX4_copyFrom 61 (.putfield 39) 3 64 := ⟨by decide +kernel, rfl⟩
theorem aX4_copyFrom_64 : At kX4_copyFrom 64 (.aload_n 0) 1 65 := ⟨by decide +kernel, rfl⟩
theorem aX4_copyFrom_65 : At kX4_copyFrom 65 (.aload_n 1) 1 66 := ⟨by decide +kernel, rfl⟩
theorem aX4_copyFrom_66 : At kX4_copyFrom 66 (.getfield 42) 3 69 := ⟨by decide +kernel, rfl⟩
theorem aX4_copyFrom_69 : At kX4_copyFrom 69 (.putfield 42) 3 72 := ⟨by decide +kernel, rfl⟩
theorem aX4_copyFrom_72 : At kX4_copyFrom 72 (.return_) 1 73 := ⟨by decide +kernel, rfl⟩
theorem aX4_firstNeeded_0 : At kX4_firstNeeded 0 (.aload_n 0) 1 1 := ⟨by decide +kernel, rfl⟩
theorem aX4_firstNeeded_1 : At kX4_firstNeeded 1 (.getfield 20) 3 4 := ⟨by decide +kernel, rfl⟩
theorem aX4_firstNeeded_4 : At kX4_firstNeeded 4 (.getfield 45) 3 7 := ⟨by decide +kernel, rfl⟩
theorem aX4_firstNeeded_7 : At kX4_firstNeeded 7 (.aload_n 0) 1 8 := ⟨by decide +kernel, rfl⟩
theorem aX4_firstNeeded_8 : At kX4_firstNeeded 8 (.getfield 11) 3 11 := ⟨by decide +kernel, rfl⟩
theorem aX4_firstNeeded_11 : At kX4_firstNeeded 11 (.iload_n 1) 1 12 := ⟨by decide +kernel, rfl⟩
theorem aX4_firstNeeded_12 : At kX4_firstNeeded 12 (.aaload) 1 13 := ⟨by decide +kernel, rfl⟩
theorem aX4_firstNeeded_13 : At kX4_firstNeeded 13 (.getfield 48) 3 16 := ⟨by decide +kernel, rfl⟩
theorem aX4_firstNeeded_16 : At kX4_firstNeeded 16 (.invokestatic 51) 3 19 := ⟨by decide +kernel, rfl⟩
theorem aX4_firstNeeded_19 : At kX4_firstNeeded 19 (.istore_n 3) 1 20 := ⟨by decide +kernel, rfl⟩
theorem aX4_firstNeeded_20 : At kX4_firstNeeded 20 (.iload_n 2) 1 21 := ⟨by decide +kernel, rfl⟩
theorem aX4_firstNeeded_21 : At kX4_firstNeeded 21 (.istore 4) 2 23 := ⟨by decide +kernel, rfl⟩
theorem aX4_firstNeeded_23 : At kX4_firstNeeded 23 (.iload_n 2) 1 24 := ⟨by decide +kernel, rfl⟩
theorem aX4_firstNeeded_24 : At kX4_firstNeeded 24 (.iconst 1) 1 25 := ⟨by decide +kernel, rfl⟩
theorem aX4_firstNeeded_25 : At kX4_firstNeeded 25 (.isub) 1 26 := ⟨by decide +kernel, rfl⟩
theorem aX4_firstNeeded_26 : At kX4_firstNeeded 26 (.istore 5) 2 28 := ⟨by decide +kernel, rfl⟩
theorem aX4_firstNeeded_28 : At kX4_firstNeeded 28 (.iload 5) 2 30 := ⟨by decide +kernel, rfl⟩
theorem aX4_firstNeeded_30 : At kX4_firstNeeded 30 (.iload_n 3) 1 31 := ⟨by decide +kernel, rfl⟩
theorem aX4_firstNeeded_31 : At kX4_firstNeeded 31 (.if_icmp .lt 49) 3 34 := ⟨by decide +kernel, rfl⟩
theorem aX4_firstNeeded_34 : At kX4_firstNeeded 34 (.aload_n 0) 1 35 := ⟨by decide +kernel, rfl⟩
theorem aX4_firstNeeded_35 : At kX4_firstNeeded 35 (.getfield 20) 3 38 := ⟨by decide +kernel, rfl⟩
theorem aX4_firstNeeded_38 : At kX4_firstNeeded 38 (.iload 5) 2 40 := ⟨by decide +kernel, rfl⟩
theorem aX4_firstNeeded_40 : At kX4_firstNeeded 40 (.invokevirtual 57) 3 43 := ⟨by decide +kernel, rfl⟩
theorem aX4_firstNeeded_43 : At kX4_firstNeeded 43 (.astore 6) 2 45 := ⟨by decide +kernel, rfl⟩
theorem aX4_firstNeeded_45 : At kX4_firstNeeded 45 (.aload 6) 2 47 := ⟨by decide +kernel, rfl⟩
theorem aX4_firstNeeded_47 : At kX4_firstNeeded 47 (.ifnull 27) 3 50 := ⟨by decide +kernel, rfl⟩
theorem aX4_firstNeeded_50 : At kX4_firstNeeded 50 (.aload 6) 2 52 := ⟨by decide +kernel, rfl⟩
theorem aX4_firstNeeded_52 : At kX4_firstNeeded 52 (.getfield 61) 3 55 := ⟨by decide +kernel, rfl⟩
theorem aX4_firstNeeded_55 : At kX4_firstNeeded 55 (.iload_n 1) 1 56 := ⟨by decide +kernel, rfl⟩
theorem aX4_firstNeeded_56 : At kX4_firstNeeded 56 (.if_icmp .ne 18) 3 59 := ⟨by decide +kernel, rfl⟩
theorem aX4_firstNeeded_59 : At kX4_firstNeeded 59 (.iload 5) 2 61 := ⟨by decide +kernel, rfl⟩
theorem aX4_firstNeeded_61 : At kX4_firstNeeded 61 (.istore 4) 2 63 := ⟨by decide +kernel, rfl⟩
theorem aX4_firstNeeded_63 : At kX4_firstNeeded 63 (.aload 6) 2 65 := ⟨by decide +kernel, rfl⟩
theorem aX4_firstNeeded_65 : At kX4_firstNeeded 65 (.getfield 66) 3 68 := ⟨by decide +kernel, rfl⟩
theorem aX4_firstNeeded_68 : At kX4_firstNeeded 68 (.ifCond .ne 6) 3 71 := ⟨by decide +kernel, rfl⟩
theorem aX4_firstNeeded_71 : At kX4_firstNeeded 71 (.iload 4) 2 73 := ⟨by decide +kernel, rfl⟩
theorem aX4_firstNeeded_73 : At kX4_firstNeeded 73 (.ireturn) 1 74 := ⟨by decide +kernel, rfl⟩
theorem aX4_firstNeeded_74 : At kX4_firstNeeded 74 (.iinc 5 (-1)) 3 77 := ⟨by decide +kernel, rfl⟩
theorem aX4_firstNeeded_77 : At kX4_firstNeeded 77 (.goto (-49)) 3 80 := ⟨by decide +kernel, rfl⟩
theorem aX4_firstNeeded_80 : At kX4_firstNeeded 80 (.iload 4) 2 82 := ⟨by decide +kernel, rfl⟩
theorem aX4_firstNeeded_82 : At kX4_firstNeeded 82 (.ireturn) 1 83 := ⟨by decide +kernel, rfl⟩
theorem aX4_isNeeded_0 : At kX4_isNeeded 0 (.aload_n 0) 1 1 := ⟨by decide +kernel, rfl⟩
theorem aX4_isNeeded_1 : At kX4_isNeeded 1 (.getfield 20) 3 4 := ⟨by decide +kernel, rfl⟩
theorem aX4_isNeeded_4 : At kX4_isNeeded 4 (.iload_n 1) 1 5 := ⟨by decide +kernel, rfl⟩
theorem aX4_isNeeded_5 : At kX4_isNeeded 5 (.invokevirtual 57) 3 8 := ⟨by decide +kernel, rfl⟩
theorem aX4_isNeeded_8 : At kX4_isNeeded 8 (.astore_n 2) 1 9 := ⟨by decide +kernel, rfl⟩
theorem aX4_isNeeded_9 : At kX4_isNeeded 9 (.aload_n 2) 1 10 := ⟨by decide +kernel, rfl⟩
theorem aX4_isNeeded_10 : At kX4_isNeeded 10 (.ifnonnull 5) 3 13 := ⟨by decide +kernel, rfl⟩
theorem aX4_isNeeded_13 : At kX4_isNeeded 13 (.iconst 0) 1 14 := ⟨by decide +kernel, rfl⟩
theorem aX4_isNeeded_14 : At kX4_isNeeded 14 (.ireturn) 1 15 := ⟨by decide +kernel, rfl⟩
theorem aX4_isNeeded_15 : At kX4_isNeeded 15 (.iload_n 1) 1 16 := ⟨by decide +kernel, rfl⟩
theorem aX4_isNeeded_16 : At kX4_isNeeded 16 (.aload_n 0) 1 17 := ⟨by decide +kernel, rfl⟩
theorem aX4_isNeeded_17 : At kX4_isNeeded 17 (.aload_n 2) 1 18 := ⟨by decide +kernel, rfl⟩
theorem aX4_isNeeded_18 : At kX4_isNeeded 18 (.getfield 61) 3 21 := ⟨by decide +kernel, rfl⟩
theorem aX4_isNeeded_21 : At kX4_isNeeded 21 (.aload_n 0) 1 22 := ⟨by decide +kernel, rfl⟩
theorem aX4_isNeeded_22 : At kX4_isNeeded 22 (.getfield 20) 3 25 := ⟨by decide +kernel, rfl⟩
theorem aX4_isNeeded_25 : At kX4_isNeeded 25 (.invokevirtual 69) 3 28 := ⟨by decide +kernel, rfl⟩
theorem aX4_isNeeded_28 : At kX4_isNeeded 28 (.invokevirtual 73) 3 31 := ⟨by decide +kernel, rfl⟩
theorem aX4_isNeeded_31 : At kX4_isNeeded 31 (.if_icmp .ge 33) 3 34 := ⟨by decide +kernel, rfl⟩
theorem aX4_isNeeded_34 : At kX4_isNeeded 34 (.iload_n 1) 1 35 := ⟨by decide +kernel, rfl⟩
theorem aX4_isNeeded_35 : At kX4_isNeeded 35 (.aload_n 0) 1 36 := ⟨by decide +kernel, rfl⟩
theorem aX4_isNeeded_36 : At kX4_isNeeded 36 (.getfield 20) 3 39 := ⟨by decide +kernel, rfl⟩
theorem aX4_isNeeded_39 : At kX4_isNeeded 39 (.getfield 76) 3 42 := ⟨by decide +kernel, rfl⟩
theorem aX4_isNeeded_42 : At kX4_isNeeded 42 (.if_icmp .ge 26) 3 45 := ⟨by decide +kernel, rfl⟩
theorem aX4_isNeeded_45 : At kX4_isNeeded 45 (.iload_n 1) 1 46 := ⟨by decide +kernel, rfl⟩
theorem aX4_isNeeded_46 : At kX4_isNeeded 46 (.aload_n 0) 1 47 := ⟨by decide +kernel, rfl⟩
theorem aX4_isNeeded_47 : At kX4_isNeeded 47 (.aload_n 2) 1 48 := ⟨by decide +kernel, rfl⟩
theorem aX4_isNeeded_48 : At kX4_isNeeded 48 (.getfield 61) 3 51 := ⟨by decide +kernel, rfl⟩
theorem aX4_isNeeded_51 : At kX4_isNeeded 51 (.aload_n 0) 1 52 := ⟨by decide +kernel, rfl⟩
theorem aX4_isNeeded_52 : At kX4_isNeeded 52 (.getfield 20) 3 55 := ⟨by decide +kernel, rfl⟩
theorem aX4_isNeeded_55 : At kX4_isNeeded 55 (.getfield 76) 3 58 := ⟨by decide +kernel, rfl⟩
theorem aX4_isNeeded_58 : At kX4_isNeeded 58 (.invokevirtual 73) 3 61 := ⟨by decide +kernel, rfl⟩
theorem aX4_isNeeded_61 : At kX4_isNeeded 61 (.if_icmp .lt 7) 3 64 := ⟨by decide +kernel, rfl⟩
theorem aX4_isNeeded_64 : At kX4_isNeeded 64 (.iconst 1) 1 65 := ⟨by decide +kernel, rfl⟩
theorem aX4_isNeeded_65 : At kX4_isNeeded 65 (.goto 4) 3 68 := ⟨by decide +kernel, rfl⟩
theorem aX4_isNeeded_68 : At kX4_isNeeded 68 (.iconst 0) 1 69 := ⟨by decide +kernel, rfl⟩
theorem aX4_isNeeded_69 : At kX4_isNeeded 69 (.ireturn) 1 70 := ⟨by decide +kernel, rfl⟩
theorem aX4_neededEntries_0 : At kX4_neededEntries 0 (.iconst 0) 1 1 := ⟨by decide +kernel, rfl⟩
theorem aX4_neededEntries_1 : At kX4_neededEntries 1 (.istore_n 1) 1 2 := ⟨by decide +kernel, rfl⟩
theorem aX4_neededEntries_2 : At kX4_neededEntries 2 (.aload_n 0) 1 3 := ⟨by decide +kernel, rfl⟩
theorem aX4_neededEntries_3 : At kX4_neededEntries 3 (.getfield 20) 3 6 := ⟨by decide +kernel, rfl⟩
theorem aX4_neededEntries_6 : At kX4_neededEntries 6 (.getfield 45) 3 9 := ⟨by decide +kernel, rfl⟩
theorem aX4_neededEntries_9 : At kX4_neededEntries 9 (.istore_n 2) 1 10 := ⟨by decide +kernel, rfl⟩
theorem aX4_neededEntries_10 : At kX4_neededEntries 10 (.iload_n 2) 1 11 := ⟨by decide +kernel, rfl⟩
theorem aX4_neededEntries_11 : At kX4_neededEntries 11 (.aload_n 0) 1 12 := ⟨by decide +kernel, rfl⟩
theorem aX4_neededEntries_12 : At kX4_neededEntries 12 (.getfield 20) 3 15 := ⟨by decide +kernel, rfl⟩
theorem aX4_neededEntries_15 : At kX4_neededEntries 15 (.invokevirtual 69) 3 18 := ⟨by decide +kernel, rfl⟩
theorem aX4_neededEntries_18 : At kX4_neededEntries 18 (.if_icmp .ge 20) 3 21 := ⟨by decide +kernel, rfl⟩
theorem aX4_neededEntries_21 : At kX4_neededEntries 21 (.aload_n 0) 1 22 := ⟨by decide +kernel, rfl⟩
theorem aX4_neededEntries_22 : At kX4_neededEntries 22 (.iload_n 2) 1 23 := ⟨by decide +kernel, rfl⟩
theorem aX4_neededEntries_23 : At kX4_neededEntries 23 (.invokevirtual 79) 3 26 := ⟨by decide +kernel, rfl⟩
theorem aX4_neededEntries_26 : At kX4_neededEntries 26 (.ifCond .eq 6) 3 29 := ⟨by decide +kernel, rfl⟩
theorem aX4_neededEntries_29 : At kX4_neededEntries 29 (.iinc 1 1) 3 32 := ⟨by decide +kernel, rfl⟩
theorem aX4_neededEntries_32 : At kX4_neededEntries 32 (.iinc 2 1) 3 35 := ⟨by decide +kernel, rfl⟩
theorem aX4_neededEntries_35 : At kX4_neededEntries 35 (.goto (-25)) 3 38 := ⟨by decide +kernel, rfl⟩
theorem aX4_neededEntries_38 : At kX4_neededEntries 38 (.iload_n 1) 1 39 := ⟨by decide +kernel, rfl⟩
theorem aX4_neededEntries_39 : At kX4_neededEntries 39 (.ireturn) 1 40 := ⟨by decide +kernel, rfl⟩
theorem aX4_timeToRestore_0 : At kX4_timeToRestore 0 (.aload_n 0) 1 1 := ⟨by decide +kernel, rfl⟩
theorem aX4_timeToRestore_1 : At kX4_timeToRestore 1 (.getfield 20) 3 4 := ⟨by decide +kernel, rfl⟩
theorem aX4_timeToRestore_4 : At kX4_timeToRestore 4 (.invokevirtual 69) 3 7 := ⟨by decide +kernel, rfl⟩
theorem aX4_timeToRestore_7 : At kX4_timeToRestore 7 (.istore_n 2) 1 8 := ⟨by decide +kernel, rfl⟩
theorem aX4_timeToRestore_8 : At kX4_timeToRestore 8 (.aload_n 0) 1 9 := ⟨by decide +kernel, rfl⟩
theorem aX4_timeToRestore_9 : At kX4_timeToRestore 9 (.iload_n 1) 1 10 := ⟨by decide +kernel, rfl⟩
theorem aX4_timeToRestore_10 : At kX4_timeToRestore 10 (.iload_n 2) 1 11 := ⟨by decide +kernel, rfl⟩
theorem aX4_timeToRestore_11 : At kX4_timeToRestore 11 (.invokevirtual 73) 3 14 := ⟨by decide +kernel, rfl⟩
theorem aX4_timeToRestore_14 : At kX4_timeToRestore 14 (.istore_n 3) 1 15 := ⟨by decide +kernel, rfl⟩
theorem aX4_timeToRestore_15 : At kX4_timeToRestore 15 (.aload_n 0) 1 16 := ⟨by decide +kernel, rfl⟩
theorem aX4_timeToRestore_16 : At kX4_timeToRestore 16 (.getfield 20) 3 19 := ⟨by decide +kernel, rfl⟩
theorem aX4_timeToRestore_19 : At kX4_timeToRestore 19 (.iload_n 3) 1 20 := ⟨by decide +kernel, rfl⟩
theorem aX4_timeToRestore_20 : At kX4_timeToRestore 20 (.invokevirtual 57) 3 23 := ⟨by decide +kernel, rfl⟩
theorem aX4_timeToRestore_23 : At kX4_timeToRestore 23 (.astore 4) 2 25 := ⟨by decide +kernel, rfl⟩
theorem aX4_timeToRestore_25 : At kX4_timeToRestore 25 (.aload 4) 2 27 := ⟨by decide +kernel, rfl⟩
theorem aX4_timeToRestore_27 : At kX4_timeToRestore 27 (.ifnull 15) 3 30 := ⟨by decide +kernel, rfl⟩
theorem aX4_timeToRestore_30 : At kX4_timeToRestore 30 (.aload 4) 2 32 := ⟨by decide +kernel, rfl⟩
theorem aX4_timeToRestore_32 : At kX4_timeToRestore 32 (.getfield 66) 3 35 := ⟨by decide +kernel, rfl⟩
theorem aX4_timeToRestore_35 : At kX4_timeToRestore 35 (.ifCond .ne 7) 3 38 := ⟨by decide +kernel, rfl⟩
theorem aX4_timeToRestore_38 : At kX4_timeToRestore 38 (.iconst 0) 1 39 := ⟨by decide +kernel, rfl⟩
theorem aX4_timeToRestore_39 : At kX4_timeToRestore 39 (.goto 4) 3 42 := ⟨by decide +kernel, rfl⟩
theorem aX4_timeToRestore_42 : At kX4_timeToRestore 42 (.iconst 5) 1 43 := ⟨by decide +kernel, rfl⟩
theorem aX4_timeToRestore_43 : At kX4_timeToRestore 43 (.istore 5) 2 45 := ⟨by decide +kernel, rfl⟩
theorem aX4_timeToRestore_45 : At kX4_timeToRestore 45 (.iload 5) 2 47 := ⟨by decide +kernel, rfl⟩
theorem aX4_timeToRestore_47 : At kX4_timeToRestore 47 (.aload_n 0) 1 48 := ⟨by decide +kernel, rfl⟩
theorem aX4_timeToRestore_48 : At kX4_timeToRestore 48 (.getfield 20) 3 51 := ⟨by decide +kernel, rfl⟩
theorem aX4_timeToRestore_51 : At kX4_timeToRestore 51 (.iload_n 1) 1 52 := ⟨by decide +kernel, rfl⟩
theorem aX4_timeToRestore_52 : At kX4_timeToRestore 52 (.iload_n 3) 1 53 := ⟨by decide +kernel, rfl⟩
theorem aX4_timeToRestore_53 : At kX4_timeToRestore 53 (.iload_n 2) 1 54 := ⟨by decide +kernel, rfl⟩
theorem aX4_timeToRestore_54 : At kX4_timeToRestore 54 (.invokevirtual 83) 3 57 := ⟨by decide +kernel, rfl⟩
theorem aX4_timeToRestore_57 : At kX4_timeToRestore 57 (.iadd) 1 58 := ⟨by decide +kernel, rfl⟩
theorem aX4_timeToRestore_58 : At kX4_timeToRestore 58 (.ireturn) 1 59 := ⟨by decide +kernel, rfl⟩
theorem aX4_timeToRestoreAll_0 : At kX4_timeToRestoreAll 0 (.iconst 0) 1 1 := ⟨by decide +kernel, rfl⟩
theorem aX4_timeToRestoreAll_1 : At kX4_timeToRestoreAll 1 (.istore_n 1) 1 2 := ⟨by decide +kernel, rfl⟩
theorem aX4_timeToRestoreAll_2 : At kX4_timeToRestoreAll 2 (.iconst 0) 1 3 := ⟨by decide +kernel, rfl⟩
theorem aX4_timeToRestoreAll_3 : At kX4_timeToRestoreAll 3 (.istore_n 2) 1 4 := ⟨by decide +kernel, rfl⟩
theorem aX4_timeToRestoreAll_4 : At kX4_timeToRestoreAll 4 (.iload_n 2) 1 5 := ⟨by decide +kernel, rfl⟩
theorem aX4_timeToRestoreAll_5 : At kX4_timeToRestoreAll 5 (.bipush 6) 2 7 := ⟨by decide +kernel, rfl⟩
theorem aX4_timeToRestoreAll_7 : At kX4_timeToRestoreAll 7 (.if_icmp .ge 17) 3 10 := ⟨by decide +kernel, rfl⟩
theorem aX4_timeToRestoreAll_10 : At kX4_timeToRestoreAll 10 (.iload_n 1) 1 11 := ⟨by decide +kernel, rfl⟩
theorem aX4_timeToRestoreAll_11 : At kX4_timeToRestoreAll 11 (.aload_n 0) 1 12 := ⟨by decide +kernel, rfl⟩
theorem aX4_timeToRestoreAll_12 : At kX4_timeToRestoreAll 12 (.iload_n 2) 1 13 := ⟨by decide +kernel, rfl⟩
theorem aX4_timeToRestoreAll_13 : At kX4_timeToRestoreAll 13 (.invokevirtual 87) 3 16 := ⟨by decide +kernel, rfl⟩
theorem aX4_timeToRestoreAll_16 : At kX4_timeToRestoreAll 16 (.iadd) 1 17 := ⟨by decide +kernel, rfl⟩
theorem aX4_timeToRestoreAll_17 : At kX4_timeToRestoreAll 17 (.istore_n 1) 1 18 := ⟨by decide +kernel, rfl⟩
theorem aX4_timeToRestoreAll_18 : At kX4_timeToRestoreAll 18 (.iinc 2 1) 3 21 := ⟨by decide +kernel, rfl⟩
theorem aX4_timeToRestoreAll_21 : At kX4_timeToRestoreAll 21 (.goto (-17)) 3 24 := ⟨by decide +kernel, rfl⟩
theorem aX4_timeToRestoreAll_24 : At kX4_timeToRestoreAll 24 (.iload_n 1) 1 25 := ⟨by decide +kernel, rfl⟩
theorem aX4_timeToRestoreAll_25 : At kX4_timeToRestoreAll 25 (.ireturn) 1 26 := ⟨by decide +kernel, rfl⟩
theorem aX4_doubtfulPages_0 : At kX4_doubtfulPages 0 (.iconst 0) 1 1 := ⟨by decide +kernel, rfl⟩
theorem aX4_doubtfulPages_1 : At kX4_doubtfulPages 1 (.istore_n 1) 1 2 := ⟨by decide +kernel, rfl⟩
theorem aX4_doubtfulPages_2 : At kX4_doubtfulPages 2 (.iconst 0) 1 3 := ⟨by decide +kernel, rfl⟩
theorem aX4_doubtfulPages_3 : At kX4_doubtfulPages 3 (.istore_n 2) 1 4 := ⟨by decide +kernel, rfl⟩
theorem aX4_doubtfulPages_4 : At kX4_doubtfulPages 4 (.iload_n 2) 1 5 := ⟨by decide +kernel, rfl⟩
theorem aX4_doubtfulPages_5 : At kX4_doubtfulPages 5 (.bipush 6) 2 7 := ⟨by decide +kernel, rfl⟩
theorem aX4_doubtfulPages_7 : At kX4_doubtfulPages 7 (.if_icmp .ge 24) 3 10 := ⟨by decide +kernel, rfl⟩
theorem aX4_doubtfulPages_10 : At kX4_doubtfulPages 10 (.aload_n 0) 1 11 := ⟨by decide +kernel, rfl⟩
theorem aX4_doubtfulPages_11 : At kX4_doubtfulPages 11 (.getfield 11) 3 14 := ⟨by decide +kernel, rfl⟩
theorem aX4_doubtfulPages_14 : At kX4_doubtfulPages 14 (.iload_n 2) 1 15 := ⟨by decide +kernel, rfl⟩
theorem aX4_doubtfulPages_15 : At kX4_doubtfulPages 15 (.aaload) 1 16 := ⟨by decide +kernel, rfl⟩
theorem aX4_doubtfulPages_16 : At kX4_doubtfulPages 16 (.getfield 91) 3 19 := ⟨by decide +kernel, rfl⟩
theorem aX4_doubtfulPages_19 : At kX4_doubtfulPages 19 (.ifCond .eq 6) 3 22 := ⟨by decide +kernel, rfl⟩
theorem aX4_doubtfulPages_22 : At kX4_doubtfulPages 22 (.iinc 1 1) 3 25 := ⟨by decide +kernel, rfl⟩
theorem aX4_doubtfulPages_25 : At kX4_doubtfulPages 25 (.iinc 2 1) 3 28 := ⟨by decide +kernel, rfl⟩
theorem aX4_doubtfulPages_28 : At kX4_doubtfulPages 28 (.goto (-24)) 3 31 := ⟨by decide +kernel, rfl⟩
theorem aX4_doubtfulPages_31 : At kX4_doubtfulPages 31 (.iload_n 1) 1 32 := ⟨by decide +kernel, rfl⟩
theorem aX4_doubtfulPages_32 : At kX4_doubtfulPages 32 (.ireturn) 1 33 := ⟨by decide +kernel, rfl⟩
theorem aX4_needsDamaged_0 : At kX4_needsDamaged 0 (.aload_n 0) 1 1 := ⟨by decide +kernel, rfl⟩
theorem aX4_needsDamaged_1 : At kX4_needsDamaged 1 (.getfield 20) 3 4 := ⟨by decide +kernel, rfl⟩
theorem aX4_needsDamaged_4 : At kX4_needsDamaged 4 (.invokevirtual 69) 3 7 := ⟨by decide +kernel, rfl⟩
theorem aX4_needsDamaged_7 : At kX4_needsDamaged 7 (.istore_n 2) 1 8 := ⟨by decide +kernel, rfl⟩
theorem aX4_needsDamaged_8 : At kX4_needsDamaged 8 (.aload_n 0) 1 9 := ⟨by decide +kernel, rfl⟩
theorem aX4_needsDamaged_9 : At kX4_needsDamaged 9 (.getfield 20) 3 12 := ⟨by decide +kernel, rfl⟩
theorem aX4_needsDamaged_12 : At kX4_needsDamaged 12 (.iload_n 1) 1 13 := ⟨by decide +kernel, rfl⟩
theorem aX4_needsDamaged_13 : At kX4_needsDamaged 13 (.aload_n 0) 1 14 := ⟨by decide +kernel, rfl⟩
theorem aX4_needsDamaged_14 : At kX4_needsDamaged 14 (.iload_n 1) 1 15 := ⟨by decide +kernel, rfl⟩
theorem aX4_needsDamaged_15 : At kX4_needsDamaged 15 (.iload_n 2) 1 16 := ⟨by decide +kernel, rfl⟩
theorem aX4_needsDamaged_16 : At kX4_needsDamaged 16 (.invokevirtual 73) 3 19 := ⟨by decide +kernel, rfl⟩
theorem aX4_needsDamaged_19 : At kX4_needsDamaged 19 (.iload_n 2) 1 20 := ⟨by decide +kernel, rfl⟩
theorem aX4_needsDamaged_20 : At kX4_needsDamaged 20 (.invokevirtual 95) 3 23 := ⟨by decide +kernel, rfl⟩
theorem aX4_needsDamaged_23 : At kX4_needsDamaged 23 (.iload_n 2) 1 24 := ⟨by decide +kernel, rfl⟩
theorem aX4_needsDamaged_24 : At kX4_needsDamaged 24 (.if_icmp .ge 7) 3 27 := ⟨by decide +kernel, rfl⟩
theorem aX4_needsDamaged_27 : At kX4_needsDamaged 27 (.iconst 1) 1 28 := ⟨by decide +kernel, rfl⟩
theorem aX4_needsDamaged_28 : At kX4_needsDamaged 28 (.goto 4) 3 31 := ⟨by decide +kernel, rfl⟩
theorem aX4_needsDamaged_31 : At kX4_needsDamaged 31 (.iconst 0) 1 32 := ⟨by decide +kernel, rfl⟩
theorem aX4_needsDamaged_32 : At kX4_needsDamaged 32 (.ireturn) 1 33 := ⟨by decide +kernel, rfl⟩
theorem aX4_endOfSound_0 : At kX4_endOfSound 0 (.aload_n 0) 1 1 := ⟨by decide +kernel, rfl⟩
theorem aX4_endOfSound_1 : At kX4_endOfSound 1 (.getfield 20) 3 4 := ⟨by decide +kernel, rfl⟩
theorem aX4_endOfSound_4 : At kX4_endOfSound 4 (.invokevirtual 69) 3 7 := ⟨by decide +kernel, rfl⟩
theorem aX4_endOfSound_7 : At kX4_endOfSound 7 (.istore_n 2) 1 8 := ⟨by decide +kernel, rfl⟩
theorem aX4_endOfSound_8 : At kX4_endOfSound 8 (.iconst 0) 1 9 := ⟨by decide +kernel, rfl⟩
theorem aX4_endOfSound_9 : At kX4_endOfSound 9 (.istore_n 3) 1 10 := ⟨by decide +kernel, rfl⟩
theorem aX4_endOfSound_10 : At kX4_endOfSound 10 (.iload_n 3) 1 11 := ⟨by decide +kernel, rfl⟩
theorem aX4_endOfSound_11 : At kX4_endOfSound 11 (.bipush 100) 2 13 := ⟨by decide +kernel, rfl⟩
theorem aX4_endOfSound_13 : At kX4_endOfSound 13 (.if_icmp .ge 37) 3 16 := ⟨by decide +kernel, rfl⟩
theorem aX4_endOfSound_16 : At kX4_endOfSound 16 (.aload_n 0) 1 17 := ⟨by decide +kernel, rfl⟩
theorem aX4_endOfSound_17 : At kX4_endOfSound 17 (.getfield 20) 3 20 := ⟨by decide +kernel, rfl⟩
theorem aX4_endOfSound_20 : At kX4_endOfSound 20 (.iload_n 1) 1 21 := ⟨by decide +kernel, rfl⟩
theorem aX4_endOfSound_21 : At kX4_endOfSound 21 (.aload_n 0) 1 22 := ⟨by decide +kernel, rfl⟩
theorem aX4_endOfSound_22 : At kX4_endOfSound 22 (.iload_n 1) 1 23 := ⟨by decide +kernel, rfl⟩
theorem aX4_endOfSound_23 : At kX4_endOfSound 23 (.iload_n 2) 1 24 := ⟨by decide +kernel, rfl⟩
theorem aX4_endOfSound_24 : At kX4_endOfSound 24 (.invokevirtual 73) 3 27 := ⟨by decide +kernel, rfl⟩
theorem aX4_endOfSound_27 : At kX4_endOfSound 27 (.iload_n 2) 1 28 := ⟨by decide +kernel, rfl⟩
theorem aX4_endOfSound_28 : At kX4_endOfSound 28 (.invokevirtual 95) 3 31 := ⟨by decide +kernel, rfl⟩
theorem aX4_endOfSound_31 : At kX4_endOfSound 31 (.istore 4) 2 33 := ⟨by decide +kernel, rfl⟩
theorem aX4_endOfSound_33 : At kX4_endOfSound 33 (.iload 4) 2 35 := ⟨by decide +kernel, rfl⟩
theorem aX4_endOfSound_35 : At kX4_endOfSound 35 (.iload_n 2) 1 36 := ⟨by decide +kernel, rfl⟩
theorem aX4_endOfSound_36 : At kX4_endOfSound 36 (.if_icmp .ne 5) 3 39 := ⟨by decide +kernel, rfl⟩
theorem aX4_endOfSound_39 : At kX4_endOfSound 39 (.iload_n 2) 1 40 := ⟨by decide +kernel, rfl⟩
theorem aX4_endOfSound_40 : At kX4_endOfSound 40 (.ireturn) 1 41 := ⟨by decide +kernel, rfl⟩
theorem aX4_endOfSound_41 : At kX4_endOfSound 41 (.iload 4) 2 43 := ⟨by decide +kernel, rfl⟩
theorem aX4_endOfSound_43 : At kX4_endOfSound 43 (.istore_n 2) 1 44 := ⟨by decide +kernel, rfl⟩
theorem aX4_endOfSound_44 : At kX4_endOfSound 44 (.iinc 3 1) 3 47 := ⟨by decide +kernel, rfl⟩
theorem aX4_endOfSound_47 : At kX4_endOfSound 47 (.goto (-37)) 3 50 := ⟨by decide +kernel, rfl⟩
theorem aX4_endOfSound_50 : At kX4_endOfSound 50 (.iload_n 2) 1 51 := ⟨by decide +kernel, rfl⟩
theorem aX4_endOfSound_51 : At kX4_endOfSound 51 (.ireturn) 1 52 := ⟨by decide +kernel, rfl⟩
theorem aX4_replay_0 : At kX4_replay 0 (.aload_n 0) 1 1 := ⟨by decide +kernel, rfl⟩
theorem aX4_replay_1 : At kX4_replay 1 (.getfield 11) 3 4 := ⟨by decide +kernel, rfl⟩
theorem aX4_replay_4 : At kX4_replay 4 (.iload_n 1) 1 5 := ⟨by decide +kernel, rfl⟩
theorem aX4_replay_5 : At kX4_replay 5 (.aaload) 1 6 := ⟨by decide +kernel, rfl⟩
theorem aX4_replay_6 : At kX4_replay 6 (.getfield 98) 3 9 := ⟨by decide +kernel, rfl⟩
theorem aX4_replay_9 : At kX4_replay 9 (.iconst 0) 1 10 := ⟨by decide +kernel, rfl⟩
theorem aX4_replay_10 : At kX4_replay 10 (.aload 4) 2 12 := ⟨by decide +kernel, rfl⟩
theorem aX4_replay_12 : At kX4_replay 12 (.iconst 0) 1 13 := ⟨by decide +kernel, rfl⟩
theorem aX4_replay_13 : At kX4_replay 13 (.bipush 12) 2 15 := ⟨by decide +kernel, rfl⟩
theorem aX4_replay_15 : At kX4_replay 15 (.invokestatic 102) 3 18 := ⟨by decide +kernel, rfl⟩
theorem aX4_replay_18 : At kX4_replay 18 (.iload_n 2) 1 19 := ⟨by decide +kernel, rfl⟩
theorem aX4_replay_19 : At kX4_replay 19 (.aload_n 0) 1 20 := ⟨by decide +kernel, rfl⟩
theorem aX4_replay_20 : At kX4_replay 20 (.getfield 20) 3 23 := ⟨by decide +kernel, rfl⟩
theorem aX4_replay_23 : At kX4_replay 23 (.getfield 45) 3 26 := ⟨by decide +kernel, rfl⟩
theorem aX4_replay_26 : At kX4_replay 26 (.invokestatic 51) 3 29 := ⟨by decide +kernel, rfl⟩
theorem aX4_replay_29 : At kX4_replay 29 (.istore 5) 2 31 := ⟨by decide +kernel, rfl⟩
theorem aX4_replay_31 : At kX4_replay 31 (.iload 5) 2 33 := ⟨by decide +kernel, rfl⟩
theorem aX4_replay_33 : At kX4_replay 33 (.iload_n 3) 1 34 := ⟨by decide +kernel, rfl⟩
theorem aX4_replay_34 : At kX4_replay 34 (.if_icmp .ge 41) 3 37 := ⟨by decide +kernel, rfl⟩
theorem aX4_replay_37 : At kX4_replay 37 (.aload_n 0) 1 38 := ⟨by decide +kernel, rfl⟩
theorem aX4_replay_38 : At kX4_replay 38 (.getfield 20) 3 41 := ⟨by decide +kernel, rfl⟩
theorem aX4_replay_41 : At kX4_replay 41 (.iload 5) 2 43 := ⟨by decide +kernel, rfl⟩
theorem aX4_replay_43 : At kX4_replay 43 (.invokevirtual 57) 3 46 := ⟨by decide +kernel, rfl⟩
theorem aX4_replay_46 : At kX4_replay 46 (.astore 6) 2 48 := ⟨by decide +kernel, rfl⟩
theorem aX4_replay_48 : At kX4_replay 48 (.aload 6) 2 50 := ⟨by decide +kernel, rfl⟩
theorem aX4_replay_50 : At kX4_replay 50 (.ifnull 19) 3 53 := ⟨by decide +kernel, rfl⟩
theorem aX4_replay_53 : At kX4_replay 53 (.aload 6) 2 55 := ⟨by decide +kernel, rfl⟩
theorem aX4_replay_55 : At kX4_replay 55 (.getfield 61) 3 58 := ⟨by decide +kernel, rfl⟩
theorem aX4_replay_58 : At kX4_replay 58 (.iload_n 1) 1 59 := ⟨by decide +kernel, rfl⟩
theorem aX4_replay_59 : At kX4_replay 59 (.if_icmp .ne 10) 3 62 := ⟨by decide +kernel, rfl⟩
theorem aX4_replay_62 : At kX4_replay 62 (.aload 6) 2 64 := ⟨by decide +kernel, rfl⟩
theorem aX4_replay_64 : At kX4_replay 64 (.aload 4) 2 66 := ⟨by decide +kernel, rfl⟩
theorem aX4_replay_66 : At kX4_replay 66 (.invokevirtual 108) 3 69 := ⟨by decide +kernel, rfl⟩
theorem aX4_replay_69 : At kX4_replay 69 (.iinc 5 1) 3 72 := ⟨by decide +kernel, rfl⟩
theorem aX4_replay_72 : At kX4_replay 72 (.goto (-41)) 3 75 := ⟨by decide +kernel, rfl⟩
theorem aX4_replay_75 : At kX4_replay 75 (.return_) 1 76 := ⟨by decide +kernel, rfl⟩
theorem aX4_bringBackAsOf_0 : At kX4_bringBackAsOf 0 (.aload_n 0) 1 1 := ⟨by decide +kernel, rfl⟩
theorem aX4_bringBackAsOf_1 : At kX4_bringBackAsOf 1 (.getfield 20) 3 4 := ⟨by decide +kernel, rfl⟩
theorem aX4_bringBackAsOf_4 : At kX4_bringBackAsOf 4 (.iload_n 1) 1 5 := ⟨by decide +kernel, rfl⟩
theorem aX4_bringBackAsOf_5 : At kX4_bringBackAsOf 5 (.iload_n 2) 1 6 := ⟨by decide +kernel, rfl⟩
theorem aX4_bringBackAsOf_6 : At kX4_bringBackAsOf 6 (.invokevirtual 112) 3 9 := ⟨by decide +kernel, rfl⟩
theorem aX4_bringBackAsOf_9 : At kX4_bringBackAsOf 9 (.istore 4) 2 11 := ⟨by decide +kernel, rfl⟩
theorem aX4_bringBackAsOf_11 : At kX4_bringBackAsOf 11 (.iload 4) 2 13 := ⟨by decide +kernel, rfl⟩
theorem aX4_bringBackAsOf_13 : At kX4_bringBackAsOf 13 (.bipush (-5)) 2 15 := ⟨by decide +kernel, rfl⟩
theorem aX4_bringBackAsOf_15 : At kX4_bringBackAsOf 15 (.if_icmp .ne 36) 3 18 := ⟨by decide +kernel, rfl⟩
theorem aX4_bringBackAsOf_18 : At kX4_bringBackAsOf 18 (.aload_n 0) 1 19 := ⟨by decide +kernel, rfl⟩
theorem aX4_bringBackAsOf_19 : At kX4_bringBackAsOf 19 (.getfield 11) 3 22 := ⟨by decide +kernel, rfl⟩
theorem aX4_bringBackAsOf_22 : At kX4_bringBackAsOf 22 (.iload_n 1) 1 23 := ⟨by decide +kernel, rfl⟩
theorem aX4_bringBackAsOf_23 : At kX4_bringBackAsOf 23 (.aaload) 1 24 := ⟨by decide +kernel, rfl⟩
theorem aX4_bringBackAsOf_24 : At kX4_bringBackAsOf 24 (.getfield 48) 3 27 := ⟨by decide +kernel, rfl⟩
theorem aX4_bringBackAsOf_27 : At kX4_bringBackAsOf 27 (.istore 4) 2 29 := ⟨by decide +kernel, rfl⟩
theorem aX4_bringBackAsOf_29 : At kX4_bringBackAsOf 29 (.iload 4) 2 31 := ⟨by decide +kernel, rfl⟩
theorem aX4_bringBackAsOf_31 : At kX4_bringBackAsOf 31 (.iload_n 2) 1 32 := ⟨by decide +kernel, rfl⟩
theorem aX4_bringBackAsOf_32 : At kX4_bringBackAsOf 32 (.if_icmp .gt 17) 3 35 := ⟨by decide +kernel, rfl⟩
theorem aX4_bringBackAsOf_35 : At kX4_bringBackAsOf 35 (.aload_n 0) 1 36 := ⟨by decide +kernel, rfl⟩
theorem aX4_bringBackAsOf_36 : At kX4_bringBackAsOf 36 (.getfield 11) 3 39 := ⟨by decide +kernel, rfl⟩
theorem aX4_bringBackAsOf_39 : At kX4_bringBackAsOf 39 (.iload_n 1) 1 40 := ⟨by decide +kernel, rfl⟩
theorem aX4_bringBackAsOf_40 : At kX4_bringBackAsOf 40 (.aaload) 1 41 := ⟨by decide +kernel, rfl⟩
theorem aX4_bringBackAsOf_41 : At kX4_bringBackAsOf 41 (.getfield 115) 3 44 := ⟨by decide +kernel, rfl⟩
theorem aX4_bringBackAsOf_44 : At kX4_bringBackAsOf 44 (.iload 4) 2 46 := ⟨by decide +kernel, rfl⟩
theorem aX4_bringBackAsOf_46 : At kX4_bringBackAsOf 46 (.if_icmp .le 5) 3 49 := ⟨by decide +kernel, rfl⟩
theorem aX4_bringBackAsOf_49 : At kX4_bringBackAsOf 49 (.iconst 0) 1 50 := ⟨by decide +kernel, rfl⟩
theorem aX4_bringBackAsOf_50 : At kX4_bringBackAsOf 50 (.ireturn) 1 51 := ⟨by decide +kernel, rfl⟩
theorem aX4_bringBackAsOf_51 : At kX4_bringBackAsOf 51 (.aload_n 0) 1 52 := ⟨by decide +kernel, rfl⟩
theorem aX4_bringBackAsOf_52 : At kX4_bringBackAsOf 52 (.getfield 20) 3 55 := ⟨by decide +kernel, rfl⟩
theorem aX4_bringBackAsOf_55 : At kX4_bringBackAsOf 55 (.iload_n 1) 1 56 := ⟨by decide +kernel, rfl⟩
theorem aX4_bringBackAsOf_56 : At kX4_bringBackAsOf 56 (.iload 4) 2 58 := ⟨by decide +kernel, rfl⟩
theorem aX4_bringBackAsOf_58 : At kX4_bringBackAsOf 58 (.iload_n 2) 1 59 := ⟨by decide +kernel, rfl⟩
theorem aX4_bringBackAsOf_59 : At kX4_bringBackAsOf 59 (.invokevirtual 95) 3 62 := ⟨by decide +kernel, rfl⟩
theorem aX4_bringBackAsOf_62 : At kX4_bringBackAsOf 62 (.iload_n 2) 1 63 := ⟨by decide +kernel, rfl⟩
theorem aX4_bringBackAsOf_63 : At kX4_bringBackAsOf 63 (.if_icmp .ge 5) 3 66 := ⟨by decide +kernel, rfl⟩
theorem aX4_bringBackAsOf_66 : At kX4_bringBackAsOf 66 (.iconst 0) 1 67 := ⟨by decide +kernel, rfl⟩
theorem aX4_bringBackAsOf_67 : At kX4_bringBackAsOf 67 (.ireturn) 1 68 := ⟨by decide +kernel, rfl⟩
theorem aX4_bringBackAsOf_68 : At kX4_bringBackAsOf 68 (.aload_n 0) 1 69 := ⟨by decide +kernel, rfl⟩
theorem aX4_bringBackAsOf_69 : At kX4_bringBackAsOf 69 (.iload_n 1) 1 70 := ⟨by decide +kernel, rfl⟩
theorem aX4_bringBackAsOf_70 : At kX4_bringBackAsOf 70 (.iload 4) 2 72 := ⟨by decide +kernel, rfl⟩
theorem aX4_bringBackAsOf_72 : At kX4_bringBackAsOf 72 (.iload_n 2) 1 73 := ⟨by decide +kernel, rfl⟩
theorem aX4_bringBackAsOf_73 : At kX4_bringBackAsOf 73 (.aload_n 3) 1 74 := ⟨by decide +kernel, rfl⟩
theorem aX4_bringBackAsOf_74 : At kX4_bringBackAsOf 74 (.invokevirtual 118) 3 77 := ⟨by decide +kernel, rfl⟩
theorem aX4_bringBackAsOf_77 : At kX4_bringBackAsOf 77 (.iconst 1) 1 78 := ⟨by decide +kernel, rfl⟩
theorem aX4_bringBackAsOf_78 : At kX4_bringBackAsOf 78 (.ireturn) 1 79 := ⟨by decide +kernel, rfl⟩
theorem aX4_rowBehind_0 : At kX4_rowBehind 0 (.aload_n 0) 1 1 := ⟨by decide +kernel, rfl⟩
theorem aX4_rowBehind_1 : At kX4_rowBehind 1 (.getfield 11) 3 4 := ⟨by decide +kernel, rfl⟩
theorem aX4_rowBehind_4 : At kX4_rowBehind 4 (.aload_n 1) 1 5 := ⟨by decide +kernel, rfl⟩
theorem aX4_rowBehind_5 : At kX4_rowBehind 5 (.getfield 61) 3 8 := ⟨by decide +kernel, rfl⟩
theorem aX4_rowBehind_8 : At kX4_rowBehind 8 (.aaload) 1 9 := ⟨by decide +kernel, rfl⟩
theorem aX4_rowBehind_9 : At kX4_rowBehind 9 (.getfield 122) 3 12 := ⟨by decide +kernel, rfl⟩
theorem aX4_rowBehind_12 : At kX4_rowBehind 12 (.invokevirtual 125) 3 15 := ⟨by decide +kernel, rfl⟩
theorem aX4_rowBehind_15 : At kX4_rowBehind 15 (.checkcast 126) 3 18 := ⟨by decide +kernel, rfl⟩
theorem aX4_rowBehind_18 : At kX4_rowBehind 18 (.astore_n 2) 1 19 := ⟨by decide +kernel, rfl⟩
theorem aX4_rowBehind_19 : At kX4_rowBehind 19 (.aload_n 1) 1 20 := ⟨by decide +kernel, rfl⟩
theorem aX4_rowBehind_20 : At kX4_rowBehind 20 (.aload_n 2) 1 21 := ⟨by decide +kernel, rfl⟩
theorem aX4_rowBehind_21 : At kX4_rowBehind 21 (.invokevirtual 108) 3 24 := ⟨by decide +kernel, rfl⟩
theorem aX4_rowBehind_24 : At kX4_rowBehind 24 (.aload_n 2) 1 25 := ⟨by decide +kernel, rfl⟩
theorem aX4_rowBehind_25 : At kX4_rowBehind 25 (.areturn) 1 26 := ⟨by decide +kernel, rfl⟩
theorem aX4_isLoggedAsPicture_0 : At kX4_isLoggedAsPicture 0 (.aload_n 1) 1 1 := ⟨by decide +kernel, rfl⟩
theorem aX4_isLoggedAsPicture_1 : At kX4_isLoggedAsPicture 1 (.getfield 66) 3 4 := ⟨by decide +kernel, rfl⟩
theorem aX4_isLoggedAsPicture_4 : At kX4_isLoggedAsPicture 4 (.ifCond .eq 11) 3 7 := ⟨by decide +kernel, rfl⟩
theorem aX4_isLoggedAsPicture_7 : At kX4_isLoggedAsPicture 7 (.aload_n 0) 1 8 := ⟨by decide +kernel, rfl⟩
theorem aX4_isLoggedAsPicture_8 : At kX4_isLoggedAsPicture 8 (.getfield 24) 3 11 := ⟨by decide +kernel, rfl⟩
theorem aX4_isLoggedAsPicture_11 : At kX4_isLoggedAsPicture 11 (.iconst 1) 1 12 := ⟨by decide +kernel, rfl⟩
theorem aX4_isLoggedAsPicture_12 : At kX4_isLoggedAsPicture 12 (.if_icmp .ne 5) 3 15 := ⟨by decide +kernel, rfl⟩
theorem aX4_isLoggedAsPicture_15 : At kX4_isLoggedAsPicture 15 (.iconst 1) 1 16 := ⟨by decide +kernel, rfl⟩
theorem aX4_isLoggedAsPicture_16 : At kX4_isLoggedAsPicture 16 (.ireturn) 1 17 := ⟨by decide +kernel, rfl⟩
theorem aX4_isLoggedAsPicture_17 : At kX4_isLoggedAsPicture 17 (.aload_n 0) 1 18 := ⟨by decide +kernel, rfl⟩
theorem aX4_isLoggedAsPicture_18 : At kX4_isLoggedAsPicture 18 (.getfield 24) 3 21 := ⟨by decide +kernel, rfl⟩
theorem aX4_isLoggedAsPicture_21 : At kX4_isLoggedAsPicture 21 (.iconst 2) 1 22 := ⟨by decide +kernel, rfl⟩
theorem aX4_isLoggedAsPicture_22 : At kX4_isLoggedAsPicture 22 (.if_icmp .ne 27) 3 25 := ⟨by decide +kernel, rfl⟩
theorem aX4_isLoggedAsPicture_25 : At kX4_isLoggedAsPicture 25 (.aload_n 0) 1 26 := ⟨by decide +kernel, rfl⟩
theorem aX4_isLoggedAsPicture_26 : At kX4_isLoggedAsPicture 26 (.aload_n 1) 1 27 := ⟨by decide +kernel, rfl⟩
theorem aX4_isLoggedAsPicture_27 : At kX4_isLoggedAsPicture 27 (.getfield 61) 3 30 := ⟨by decide +kernel, rfl⟩
theorem aX4_isLoggedAsPicture_30 : At kX4_isLoggedAsPicture 30 (.invokevirtual 87) 3 33 := ⟨by decide +kernel, rfl⟩
theorem aX4_isLoggedAsPicture_33 : At kX4_isLoggedAsPicture 33 (.aload_n 1) 1 34 := ⟨by decide +kernel, rfl⟩
theorem aX4_isLoggedAsPicture_34 : At kX4_isLoggedAsPicture 34 (.invokevirtual 130) 3 37 := ⟨by decide +kernel, rfl⟩
theorem aX4_isLoggedAsPicture_37 : At kX4_isLoggedAsPicture 37 (.iadd) 1 38 := ⟨by decide +kernel, rfl⟩
theorem aX4_isLoggedAsPicture_38 : At kX4_isLoggedAsPicture 38 (.aload_n 2) 1 39 := ⟨by decide +kernel, rfl⟩
theorem aX4_isLoggedAsPicture_39 : At kX4_isLoggedAsPicture 39 (.invokestatic 133) 3 42 := ⟨by decide +kernel, rfl⟩
theorem aX4_isLoggedAsPicture_42 : At kX4_isLoggedAsPicture 42 (.if_icmp .le 7) 3 45 := ⟨by decide +kernel, rfl⟩
theorem aX4_isLoggedAsPicture_45 : At kX4_isLoggedAsPicture 45 (.iconst 1) 1 46 := ⟨by decide +kernel, rfl⟩
theorem aX4_isLoggedAsPicture_46 : At kX4_isLoggedAsPicture 46 (.goto 4) 3 49 := ⟨by decide +kernel, rfl⟩
theorem aX4_isLoggedAsPicture_49 : At kX4_isLoggedAsPicture 49 (.iconst 0) 1 50 := ⟨by decide +kernel, rfl⟩
theorem aX4_isLoggedAsPicture_50 : At kX4_isLoggedAsPicture 50 (.ireturn) 1 51 := ⟨by decide +kernel, rfl⟩
theorem aX4_carryOut_0 : At kX4_carryOut 0 (.aload_n 0) 1 1 := ⟨by decide +kernel, rfl⟩
theorem aX4_carryOut_1 : At kX4_carryOut 1 (.aload_n 1) 1 2 := ⟨by decide +kernel, rfl⟩
theorem aX4_carryOut_2 : At kX4_carryOut 2 (.invokevirtual 137) 3 5 := ⟨by decide +kernel, rfl⟩
theorem aX4_carryOut_5 : At kX4_carryOut 5 (.astore_n 2) 1 6 := ⟨by decide +kernel, rfl⟩
theorem aX4_carryOut_6 : At kX4_carryOut 6 (.aload_n 0) 1 7 := ⟨by decide +kernel, rfl⟩
theorem aX4_carryOut_7 : At kX4_carryOut 7 (.aload_n 0) 1 8 := ⟨by decide +kernel, rfl⟩
theorem aX4_carryOut_8 : At kX4_carryOut 8 (.aload_n 1) 1 9 := ⟨by decide +kernel, rfl⟩
theorem aX4_carryOut_9 : At kX4_carryOut 9 (.aload_n 2) 1 10 := ⟨by decide +kernel, rfl⟩
theorem aX4_carryOut_10 : At kX4_carryOut 10 (.invokevirtual 141) 3 13 := ⟨by decide +kernel, rfl⟩
theorem aX4_carryOut_13 : At kX4_carryOut 13 (.ifCond .eq 14) 3 16 := ⟨by decide +kernel, rfl⟩
theorem aX4_carryOut_16 : At kX4_carryOut 16 (.aload_n 1) 1 17 := ⟨by decide +kernel, rfl⟩
theorem aX4_carryOut_17 : At kX4_carryOut 17 (.getfield 61) 3 20 := ⟨by decide +kernel, rfl⟩
theorem aX4_carryOut_20 : At kX4_carryOut 20 (.aload_n 2) 1 21 := ⟨by decide +kernel, rfl⟩
theorem aX4_carryOut_21 : At kX4_carryOut 21 (.invokestatic 145) 3 24 := ⟨by decide +kernel, rfl⟩
theorem aX4_carryOut_24 : At kX4_carryOut 24 (.goto 4) 3 27 := ⟨by decide +kernel, rfl⟩
theorem aX4_carryOut_27 : At kX4_carryOut 27 (.aload_n 1) 1 28 := ⟨by decide +kernel, rfl⟩
theorem aX4_carryOut_28 : At kX4_carryOut 28 (.invokevirtual 149) 3 31 := ⟨by decide +kernel, rfl⟩
theorem aX4_carryOut_31 : At kX4_carryOut 31 (.istore_n 3) 1 32 := ⟨by decide +kernel, rfl⟩
theorem aX4_carryOut_32 : At kX4_carryOut 32 (.iload_n 3) 1 33 := ⟨by decide +kernel, rfl⟩
theorem aX4_carryOut_33 : At kX4_carryOut 33 (.bipush (-3)) 2 35 := ⟨by decide +kernel, rfl⟩
theorem aX4_carryOut_35 : At kX4_carryOut 35 (.if_icmp .eq 23) 3 38 := ⟨by decide +kernel, rfl⟩
theorem aX4_carryOut_38 : At kX4_carryOut 38 (.aload_n 2) 1 39 := ⟨by decide +kernel, rfl⟩
theorem aX4_carryOut_39 : At kX4_carryOut 39 (.iconst 0) 1 40 := ⟨by decide +kernel, rfl⟩
theorem aX4_carryOut_40 : At kX4_carryOut 40 (.aload_n 0) 1 41 := ⟨by decide +kernel, rfl⟩
theorem aX4_carryOut_41 : At kX4_carryOut 41 (.getfield 11) 3 44 := ⟨by decide +kernel, rfl⟩
theorem aX4_carryOut_44 : At kX4_carryOut 44 (.aload_n 1) 1 45 := ⟨by decide +kernel, rfl⟩
theorem aX4_carryOut_45 : At kX4_carryOut 45 (.getfield 61) 3 48 := ⟨by decide +kernel, rfl⟩
theorem aX4_carryOut_48 : At kX4_carryOut 48 (.aaload) 1 49 := ⟨by decide +kernel, rfl⟩
theorem aX4_carryOut_49 : At kX4_carryOut 49 (.getfield 122) 3 52 := ⟨by decide +kernel, rfl⟩
theorem aX4_carryOut_52 : At kX4_carryOut 52 (.iconst 0) 1 53 := ⟨by decide +kernel, rfl⟩
theorem aX4_carryOut_53 : At kX4_carryOut 53 (.bipush 12) 2 55 := ⟨by decide +kernel, rfl⟩
theorem aX4_carryOut_55 : At kX4_carryOut 55 (.invokestatic 102) 3 58 := ⟨by decide +kernel, rfl⟩
theorem aX4_carryOut_58 : At kX4_carryOut 58 (.iload_n 3) 1 59 := ⟨by decide +kernel, rfl⟩
theorem aX4_carryOut_59 : At kX4_carryOut 59 (.ireturn) 1 60 := ⟨by decide +kernel, rfl⟩
theorem aX4_append_0 : At kX4_append 0 (.aload_n 0) 1 1 := ⟨by decide +kernel, rfl⟩
theorem aX4_append_1 : At kX4_append 1 (.aload_n 0) 1 2 := ⟨by decide +kernel, rfl⟩
theorem aX4_append_2 : At kX4_append 2 (.getfield 20) 3 5 := ⟨by decide +kernel, rfl⟩
theorem aX4_append_5 : At kX4_append 5 (.getfield 153) 3 8 := ⟨by decide +kernel, rfl⟩
theorem aX4_append_8 : At kX4_append 8 (.aload_n 1) 1 9 := ⟨by decide +kernel, rfl⟩
theorem aX4_append_9 : At kX4_append 9 (.getfield 156) 3 12 := ⟨by decide +kernel, rfl⟩
theorem aX4_append_12 : At kX4_append 12 (.isub) 1 13 := ⟨by decide +kernel, rfl⟩
theorem aX4_append_13 : At kX4_append 13 (.invokevirtual 159) 3 16 := ⟨by decide +kernel, rfl⟩
theorem aX4_append_16 : At kX4_append 16 (.pop) 1 17 := ⟨by decide +kernel, rfl⟩
theorem aX4_append_17 : At kX4_append 17 (.aload_n 0) 1 18 := ⟨by decide +kernel, rfl⟩
theorem aX4_append_18 : At kX4_append 18 (.getfield 20) 3 21 := ⟨by decide +kernel, rfl⟩
theorem aX4_append_21 : At kX4_append 21 (.invokevirtual 162) 3 24 := ⟨by decide +kernel, rfl⟩
theorem aX4_append_24 : At kX4_append 24 (.aload_n 1) 1 25 := ⟨by decide +kernel, rfl⟩
theorem aX4_append_25 : At kX4_append 25 (.getfield 156) 3 28 := ⟨by decide +kernel, rfl⟩
theorem aX4_append_28 : At kX4_append 28 (.iadd) 1 29 := ⟨by decide +kernel, rfl⟩
theorem aX4_append_29 : At kX4_append 29 (.aload_n 0) 1 30 := ⟨by decide +kernel, rfl⟩
theorem aX4_append_30 : At kX4_append 30 (.getfield 20) 3 33 := ⟨by decide +kernel, rfl⟩
theorem aX4_append_33 : At kX4_append 33 (.getfield 153) 3 36 := ⟨by decide +kernel, rfl⟩
theorem aX4_append_36 : At kX4_append 36 (.if_icmp .le 6) 3 39 := ⟨by decide +kernel, rfl⟩
theorem aX4_append_39 : At kX4_append 39 (.bipush (-3)) 2 41 := ⟨by decide +kernel, rfl⟩
theorem aX4_append_41 : At kX4_append 41 (.ireturn) 1 42 := ⟨by decide +kernel, rfl⟩
theorem aX4_append_42 : At kX4_append 42 (.aload_n 0) 1 43 := ⟨by decide +kernel, rfl⟩
theorem aX4_append_43 : At kX4_append 43 (.getfield 20) 3 46 := ⟨by decide +kernel, rfl⟩
theorem aX4_append_46 : At kX4_append 46 (.aload_n 1) 1 47 := ⟨by decide +kernel, rfl⟩
theorem aX4_append_47 : At kX4_append 47 (.invokevirtual 165) 3 50 := ⟨by decide +kernel, rfl⟩
theorem aX4_append_50 : At kX4_append 50 (.aload_n 1) 1 51 := ⟨by decide +kernel, rfl⟩
theorem aX4_append_51 : At kX4_append 51 (.getfield 66) 3 54 := ⟨by decide +kernel, rfl⟩
theorem aX4_append_54 : At kX4_append 54 (.ifCond .ne 29) 3 57 := ⟨by decide +kernel, rfl⟩
theorem aX4_append_57 : At kX4_append 57 (.aload_n 0) 1 58 := ⟨by decide +kernel, rfl⟩
theorem aX4_append_58 : At kX4_append 58 (.dup) 1 59 := ⟨by decide +kernel, rfl⟩
theorem aX4_append_59 : At kX4_append 59 (.getfield 36) 3 62 := ⟨by decide +kernel, rfl⟩
theorem aX4_append_62 : At kX4_append 62 (.iconst 1) 1 63 := ⟨by decide +kernel, rfl⟩
theorem aX4_append_63 : At kX4_append 63 (.iadd) 1 64 := ⟨by decide +kernel, rfl⟩
theorem aX4_append_64 : At kX4_append 64 (.putfield 36) 3 67 := ⟨by decide +kernel, rfl⟩
theorem aX4_append_67 : At kX4_append 67 (.aload_n 0) 1 68 := ⟨by decide +kernel, rfl⟩
theorem aX4_append_68 : At kX4_append 68 (.getfield 11) 3 71 := ⟨by decide +kernel, rfl⟩
theorem aX4_append_71 : At kX4_append 71 (.aload_n 1) 1 72 := ⟨by decide +kernel, rfl⟩
theorem aX4_append_72 : At kX4_append 72 (.getfield 61) 3 75 := ⟨by decide +kernel, rfl⟩
theorem aX4_append_75 : At kX4_append 75 (.aaload) 1 76 := ⟨by decide +kernel, rfl⟩
theorem aX4_append_76 : At kX4_append 76 (.iconst 0) 1 77 := ⟨by decide +kernel, rfl⟩
theorem aX4_append_77 : At kX4_append 77 (.putfield 91) 3 80 := ⟨by decide +kernel, rfl⟩
theorem aX4_append_80 : At kX4_append 80 (.goto 13) 3 83 := ⟨by decide +kernel, rfl⟩
theorem aX4_append_83 : At kX4_append 83 (.aload_n 0) 1 84 := ⟨by decide +kernel, rfl⟩
theorem aX4_append_84 : At kX4_append 84 (.dup) 1 85 := ⟨by decide +kernel, rfl⟩
theorem aX4_append_85 : At kX4_append 85 (.getfield 39) 3 88 := ⟨by decide +kernel, rfl⟩
theorem aX4_append_88 : At kX4_append 88 (.iconst 1) 1 89 := ⟨by decide +kernel, rfl⟩
theorem aX4_append_89 : At kX4_append 89 (.iadd) 1 90 := ⟨by decide +kernel, rfl⟩
theorem aX4_append_90 : At kX4_append 90 (.putfield 39) 3 93 := ⟨by decide +kernel, rfl⟩
theorem aX4_append_93 : At kX4_append 93 (.aload_n 1) 1 94 := ⟨by decide +kernel, rfl⟩
theorem aX4_append_94 : At kX4_append 94 (.getfield 66) 3 97 := ⟨by decide +kernel, rfl⟩
theorem aX4_append_97 : At kX4_append 97 (.ireturn) 1 98 := ⟨by decide +kernel, rfl⟩
theorem aX4_dropDownTo_0 : At kX4_dropDownTo 0 (.iconst 0) 1 1 := ⟨by decide +kernel, rfl⟩
theorem aX4_dropDownTo_1 : At kX4_dropDownTo 1 (.istore_n 2) 1 2 := ⟨by decide +kernel, rfl⟩
theorem aX4_dropDownTo_2 : At kX4_dropDownTo 2 (.iload_n 2) 1 3 := ⟨by decide +kernel, rfl⟩
theorem aX4_dropDownTo_3 : At kX4_dropDownTo 3 (.bipush 100) 2 5 := ⟨by decide +kernel, rfl⟩
theorem aX4_dropDownTo_5 : At kX4_dropDownTo 5 (.if_icmp .ge 55) 3 8 := ⟨by decide +kernel, rfl⟩
theorem aX4_dropDownTo_8 : At kX4_dropDownTo 8 (.aload_n 0) 1 9 := ⟨by decide +kernel, rfl⟩
theorem aX4_dropDownTo_9 : At kX4_dropDownTo 9 (.getfield 20) 3 12 := ⟨by decide +kernel, rfl⟩
theorem aX4_dropDownTo_12 : At kX4_dropDownTo 12 (.invokevirtual 162) 3 15 := ⟨by decide +kernel, rfl⟩
theorem aX4_dropDownTo_15 : At kX4_dropDownTo 15 (.iload_n 1) 1 16 := ⟨by decide +kernel, rfl⟩
theorem aX4_dropDownTo_16 : At kX4_dropDownTo 16 (.if_icmp .le 44) 3 19 := ⟨by decide +kernel, rfl⟩
theorem aX4_dropDownTo_19 : At kX4_dropDownTo 19 (.aload_n 0) 1 20 := ⟨by decide +kernel, rfl⟩
theorem aX4_dropDownTo_20 : At kX4_dropDownTo 20 (.getfield 20) 3 23 := ⟨by decide +kernel, rfl⟩
theorem aX4_dropDownTo_23 : At kX4_dropDownTo 23 (.getfield 45) 3 26 := ⟨by decide +kernel, rfl⟩
theorem aX4_dropDownTo_26 : At kX4_dropDownTo 26 (.aload_n 0) 1 27 := ⟨by decide +kernel, rfl⟩
theorem aX4_dropDownTo_27 : At kX4_dropDownTo 27 (.getfield 20) 3 30 := ⟨by decide +kernel, rfl⟩
theorem aX4_dropDownTo_30 : At kX4_dropDownTo 30 (.getfield 76) 3 33 := ⟨by decide +kernel, rfl⟩
theorem aX4_dropDownTo_33 : At kX4_dropDownTo 33 (.if_icmp .ge 27) 3 36 := ⟨by decide +kernel, rfl⟩
theorem aX4_dropDownTo_36 : At kX4_dropDownTo 36 (.aload_n 0) 1 37 := ⟨by decide +kernel, rfl⟩
theorem aX4_dropDownTo_37 : At kX4_dropDownTo 37 (.aload_n 0) 1 38 := ⟨by decide +kernel, rfl⟩
theorem aX4_dropDownTo_38 : At kX4_dropDownTo 38 (.getfield 20) 3 41 := ⟨by decide +kernel, rfl⟩
theorem aX4_dropDownTo_41 : At kX4_dropDownTo 41 (.getfield 45) 3 44 := ⟨by decide +kernel, rfl⟩
theorem aX4_dropDownTo_44 : At kX4_dropDownTo 44 (.invokevirtual 79) 3 47 := ⟨by decide +kernel, rfl⟩
theorem aX4_dropDownTo_47 : At kX4_dropDownTo 47 (.ifCond .ne 13) 3 50 := ⟨by decide +kernel, rfl⟩
theorem aX4_dropDownTo_50 : At kX4_dropDownTo 50 (.aload_n 0) 1 51 := ⟨by decide +kernel, rfl⟩
theorem aX4_dropDownTo_51 : At kX4_dropDownTo 51 (.invokevirtual 168) 3 54 := ⟨by decide +kernel, rfl⟩
theorem aX4_dropDownTo_54 : At kX4_dropDownTo 54 (.iinc 2 1) 3 57 := ⟨by decide +kernel, rfl⟩
theorem aX4_dropDownTo_57 : At kX4_dropDownTo 57 (.goto (-55)) 3 60 := ⟨by decide +kernel, rfl⟩
theorem aX4_dropDownTo_60 : At kX4_dropDownTo 60 (.iload_n 2) 1 61 := ⟨by decide +kernel, rfl⟩
theorem aX4_dropDownTo_61 : At kX4_dropDownTo 61 (.ireturn) 1 62 := ⟨by decide +kernel, rfl⟩
theorem aX4_dropOldest_0 : At kX4_dropOldest 0 (.aload_n 0) 1 1 := ⟨by decide +kernel, rfl⟩
theorem aX4_dropOldest_1 : At kX4_dropOldest 1 (.getfield 20) 3 4 := ⟨by decide +kernel, rfl⟩
theorem aX4_dropOldest_4 : At kX4_dropOldest 4 (.aload_n 0) 1 5 := ⟨by decide +kernel, rfl⟩
theorem aX4_dropOldest_5 : At kX4_dropOldest 5 (.getfield 20) 3 8 := ⟨by decide +kernel, rfl⟩
theorem aX4_dropOldest_8 : At kX4_dropOldest 8 (.getfield 45) 3 11 := ⟨by decide +kernel, rfl⟩
theorem aX4_dropOldest_11 : At kX4_dropOldest 11 (.invokevirtual 57) 3 14 := ⟨by decide +kernel, rfl⟩
theorem aX4_dropOldest_14 : At kX4_dropOldest 14 (.astore_n 1) 1 15 := ⟨by decide +kernel, rfl⟩
theorem aX4_dropOldest_15 : At kX4_dropOldest 15 (.aload_n 1) 1 16 := ⟨by decide +kernel, rfl⟩
theorem aX4_dropOldest_16 : At kX4_dropOldest 16 (.ifnull 31) 3 19 := ⟨by decide +kernel, rfl⟩
theorem aX4_dropOldest_19 : At kX4_dropOldest 19 (.aload_n 0) 1 20 := ⟨by decide +kernel, rfl⟩
theorem aX4_dropOldest_20 : At kX4_dropOldest 20 (.getfield 11) 3 23 := ⟨by decide +kernel, rfl⟩
theorem aX4_dropOldest_23 : At kX4_dropOldest 23 (.aload_n 1) 1 24 := ⟨by decide +kernel, rfl⟩
theorem aX4_dropOldest_24 : At kX4_dropOldest 24 (.getfield 61) 3 27 := ⟨by decide +kernel, rfl⟩
theorem aX4_dropOldest_27 : At kX4_dropOldest 27 (.aaload) 1 28 := ⟨by decide +kernel, rfl⟩
theorem aX4_dropOldest_28 : At kX4_dropOldest 28 (.aload_n 0) 1 29 := ⟨by decide +kernel, rfl⟩
theorem aX4_dropOldest_29 : At kX4_dropOldest 29 (.getfield 20) 3 32 := ⟨by decide +kernel, rfl⟩
theorem aX4_dropOldest_32 : At kX4_dropOldest 32 (.getfield 45) 3 35 := ⟨by decide +kernel, rfl⟩
theorem aX4_dropOldest_35 : At kX4_dropOldest 35 (.iconst 1) 1 36 := ⟨by decide +kernel, rfl⟩
theorem aX4_dropOldest_36 : At kX4_dropOldest 36 (.iadd) 1 37 := ⟨by decide +kernel, rfl⟩
theorem aX4_dropOldest_37 : At kX4_dropOldest 37 (.putfield 115) 3 40 := ⟨by decide +kernel, rfl⟩
theorem aX4_dropOldest_40 : At kX4_dropOldest 40 (.aload_n 0) 1 41 := ⟨by decide +kernel, rfl⟩
theorem aX4_dropOldest_41 : At kX4_dropOldest 41 (.getfield 20) 3 44 := ⟨by decide +kernel, rfl⟩
theorem aX4_dropOldest_44 : At kX4_dropOldest 44 (.invokevirtual 171) 3 47 := ⟨by decide +kernel, rfl⟩
theorem aX4_dropOldest_47 : At kX4_dropOldest 47 (.return_) 1 48 := ⟨by decide +kernel, rfl⟩
theorem aX4_changeWay_0 : At kX4_changeWay 0 (.aload_n 0) 1 1 := ⟨by decide +kernel, rfl⟩
theorem aX4_changeWay_1 : At kX4_changeWay 1 (.getfield 24) 3 4 := ⟨by decide +kernel, rfl⟩
theorem aX4_changeWay_4 : At kX4_changeWay 4 (.istore_n 2) 1 5 := ⟨by decide +kernel, rfl⟩
theorem aX4_changeWay_5 : At kX4_changeWay 5 (.aload_n 0) 1 6 := ⟨by decide +kernel, rfl⟩
theorem aX4_changeWay_6 : At kX4_changeWay 6 (.iload_n 1) 1 7 := ⟨by decide +kernel, rfl⟩
theorem aX4_changeWay_7 : At kX4_changeWay 7 (.putfield 24) 3 10 := ⟨by decide +kernel, rfl⟩
theorem aX4_changeWay_10 : At kX4_changeWay 10 (.iload_n 2) 1 11 := ⟨by decide +kernel, rfl⟩
theorem aX4_changeWay_11 : At kX4_changeWay 11 (.iload_n 1) 1 12 := ⟨by decide +kernel, rfl⟩
theorem aX4_changeWay_12 : At kX4_changeWay 12 (.if_icmp .ne 8) 3 15 := ⟨by decide +kernel, rfl⟩
theorem aX4_changeWay_15 : At kX4_changeWay 15 (.bipush (-5)) 2 17 := ⟨by decide +kernel, rfl⟩
theorem aX4_changeWay_17 : At kX4_changeWay 17 (.goto 4) 3 20 := ⟨by decide +kernel, rfl⟩
theorem aX4_changeWay_20 : At kX4_changeWay 20 (.iload_n 2) 1 21 := ⟨by decide +kernel, rfl⟩
theorem aX4_changeWay_21 : At kX4_changeWay 21 (.ireturn) 1 22 := ⟨by decide +kernel, rfl⟩
theorem aX4_changeRoom_0 : At kX4_changeRoom 0 (.aload_n 0) 1 1 := ⟨by decide +kernel, rfl⟩
theorem aX4_changeRoom_1 : At kX4_changeRoom 1 (.getfield 20) 3 4 := ⟨by decide +kernel, rfl⟩
theorem aX4_changeRoom_4 : At kX4_changeRoom 4 (.getfield 153) 3 7 := ⟨by decide +kernel, rfl⟩
theorem aX4_changeRoom_7 : At kX4_changeRoom 7 (.istore_n 2) 1 8 := ⟨by decide +kernel, rfl⟩
theorem aX4_changeRoom_8 : At kX4_changeRoom 8 (.aload_n 0) 1 9 := ⟨by decide +kernel, rfl⟩
theorem aX4_changeRoom_9 : At kX4_changeRoom 9 (.iload_n 1) 1 10 := ⟨by decide +kernel, rfl⟩
theorem aX4_changeRoom_10 : At kX4_changeRoom 10 (.invokevirtual 159) 3 13 := ⟨by decide +kernel, rfl⟩
theorem aX4_changeRoom_13 : At kX4_changeRoom 13 (.pop) 1 14 := ⟨by decide +kernel, rfl⟩
theorem aX4_changeRoom_14 : At kX4_changeRoom 14 (.aload_n 0) 1 15 := ⟨by decide +kernel, rfl⟩
theorem aX4_changeRoom_15 : At kX4_changeRoom 15 (.getfield 20) 3 18 := ⟨by decide +kernel, rfl⟩
theorem aX4_changeRoom_18 : At kX4_changeRoom 18 (.invokevirtual 162) 3 21 := ⟨by decide +kernel, rfl⟩
theorem aX4_changeRoom_21 : At kX4_changeRoom 21 (.iload_n 1) 1 22 := ⟨by decide +kernel, rfl⟩
theorem aX4_changeRoom_22 : At kX4_changeRoom 22 (.if_icmp .le 6) 3 25 := ⟨by decide +kernel, rfl⟩
theorem aX4_changeRoom_25 : At kX4_changeRoom 25 (.bipush (-4)) 2 27 := ⟨by decide +kernel, rfl⟩
theorem aX4_changeRoom_27 : At kX4_changeRoom 27 (.ireturn) 1 28 := ⟨by decide +kernel, rfl⟩
theorem aX4_changeRoom_28 : At kX4_changeRoom 28 (.aload_n 0) 1 29 := ⟨by decide +kernel, rfl⟩
theorem aX4_changeRoom_29 : At kX4_changeRoom 29 (.getfield 20) 3 32 := ⟨by decide +kernel, rfl⟩
theorem aX4_changeRoom_32 : At kX4_changeRoom 32 (.iload_n 1) 1 33 := ⟨by decide +kernel, rfl⟩
theorem aX4_changeRoom_33 : At kX4_changeRoom 33 (.putfield 153) 3 36 := ⟨by decide +kernel, rfl⟩
theorem aX4_changeRoom_36 : At kX4_changeRoom 36 (.iload_n 2) 1 37 := ⟨by decide +kernel, rfl⟩
theorem aX4_changeRoom_37 : At kX4_changeRoom 37 (.iload_n 1) 1 38 := ⟨by decide +kernel, rfl⟩
theorem aX4_changeRoom_38 : At kX4_changeRoom 38 (.if_icmp .ne 8) 3 41 := ⟨by decide +kernel, rfl⟩
theorem aX4_changeRoom_41 : At kX4_changeRoom 41 (.bipush (-5)) 2 43 := ⟨by decide +kernel, rfl⟩
theorem aX4_changeRoom_43 : At kX4_changeRoom 43 (.goto 4) 3 46 := ⟨by decide +kernel, rfl⟩
theorem aX4_changeRoom_46 : At kX4_changeRoom 46 (.iload_n 2) 1 47 := ⟨by decide +kernel, rfl⟩
theorem aX4_changeRoom_47 : At kX4_changeRoom 47 (.ireturn) 1 48 := ⟨by decide +kernel, rfl⟩
theorem aX4_flushAll_0 : At kX4_flushAll 0 (.aload_n 0) 1 1 := ⟨by decide +kernel, rfl⟩
theorem aX4_flushAll_1 : At kX4_flushAll 1 (.getfield 20) 3 4 := ⟨by decide +kernel, rfl⟩
theorem aX4_flushAll_4 : At kX4_flushAll 4 (.invokevirtual 69) 3 7 := ⟨by decide +kernel, rfl⟩
theorem aX4_flushAll_7 : At kX4_flushAll 7 (.aload_n 0) 1 8 := ⟨by decide +kernel, rfl⟩
theorem aX4_flushAll_8 : At kX4_flushAll 8 (.getfield 20) 3 11 := ⟨by decide +kernel, rfl⟩
theorem aX4_flushAll_11 : At kX4_flushAll 11 (.getfield 76) 3 14 := ⟨by decide +kernel, rfl⟩
theorem aX4_flushAll_14 : At kX4_flushAll 14 (.isub) 1 15 := ⟨by decide +kernel, rfl⟩
theorem aX4_flushAll_15 : At kX4_flushAll 15 (.istore_n 1) 1 16 := ⟨by decide +kernel, rfl⟩
theorem aX4_flushAll_16 : At kX4_flushAll 16 (.aload_n 0) 1 17 := ⟨by decide +kernel, rfl⟩
theorem aX4_flushAll_17 : At kX4_flushAll 17 (.getfield 20) 3 20 := ⟨by decide +kernel, rfl⟩
theorem aX4_flushAll_20 : At kX4_flushAll 20 (.aload_n 0) 1 21 := ⟨by decide +kernel, rfl⟩
theorem aX4_flushAll_21 : At kX4_flushAll 21 (.getfield 20) 3 24 := ⟨by decide +kernel, rfl⟩
theorem aX4_flushAll_24 : At kX4_flushAll 24 (.invokevirtual 69) 3 27 := ⟨by decide +kernel, rfl⟩
theorem aX4_flushAll_27 : At kX4_flushAll 27 (.putfield 76) 3 30 := ⟨by decide +kernel, rfl⟩
theorem aX4_flushAll_30 : At kX4_flushAll 30 (.iload_n 1) 1 31 := ⟨by decide +kernel, rfl⟩
theorem aX4_flushAll_31 : At kX4_flushAll 31 (.ifCond .ne 8) 3 34 := ⟨by decide +kernel, rfl⟩
theorem aX4_flushAll_34 : At kX4_flushAll 34 (.bipush (-5)) 2 36 := ⟨by decide +kernel, rfl⟩
theorem aX4_flushAll_36 : At kX4_flushAll 36 (.goto 4) 3 39 := ⟨by decide +kernel, rfl⟩
theorem aX4_flushAll_39 : At kX4_flushAll 39 (.iload_n 1) 1 40 := ⟨by decide +kernel, rfl⟩
theorem aX4_flushAll_40 : At kX4_flushAll 40 (.ireturn) 1 41 := ⟨by decide +kernel, rfl⟩
theorem aX4_storePage_0 : At kX4_storePage 0 (.aload_n 0) 1 1 := ⟨by decide +kernel, rfl⟩
theorem aX4_storePage_1 : At kX4_storePage 1 (.getfield 20) 3 4 := ⟨by decide +kernel, rfl⟩
theorem aX4_storePage_4 : At kX4_storePage 4 (.iload_n 1) 1 5 := ⟨by decide +kernel, rfl⟩
theorem aX4_storePage_5 : At kX4_storePage 5 (.aload_n 0) 1 6 := ⟨by decide +kernel, rfl⟩
theorem aX4_storePage_6 : At kX4_storePage 6 (.getfield 20) 3 9 := ⟨by decide +kernel, rfl⟩
theorem aX4_storePage_9 : At kX4_storePage 9 (.getfield 76) 3 12 := ⟨by decide +kernel, rfl⟩
theorem aX4_storePage_12 : At kX4_storePage 12 (.aload_n 0) 1 13 := ⟨by decide +kernel, rfl⟩
theorem aX4_storePage_13 : At kX4_storePage 13 (.getfield 20) 3 16 := ⟨by decide +kernel, rfl⟩
theorem aX4_storePage_16 : At kX4_storePage 16 (.invokevirtual 69) 3 19 := ⟨by decide +kernel, rfl⟩
theorem aX4_storePage_19 : At kX4_storePage 19 (.invokevirtual 174) 3 22 := ⟨by decide +kernel, rfl⟩
theorem aX4_storePage_22 : At kX4_storePage 22 (.ifCond .le 6) 3 25 := ⟨by decide +kernel, rfl⟩
theorem aX4_storePage_25 : At kX4_storePage 25 (.bipush (-4)) 2 27 := ⟨by decide +kernel, rfl⟩
theorem aX4_storePage_27 : At kX4_storePage 27 (.ireturn) 1 28 := ⟨by decide +kernel, rfl⟩
theorem aX4_storePage_28 : At kX4_storePage 28 (.aload_n 0) 1 29 := ⟨by decide +kernel, rfl⟩
theorem aX4_storePage_29 : At kX4_storePage 29 (.invokevirtual 177) 3 32 := ⟨by decide +kernel, rfl⟩
theorem aX4_storePage_32 : At kX4_storePage 32 (.istore_n 2) 1 33 := ⟨by decide +kernel, rfl⟩
theorem aX4_storePage_33 : At kX4_storePage 33 (.aload_n 0) 1 34 := ⟨by decide +kernel, rfl⟩
theorem aX4_storePage_34 : At kX4_storePage 34 (.getfield 11) 3 37 := ⟨by decide +kernel, rfl⟩
theorem aX4_storePage_37 : At kX4_storePage 37 (.iload_n 1) 1 38 := ⟨by decide +kernel, rfl⟩
theorem aX4_storePage_38 : At kX4_storePage 38 (.aaload) 1 39 := ⟨by decide +kernel, rfl⟩
theorem aX4_storePage_39 : At kX4_storePage 39 (.astore_n 3) 1 40 := ⟨by decide +kernel, rfl⟩
theorem aX4_storePage_40 : At kX4_storePage 40 (.aload_n 3) 1 41 := ⟨by decide +kernel, rfl⟩
theorem aX4_storePage_41 : At kX4_storePage 41 (.getfield 122) 3 44 := ⟨by decide +kernel, rfl⟩
theorem aX4_storePage_44 : At kX4_storePage 44 (.iconst 0) 1 45 := ⟨by decide +kernel, rfl⟩
theorem aX4_storePage_45 : At kX4_storePage 45 (.aload_n 3) 1 46 := ⟨by decide +kernel, rfl⟩
theorem aX4_storePage_46 : At kX4_storePage 46 (.getfield 98) 3 49 := ⟨by decide +kernel, rfl⟩
theorem aX4_storePage_49 : At kX4_storePage 49 (.iconst 0) 1 50 := ⟨by decide +kernel, rfl⟩
theorem aX4_storePage_50 : At kX4_storePage 50 (.bipush 12) 2 52 := ⟨by decide +kernel, rfl⟩
theorem aX4_storePage_52 : At kX4_storePage 52 (.invokestatic 102) 3 55 := ⟨by decide +kernel, rfl⟩
theorem aX4_storePage_55 : At kX4_storePage 55 (.aload_n 3) 1 56 := ⟨by decide +kernel, rfl⟩
theorem aX4_storePage_56 : At kX4_storePage 56 (.aload_n 0) 1 57 := ⟨by decide +kernel, rfl⟩
theorem aX4_storePage_57 : At kX4_storePage 57 (.getfield 20) 3 60 := ⟨by decide +kernel, rfl⟩
theorem aX4_storePage_60 : At kX4_storePage 60 (.getfield 76) 3 63 := ⟨by decide +kernel, rfl⟩
theorem aX4_storePage_63 : At kX4_storePage 63 (.putfield 48) 3 66 := ⟨by decide +kernel, rfl⟩
theorem aX4_storePage_66 : At kX4_storePage 66 (.aload_n 3) 1 67 := ⟨by decide +kernel, rfl⟩
theorem aX4_storePage_67 : At kX4_storePage 67 (.iconst 0) 1 68 := ⟨by decide +kernel, rfl⟩
theorem aX4_storePage_68 : At kX4_storePage 68 (.putfield 91) 3 71 := ⟨by decide +kernel, rfl⟩
theorem aX4_storePage_71 : At kX4_storePage 71 (.iload_n 2) 1 72 := ⟨by decide +kernel, rfl⟩
theorem aX4_storePage_72 : At kX4_storePage 72 (.aload_n 0) 1 73 := ⟨by decide +kernel, rfl⟩
theorem aX4_storePage_73 : At kX4_storePage 73 (.invokevirtual 177) 3 76 := ⟨by decide +kernel, rfl⟩
theorem aX4_storePage_76 : At kX4_storePage 76 (.isub) 1 77 := ⟨by decide +kernel, rfl⟩
theorem aX4_storePage_77 : At kX4_storePage 77 (.ireturn) 1 78 := ⟨by decide +kernel, rfl⟩
theorem aX4_harm_0 : At kX4_harm 0 (.aload_n 0) 1 1 := ⟨by decide +kernel, rfl⟩
theorem aX4_harm_1 : At kX4_harm 1 (.getfield 20) 3 4 := ⟨by decide +kernel, rfl⟩
theorem aX4_harm_4 : At kX4_harm 4 (.iload_n 1) 1 5 := ⟨by decide +kernel, rfl⟩
theorem aX4_harm_5 : At kX4_harm 5 (.invokevirtual 57) 3 8 := ⟨by decide +kernel, rfl⟩
theorem aX4_harm_8 : At kX4_harm 8 (.astore_n 2) 1 9 := ⟨by decide +kernel, rfl⟩
theorem aX4_harm_9 : At kX4_harm 9 (.aload_n 2) 1 10 := ⟨by decide +kernel, rfl⟩
theorem aX4_harm_10 : At kX4_harm 10 (.ifnonnull 5) 3 13 := ⟨by decide +kernel, rfl⟩
theorem aX4_harm_13 : At kX4_harm 13 (.iconst (-1)) 1 14 := ⟨by decide +kernel, rfl⟩
theorem aX4_harm_14 : At kX4_harm 14 (.ireturn) 1 15 := ⟨by decide +kernel, rfl⟩
theorem aX4_harm_15 : At kX4_harm 15 (.aload_n 2) 1 16 := ⟨by decide +kernel, rfl⟩
theorem aX4_harm_16 : At kX4_harm 16 (.getfield 180) 3 19 := ⟨by decide +kernel, rfl⟩
theorem aX4_harm_19 : At kX4_harm 19 (.ifCond .eq 6) 3 22 := ⟨by decide +kernel, rfl⟩
theorem aX4_harm_22 : At kX4_harm 22 (.bipush (-5)) 2 24 := ⟨by decide +kernel, rfl⟩
theorem aX4_harm_24 : At kX4_harm 24 (.ireturn) 1 25 := ⟨by decide +kernel, rfl⟩
theorem aX4_harm_25 : At kX4_harm 25 (.aload_n 0) 1 26 := ⟨by decide +kernel, rfl⟩
theorem aX4_harm_26 : At kX4_harm 26 (.getfield 20) 3 29 := ⟨by decide +kernel, rfl⟩
theorem aX4_harm_29 : At kX4_harm 29 (.iload_n 1) 1 30 := ⟨by decide +kernel, rfl⟩
theorem aX4_harm_30 : At kX4_harm 30 (.aload_n 2) 1 31 := ⟨by decide +kernel, rfl⟩
theorem aX4_harm_31 : At kX4_harm 31 (.invokevirtual 183) 3 34 := ⟨by decide +kernel, rfl⟩
theorem aX4_harm_34 : At kX4_harm 34 (.invokevirtual 187) 3 37 := ⟨by decide +kernel, rfl⟩
theorem aX4_harm_37 : At kX4_harm 37 (.iconst 0) 1 38 := ⟨by decide +kernel, rfl⟩
theorem aX4_harm_38 : At kX4_harm 38 (.istore_n 3) 1 39 := ⟨by decide +kernel, rfl⟩
theorem aX4_harm_39 : At kX4_harm 39 (.iconst 0) 1 40 := ⟨by decide +kernel, rfl⟩
theorem aX4_harm_40 : At kX4_harm 40 (.istore 4) 2 42 := ⟨by decide +kernel, rfl⟩
theorem aX4_harm_42 : At kX4_harm 42 (.iload 4) 2 44 := ⟨by decide +kernel, rfl⟩
theorem aX4_harm_44 : At kX4_harm 44 (.bipush 6) 2 46 := ⟨by decide +kernel, rfl⟩
theorem aX4_harm_46 : At kX4_harm 46 (.if_icmp .ge 21) 3 49 := ⟨by decide +kernel, rfl⟩
theorem aX4_harm_49 : At kX4_harm 49 (.aload_n 0) 1 50 := ⟨by decide +kernel, rfl⟩
theorem aX4_harm_50 : At kX4_harm 50 (.iload 4) 2 52 := ⟨by decide +kernel, rfl⟩
theorem aX4_harm_52 : At kX4_harm 52 (.invokevirtual 191) 3 55 := ⟨by decide +kernel, rfl⟩
theorem aX4_harm_55 : At kX4_harm 55 (.ifCond .eq 6) 3 58 := ⟨by decide +kernel, rfl⟩
theorem aX4_harm_58 : At kX4_harm 58 (.iinc 3 1) 3 61 := ⟨by decide +kernel, rfl⟩
theorem aX4_harm_61 : At kX4_harm 61 (.iinc 4 1) 3 64 := ⟨by decide +kernel, rfl⟩
theorem aX4_harm_64 : At kX4_harm 64 (.goto (-22)) 3 67 := ⟨by decide +kernel, rfl⟩
theorem aX4_harm_67 : At kX4_harm 67 (.iload_n 3) 1 68 := ⟨by decide +kernel, rfl⟩
theorem aX4_harm_68 : At kX4_harm 68 (.ireturn) 1 69 := ⟨by decide +kernel, rfl⟩
theorem aX4_breakDown_0 : At kX4_breakDown 0 (.aload_n 0) 1 1 := ⟨by decide +kernel, rfl⟩
theorem aX4_breakDown_1 : At kX4_breakDown 1 (.getfield 20) 3 4 := ⟨by decide +kernel, rfl⟩
theorem aX4_breakDown_4 : At kX4_breakDown 4 (.invokevirtual 194) 3 7 := ⟨by decide +kernel, rfl⟩
theorem aX4_breakDown_7 : At kX4_breakDown 7 (.istore_n 1) 1 8 := ⟨by decide +kernel, rfl⟩
theorem aX4_breakDown_8 : At kX4_breakDown 8 (.iconst 0) 1 9 := ⟨by decide +kernel, rfl⟩
theorem aX4_breakDown_9 : At kX4_breakDown 9 (.istore_n 2) 1 10 := ⟨by decide +kernel, rfl⟩
theorem aX4_breakDown_10 : At kX4_breakDown 10 (.iload_n 2) 1 11 := ⟨by decide +kernel, rfl⟩
theorem aX4_breakDown_11 : At kX4_breakDown 11 (.bipush 6) 2 13 := ⟨by decide +kernel, rfl⟩
theorem aX4_breakDown_13 : At kX4_breakDown 13 (.if_icmp .ge 61) 3 16 := ⟨by decide +kernel, rfl⟩
theorem aX4_breakDown_16 : At kX4_breakDown 16 (.aload_n 0) 1 17 := ⟨by decide +kernel, rfl⟩
theorem aX4_breakDown_17 : At kX4_breakDown 17 (.iload_n 2) 1 18 := ⟨by decide +kernel, rfl⟩
theorem aX4_breakDown_18 : At kX4_breakDown 18 (.invokevirtual 197) 3 21 := ⟨by decide +kernel, rfl⟩
theorem aX4_breakDown_21 : At kX4_breakDown 21 (.istore_n 3) 1 22 := ⟨by decide +kernel, rfl⟩
theorem aX4_breakDown_22 : At kX4_breakDown 22 (.aload_n 0) 1 23 := ⟨by decide +kernel, rfl⟩
theorem aX4_breakDown_23 : At kX4_breakDown 23 (.iload_n 2) 1 24 := ⟨by decide +kernel, rfl⟩
theorem aX4_breakDown_24 : At kX4_breakDown 24 (.aload_n 0) 1 25 := ⟨by decide +kernel, rfl⟩
theorem aX4_breakDown_25 : At kX4_breakDown 25 (.iload_n 2) 1 26 := ⟨by decide +kernel, rfl⟩
theorem aX4_breakDown_26 : At kX4_breakDown 26 (.iload_n 3) 1 27 := ⟨by decide +kernel, rfl⟩
theorem aX4_breakDown_27 : At kX4_breakDown 27 (.invokevirtual 73) 3 30 := ⟨by decide +kernel, rfl⟩
theorem aX4_breakDown_30 : At kX4_breakDown 30 (.iload_n 3) 1 31 := ⟨by decide +kernel, rfl⟩
theorem aX4_breakDown_31 : At kX4_breakDown 31 (.aload_n 0) 1 32 := ⟨by decide +kernel, rfl⟩
theorem aX4_breakDown_32 : At kX4_breakDown 32 (.getfield 11) 3 35 := ⟨by decide +kernel, rfl⟩
theorem aX4_breakDown_35 : At kX4_breakDown 35 (.iload_n 2) 1 36 := ⟨by decide +kernel, rfl⟩
theorem aX4_breakDown_36 : At kX4_breakDown 36 (.aaload) 1 37 := ⟨by decide +kernel, rfl⟩
theorem aX4_breakDown_37 : At kX4_breakDown 37 (.getfield 122) 3 40 := ⟨by decide +kernel, rfl⟩
theorem aX4_breakDown_40 : At kX4_breakDown 40 (.invokevirtual 118) 3 43 := ⟨by decide +kernel, rfl⟩
theorem aX4_breakDown_43 : At kX4_breakDown 43 (.aload_n 0) 1 44 := ⟨by decide +kernel, rfl⟩
theorem aX4_breakDown_44 : At kX4_breakDown 44 (.getfield 11) 3 47 := ⟨by decide +kernel, rfl⟩
theorem aX4_breakDown_47 : At kX4_breakDown 47 (.iload_n 2) 1 48 := ⟨by decide +kernel, rfl⟩
theorem aX4_breakDown_48 : At kX4_breakDown 48 (.aaload) 1 49 := ⟨by decide +kernel, rfl⟩
theorem aX4_breakDown_49 : At kX4_breakDown 49 (.iload_n 3) 1 50 := ⟨by decide +kernel, rfl⟩
theorem aX4_breakDown_50 : At kX4_breakDown 50 (.aload_n 0) 1 51 := ⟨by decide +kernel, rfl⟩
theorem aX4_breakDown_51 : At kX4_breakDown 51 (.getfield 20) 3 54 := ⟨by decide +kernel, rfl⟩
theorem aX4_breakDown_54 : At kX4_breakDown 54 (.invokevirtual 69) 3 57 := ⟨by decide +kernel, rfl⟩
theorem aX4_breakDown_57 : At kX4_breakDown 57 (.if_icmp .ge 7) 3 60 := ⟨by decide +kernel, rfl⟩
theorem aX4_breakDown_60 : At kX4_breakDown 60 (.iconst 1) 1 61 := ⟨by decide +kernel, rfl⟩
theorem aX4_breakDown_61 : At kX4_breakDown 61 (.goto 4) 3 64 := ⟨by decide +kernel, rfl⟩
theorem aX4_breakDown_64 : At kX4_breakDown 64 (.iconst 0) 1 65 := ⟨by decide +kernel, rfl⟩
theorem aX4_breakDown_65 : At kX4_breakDown 65 (.putfield 91) 3 68 := ⟨by decide +kernel, rfl⟩
theorem aX4_breakDown_68 : At kX4_breakDown 68 (.iinc 2 1) 3 71 := ⟨by decide +kernel, rfl⟩
theorem aX4_breakDown_71 : At kX4_breakDown 71 (.goto (-61)) 3 74 := ⟨by decide +kernel, rfl⟩
theorem aX4_breakDown_74 : At kX4_breakDown 74 (.aload_n 0) 1 75 := ⟨by decide +kernel, rfl⟩
theorem aX4_breakDown_75 : At kX4_breakDown 75 (.dup) 1 76 := ⟨by decide +kernel, rfl⟩
theorem aX4_breakDown_76 : At kX4_breakDown 76 (.getfield 42) 3 79 := ⟨by decide +kernel, rfl⟩
theorem aX4_breakDown_79 : At kX4_breakDown 79 (.iconst 1) 1 80 := ⟨by decide +kernel, rfl⟩
theorem aX4_breakDown_80 : At kX4_breakDown 80 (.iadd) 1 81 := ⟨by decide +kernel, rfl⟩
theorem aX4_breakDown_81 : At kX4_breakDown 81 (.putfield 42) 3 84 := ⟨by decide +kernel, rfl⟩
theorem aX4_breakDown_84 : At kX4_breakDown 84 (.iload_n 1) 1 85 := ⟨by decide +kernel, rfl⟩
theorem aX4_breakDown_85 : At kX4_breakDown 85 (.ireturn) 1 86 := ⟨by decide +kernel, rfl⟩
theorem aX5_init_0 : At kX5_init 0 (.aload_n 0) 1 1 := ⟨by decide +kernel, rfl⟩
theorem aX5_init_1 : At kX5_init 1 (.invokespecial 3) 3 4 := ⟨by decide +kernel, rfl⟩
theorem aX5_init_4 : At kX5_init 4 (.aload_n 0) 1 5 := ⟨by decide +kernel, rfl⟩
theorem aX5_init_5 : At kX5_init 5 (.new 9) 3 8 := ⟨by decide +kernel, rfl⟩
theorem aX5_init_8 : At kX5_init 8 (.dup) 1 9 := ⟨by decide +kernel, rfl⟩
theorem aX5_init_9 : At kX5_init 9 (.invokespecial 11) 3 12 := ⟨by decide +kernel, rfl⟩
theorem aX5_init_12 : At kX5_init 12 (.putfield 12) 3 15 := ⟨by decide +kernel, rfl⟩
theorem aX5_init_15 : At kX5_init 15 (.aload_n 0) 1 16 := ⟨by decide +kernel, rfl⟩
theorem aX5_init_16 : At kX5_init 16 (.iconst 5) 1 17 := ⟨by decide +kernel, rfl⟩
theorem aX5_init_17 : At kX5_init 17 (.anewarray 9) 3 20 := ⟨by decide +kernel, rfl⟩
theorem aX5_init_20 : At kX5_init 20 (.putfield 16) 3 23 := ⟨by decide +kernel, rfl⟩
theorem aX5_init_23 : At kX5_init 23 (.iconst 0) 1 24 := ⟨by decide +kernel, rfl⟩
theorem aX5_init_24 : At kX5_init 24 (.istore_n 1) 1 25 := ⟨by decide +kernel, rfl⟩
theorem aX5_init_25 : At kX5_init 25 (.iload_n 1) 1 26 := ⟨by decide +kernel, rfl⟩
theorem aX5_init_26 : At kX5_init 26 (.aload_n 0) 1 27 := ⟨by decide +kernel, rfl⟩
theorem aX5_init_27 : At kX5_init 27 (.getfield 16) 3 30 := ⟨by decide +kernel, rfl⟩
theorem aX5_init_30 : At kX5_init 30 (.arraylength) 1 31 := ⟨by decide +kernel, rfl⟩
theorem aX5_init_31 : At kX5_init 31 (.if_icmp .ge 22) 3 34 := ⟨by decide +kernel, rfl⟩
theorem aX5_init_34 : At kX5_init 34 (.aload_n 0) 1 35 := ⟨by decide +kernel, rfl⟩
theorem aX5_init_35 : At kX5_init 35 (.getfield 16) 3 38 := ⟨by decide +kernel, rfl⟩
theorem aX5_init_38 : At kX5_init 38 (.iload_n 1) 1 39 := ⟨by decide +kernel, rfl⟩
theorem aX5_init_39 : At kX5_init 39 (.new 9) 3 42 := ⟨by decide +kernel, rfl⟩
theorem aX5_init_42 : At kX5_init 42 (.dup) 1 43 := ⟨by decide +kernel, rfl⟩
theorem aX5_init_43 : At kX5_init 43 (.invokespecial 11) 3 46 := ⟨by decide +kernel, rfl⟩
theorem aX5_init_46 : At kX5_init 46 (.aastore) 1 47 := ⟨by decide +kernel, rfl⟩
theorem aX5_init_47 : At kX5_init 47 (.iinc 1 1) 3 50 := ⟨by decide +kernel, rfl⟩
theorem aX5_init_50 : At kX5_init 50 (.goto (-25)) 3 53 := ⟨by decide +kernel, rfl⟩
theorem aX5_init_53 : At kX5_init 53 (.aload_n 0) 1 54 := ⟨by decide +kernel, rfl⟩
theorem aX5_init_54 : At kX5_init 54 (.new 9) 3 57 := ⟨by decide +kernel, rfl⟩
theorem aX5_init_57 : At kX5_init 57 (.dup) 1 58 := ⟨by decide +kernel, rfl⟩
theorem aX5_init_58 : At kX5_init 58 (.invokespecial 11) 3 61 := ⟨by decide +kernel, rfl⟩
theorem aX5_init_61 : At kX5_init 61 (.putfield 20) 3 64 := ⟨by decide +kernel, rfl⟩
theorem aX5_init_64 : At kX5_init 64 (.aload_n 0) 1 65 := ⟨by decide +kernel, rfl⟩
theorem aX5_init_65 : At kX5_init 65 (.bipush 60) 2 67 := ⟨by decide +kernel, rfl⟩
theorem aX5_init_67 : At kX5_init 67 (.newarray .char) 2 69 := ⟨by decide +kernel, rfl⟩
theorem aX5_init_69 : At kX5_init 69 (.putfield 23) 3 72 := ⟨by decide +kernel, rfl⟩
theorem aX5_init_72 : At kX5_init 72 (.return_) 1 73 := ⟨by decide +kernel, rfl⟩
theorem aX5_fill_0 : At kX5_fill 0 (.iload_n 1) 1 1 := ⟨by decide +kernel, rfl⟩
theorem aX5_fill_1 : At kX5_fill 1 (.invokestatic 27) 3 4 := ⟨by decide +kernel, rfl⟩
theorem aX5_fill_4 : At kX5_fill 4 (.ifCond .eq 17) 3 7 := ⟨by decide +kernel, rfl⟩
theorem aX5_fill_7 : At kX5_fill 7 (.iload_n 2) 1 8 := ⟨by decide +kernel, rfl⟩
theorem aX5_fill_8 : At kX5_fill 8 (.invokestatic 31) 3 11 := ⟨by decide +kernel, rfl⟩
theorem aX5_fill_11 : At kX5_fill 11 (.ifCond .eq 10) 3 14 := ⟨by decide +kernel, rfl⟩
theorem aX5_fill_14 : At kX5_fill 14 (.iload_n 3) 1 15 := ⟨by decide +kernel, rfl⟩
theorem aX5_fill_15 : At kX5_fill 15 (.invokestatic 31) 3 18 := ⟨by decide +kernel, rfl⟩
theorem aX5_fill_18 : At kX5_fill 18 (.ifCond .ne 5) 3 21 := ⟨by decide +kernel, rfl⟩
theorem aX5_fill_21 : At kX5_fill 21 (.iconst (-1)) 1 22 := ⟨by decide +kernel, rfl⟩
theorem aX5_fill_22 : At kX5_fill 22 (.ireturn) 1 23 := ⟨by decide +kernel, rfl⟩
theorem aX5_fill_23 : At kX5_fill 23 (.iload_n 3) 1 24 := ⟨by decide +kernel, rfl⟩
theorem aX5_fill_24 : At kX5_fill 24 (.iload_n 2) 1 25 := ⟨by decide +kernel, rfl⟩
theorem aX5_fill_25 : At kX5_fill 25 (.if_icmp .lt 11) 3 28 := ⟨by decide +kernel, rfl⟩
theorem aX5_fill_28 : At kX5_fill 28 (.iload 4) 2 30 := ⟨by decide +kernel, rfl⟩
theorem aX5_fill_30 : At kX5_fill 30 (.invokestatic 34) 3 33 := ⟨by decide +kernel, rfl⟩
theorem aX5_fill_33 : At kX5_fill 33 (.ifCond .ne 6) 3 36 := ⟨by decide +kernel, rfl⟩
theorem aX5_fill_36 : At kX5_fill 36 (.bipush (-2)) 2 38 := ⟨by decide +kernel, rfl⟩
theorem aX5_fill_38 : At kX5_fill 38 (.ireturn) 1 39 := ⟨by decide +kernel, rfl⟩
theorem aX5_fill_39 : At kX5_fill 39 (.aload_n 0) 1 40 := ⟨by decide +kernel, rfl⟩
theorem aX5_fill_40 : At kX5_fill 40 (.invokevirtual 37) 3 43 := ⟨by decide +kernel, rfl⟩
theorem aX5_fill_43 : At kX5_fill 43 (.aload_n 0) 1 44 := ⟨by decide +kernel, rfl⟩
theorem aX5_fill_44 : At kX5_fill 44 (.aload_n 0) 1 45 := ⟨by decide +kernel, rfl⟩
theorem aX5_fill_45 : At kX5_fill 45 (.getfield 12) 3 48 := ⟨by decide +kernel, rfl⟩
theorem aX5_fill_48 : At kX5_fill 48 (.iload_n 1) 1 49 := ⟨by decide +kernel, rfl⟩
theorem aX5_fill_49 : At kX5_fill 49 (.iconst 1) 1 50 := ⟨by decide +kernel, rfl⟩
theorem aX5_fill_50 : At kX5_fill 50 (.iload_n 2) 1 51 := ⟨by decide +kernel, rfl⟩
theorem aX5_fill_51 : At kX5_fill 51 (.iload_n 3) 1 52 := ⟨by decide +kernel, rfl⟩
theorem aX5_fill_52 : At kX5_fill 52 (.iload 4) 2 54 := ⟨by decide +kernel, rfl⟩
theorem aX5_fill_54 : At kX5_fill 54 (.invokestatic 40) 3 57 := ⟨by decide +kernel, rfl⟩
theorem aX5_fill_57 : At kX5_fill 57 (.invokevirtual 46) 3 60 := ⟨by decide +kernel, rfl⟩
theorem aX5_fill_60 : At kX5_fill 60 (.invokevirtual 50) 3 63 := ⟨by decide +kernel, rfl⟩
theorem aX5_fill_63 : At kX5_fill 63 (.ireturn) 1 64 := ⟨by decide +kernel, rfl⟩
theorem aX5_add_0 : At kX5_add 0 (.iload_n 1) 1 1 := ⟨by decide +kernel, rfl⟩
theorem aX5_add_1 : At kX5_add 1 (.invokestatic 27) 3 4 := ⟨by decide +kernel, rfl⟩
theorem aX5_add_4 : At kX5_add 4 (.ifCond .eq 17) 3 7 := ⟨by decide +kernel, rfl⟩
theorem aX5_add_7 : At kX5_add 7 (.iload_n 2) 1 8 := ⟨by decide +kernel, rfl⟩
theorem aX5_add_8 : At kX5_add 8 (.invokestatic 31) 3 11 := ⟨by decide +kernel, rfl⟩
theorem aX5_add_11 : At kX5_add 11 (.ifCond .eq 10) 3 14 := ⟨by decide +kernel, rfl⟩
theorem aX5_add_14 : At kX5_add 14 (.iload_n 3) 1 15 := ⟨by decide +kernel, rfl⟩
theorem aX5_add_15 : At kX5_add 15 (.invokestatic 31) 3 18 := ⟨by decide +kernel, rfl⟩
theorem aX5_add_18 : At kX5_add 18 (.ifCond .ne 5) 3 21 := ⟨by decide +kernel, rfl⟩
theorem aX5_add_21 : At kX5_add 21 (.iconst (-1)) 1 22 := ⟨by decide +kernel, rfl⟩
theorem aX5_add_22 : At kX5_add 22 (.ireturn) 1 23 := ⟨by decide +kernel, rfl⟩
theorem aX5_add_23 : At kX5_add 23 (.iload_n 3) 1 24 := ⟨by decide +kernel, rfl⟩
theorem aX5_add_24 : At kX5_add 24 (.iload_n 2) 1 25 := ⟨by decide +kernel, rfl⟩
theorem aX5_add_25 : At kX5_add 25 (.if_icmp .lt 16) 3 28 := ⟨by decide +kernel, rfl⟩
theorem aX5_add_28 : At kX5_add 28 (.iload 4) 2 30 := ⟨by decide +kernel, rfl⟩
theorem aX5_add_30 : At kX5_add 30 (.iconst 1) 1 31 := ⟨by decide +kernel, rfl⟩
theorem aX5_add_31 : At kX5_add 31 (.if_icmp .lt 10) 3 34 := ⟨by decide +kernel, rfl⟩
theorem aX5_add_34 : At kX5_add 34 (.iload 4) 2 36 := ⟨by decide +kernel, rfl⟩
theorem aX5_add_36 : At kX5_add 36 (.bipush 10) 2 38 := ⟨by decide +kernel, rfl⟩
theorem aX5_add_38 : At kX5_add 38 (.if_icmp .lt 6) 3 41 := ⟨by decide +kernel, rfl⟩
theorem aX5_add_41 : At kX5_add 41 (.bipush (-2)) 2 43 := ⟨by decide +kernel, rfl⟩
theorem aX5_add_43 : At kX5_add 43 (.ireturn) 1 44 := ⟨by decide +kernel, rfl⟩
theorem aX5_add_44 : At kX5_add 44 (.aload_n 0) 1 45 := ⟨by decide +kernel, rfl⟩
theorem aX5_add_45 : At kX5_add 45 (.invokevirtual 37) 3 48 := ⟨by decide +kernel, rfl⟩
theorem aX5_add_48 : At kX5_add 48 (.aload_n 0) 1 49 := ⟨by decide +kernel, rfl⟩
theorem aX5_add_49 : At kX5_add 49 (.aload_n 0) 1 50 := ⟨by decide +kernel, rfl⟩
theorem aX5_add_50 : At kX5_add 50 (.getfield 12) 3 53 := ⟨by decide +kernel, rfl⟩
theorem aX5_add_53 : At kX5_add 53 (.iload_n 1) 1 54 := ⟨by decide +kernel, rfl⟩
theorem aX5_add_54 : At kX5_add 54 (.iconst 2) 1 55 := ⟨by decide +kernel, rfl⟩
theorem aX5_add_55 : At kX5_add 55 (.iload_n 2) 1 56 := ⟨by decide +kernel, rfl⟩
theorem aX5_add_56 : At kX5_add 56 (.iload_n 3) 1 57 := ⟨by decide +kernel, rfl⟩
theorem aX5_add_57 : At kX5_add 57 (.iload 4) 2 59 := ⟨by decide +kernel, rfl⟩
theorem aX5_add_59 : At kX5_add 59 (.invokestatic 40) 3 62 := ⟨by decide +kernel, rfl⟩
theorem aX5_add_62 : At kX5_add 62 (.invokevirtual 46) 3 65 := ⟨by decide +kernel, rfl⟩
theorem aX5_add_65 : At kX5_add 65 (.invokevirtual 50) 3 68 := ⟨by decide +kernel, rfl⟩
theorem aX5_add_68 : At kX5_add 68 (.ireturn) 1 69 := ⟨by decide +kernel, rfl⟩
theorem aX5_turn_0 : At kX5_turn 0 (.iload_n 1) 1 1 := ⟨by decide +kernel, rfl⟩
theorem aX5_turn_1 : At kX5_turn 1 (.invokestatic 27) 3 4 := ⟨by decide +kernel, rfl⟩
theorem aX5_turn_4 : At kX5_turn 4 (.ifCond .ne 5) 3 7 := ⟨by decide +kernel, rfl⟩
theorem aX5_turn_7 : At kX5_turn 7 (.iconst (-1)) 1 8 := ⟨by decide +kernel, rfl⟩
theorem aX5_turn_8 : At kX5_turn 8 (.ireturn) 1 9 := ⟨by decide +kernel, rfl⟩
theorem aX5_turn_9 : At kX5_turn 9 (.iload_n 2) 1 10 := ⟨by decide +kernel, rfl⟩
theorem aX5_turn_10 : At kX5_turn 10 (.iconst 1) 1 11 := ⟨by decide +kernel, rfl⟩
theorem aX5_turn_11 : At kX5_turn 11 (.if_icmp .lt 9) 3 14 := ⟨by decide +kernel, rfl⟩
theorem aX5_turn_14 : At kX5_turn 14 (.iload_n 2) 1 15 := ⟨by decide +kernel, rfl⟩
theorem aX5_turn_15 : At kX5_turn 15 (.bipush 12) 2 17 := ⟨by decide +kernel, rfl⟩
theorem aX5_turn_17 : At kX5_turn 17 (.if_icmp .lt 6) 3 20 := ⟨by decide +kernel, rfl⟩
theorem aX5_turn_20 : At kX5_turn 20 (.bipush (-2)) 2 22 := ⟨by decide +kernel, rfl⟩
theorem aX5_turn_22 : At kX5_turn 22 (.ireturn) 1 23 := ⟨by decide +kernel, rfl⟩
theorem aX5_turn_23 : At kX5_turn 23 (.aload_n 0) 1 24 := ⟨by decide +kernel, rfl⟩
theorem aX5_turn_24 : At kX5_turn 24 (.invokevirtual 37) 3 27 := ⟨by decide +kernel, rfl⟩
theorem aX5_turn_27 : At kX5_turn 27 (.aload_n 0) 1 28 := ⟨by decide +kernel, rfl⟩
theorem aX5_turn_28 : At kX5_turn 28 (.aload_n 0) 1 29 := ⟨by decide +kernel, rfl⟩
theorem aX5_turn_29 : At kX5_turn 29 (.getfield 12) 3 32 := ⟨by decide +kernel, rfl⟩
theorem aX5_turn_32 : At kX5_turn 32 (.iload_n 1) 1 33 := ⟨by decide +kernel, rfl⟩
theorem aX5_turn_33 : At kX5_turn 33 (.iload_n 2) 1 34 := ⟨by decide +kernel, rfl⟩
theorem aX5_turn_34 : At kX5_turn 34 (.invokestatic 54) 3 37 := ⟨by decide +kernel, rfl⟩
theorem aX5_turn_37 : At kX5_turn 37 (.invokevirtual 46) 3 40 := ⟨by decide +kernel, rfl⟩
theorem aX5_turn_40 : At kX5_turn 40 (.invokevirtual 50) 3 43 := ⟨by decide +kernel, rfl⟩
theorem aX5_turn_43 : At kX5_turn 43 (.ireturn) 1 44 := ⟨by decide +kernel, rfl⟩
theorem aX5_renew_0 : At kX5_renew 0 (.iload_n 1) 1 1 := ⟨by decide +kernel, rfl⟩
theorem aX5_renew_1 : At kX5_renew 1 (.invokestatic 27) 3 4 := ⟨by decide +kernel, rfl⟩
theorem aX5_renew_4 : At kX5_renew 4 (.ifCond .ne 5) 3 7 := ⟨by decide +kernel, rfl⟩
theorem aX5_renew_7 : At kX5_renew 7 (.iconst (-1)) 1 8 := ⟨by decide +kernel, rfl⟩
theorem aX5_renew_8 : At kX5_renew 8 (.ireturn) 1 9 := ⟨by decide +kernel, rfl⟩
theorem aX5_renew_9 : At kX5_renew 9 (.aload_n 0) 1 10 := ⟨by decide +kernel, rfl⟩
theorem aX5_renew_10 : At kX5_renew 10 (.invokevirtual 37) 3 13 := ⟨by decide +kernel, rfl⟩
theorem aX5_renew_13 : At kX5_renew 13 (.aload_n 0) 1 14 := ⟨by decide +kernel, rfl⟩
theorem aX5_renew_14 : At kX5_renew 14 (.getfield 12) 3 17 := ⟨by decide +kernel, rfl⟩
theorem aX5_renew_17 : At kX5_renew 17 (.getfield 58) 3 20 := ⟨by decide +kernel, rfl⟩
theorem aX5_renew_20 : At kX5_renew 20 (.invokevirtual 62) 3 23 := ⟨by decide +kernel, rfl⟩
theorem aX5_renew_23 : At kX5_renew 23 (.istore_n 2) 1 24 := ⟨by decide +kernel, rfl⟩
theorem aX5_renew_24 : At kX5_renew 24 (.aload_n 0) 1 25 := ⟨by decide +kernel, rfl⟩
theorem aX5_renew_25 : At kX5_renew 25 (.aload_n 0) 1 26 := ⟨by decide +kernel, rfl⟩
theorem aX5_renew_26 : At kX5_renew 26 (.getfield 12) 3 29 := ⟨by decide +kernel, rfl⟩
theorem aX5_renew_29 : At kX5_renew 29 (.iload_n 1) 1 30 := ⟨by decide +kernel, rfl⟩
theorem aX5_renew_30 : At kX5_renew 30 (.invokestatic 68) 3 33 := ⟨by decide +kernel, rfl⟩
theorem aX5_renew_33 : At kX5_renew 33 (.invokevirtual 46) 3 36 := ⟨by decide +kernel, rfl⟩
theorem aX5_renew_36 : At kX5_renew 36 (.bipush (-3)) 2 38 := ⟨by decide +kernel, rfl⟩
theorem aX5_renew_38 : At kX5_renew 38 (.if_icmp .ne 8) 3 41 := ⟨by decide +kernel, rfl⟩
theorem aX5_renew_41 : At kX5_renew 41 (.bipush (-3)) 2 43 := ⟨by decide +kernel, rfl⟩
theorem aX5_renew_43 : At kX5_renew 43 (.goto 4) 3 46 := ⟨by decide +kernel, rfl⟩
theorem aX5_renew_46 : At kX5_renew 46 (.iload_n 2) 1 47 := ⟨by decide +kernel, rfl⟩
theorem aX5_renew_47 : At kX5_renew 47 (.invokevirtual 50) 3 50 := ⟨by decide +kernel, rfl⟩
theorem aX5_renew_50 : At kX5_renew 50 (.ireturn) 1 51 := ⟨by decide +kernel, rfl⟩
theorem aX5_readOrders_0 : At kX5_readOrders 0 (.new 72) 3 3 := ⟨by decide +kernel, rfl⟩
theorem aX5_readOrders_3 : At kX5_readOrders 3 (.dup) 1 4 := ⟨by decide +kernel, rfl⟩
theorem aX5_readOrders_4 : At kX5_readOrders 4 (.aload_n 0) 1 5 := ⟨by decide +kernel, rfl⟩
theorem aX5_readOrders_5 : At kX5_readOrders 5 (.getfield 23) 3 8 := ⟨by decide +kernel, rfl⟩
theorem aX5_readOrders_8 : At kX5_readOrders 8 (.aload_n 0) 1 9 := ⟨by decide +kernel, rfl⟩
theorem aX5_readOrders_9 : At kX5_readOrders 9 (.getfield 74) 3 12 := ⟨by decide +kernel, rfl⟩
theorem aX5_readOrders_12 : At kX5_readOrders 12 (.invokespecial 78) 3 15 := ⟨by decide +kernel, rfl⟩
theorem aX5_readOrders_15 : At kX5_readOrders 15 (.astore_n 1) 1 16 := ⟨by decide +kernel, rfl⟩
theorem aX5_readOrders_16 : At kX5_readOrders 16 (.aload_n 1) 1 17 := ⟨by decide +kernel, rfl⟩
theorem aX5_readOrders_17 : At kX5_readOrders 17 (.invokevirtual 81) 3 20 := ⟨by decide +kernel, rfl⟩
theorem aX5_readOrders_20 : At kX5_readOrders 20 (.ifCond .ne 11) 3 23 := ⟨by decide +kernel, rfl⟩
theorem aX5_readOrders_23 : At kX5_readOrders 23 (.bipush (-100)) 2 25 := ⟨by decide +kernel, rfl⟩
theorem aX5_readOrders_25 : At kX5_readOrders 25 (.aload_n 1) 1 26 := ⟨by decide +kernel, rfl⟩
theorem aX5_readOrders_26 : At kX5_readOrders 26 (.getfield 85) 3 29 := ⟨by decide +kernel, rfl⟩
theorem aX5_readOrders_29 : At kX5_readOrders 29 (.isub) 1 30 := ⟨by decide +kernel, rfl⟩
theorem aX5_readOrders_30 : At kX5_readOrders 30 (.ireturn) 1 31 := ⟨by decide +kernel, rfl⟩
theorem aX5_readOrders_31 : At kX5_readOrders 31 (.aload_n 0) 1 32 := ⟨by decide +kernel, rfl⟩
theorem aX5_readOrders_32 : At kX5_readOrders 32 (.invokevirtual 37) 3 35 := ⟨by decide +kernel, rfl⟩
theorem aX5_readOrders_35 : At kX5_readOrders 35 (.aload_n 0) 1 36 := ⟨by decide +kernel, rfl⟩
theorem aX5_readOrders_36 : At kX5_readOrders 36 (.getfield 12) 3 39 := ⟨by decide +kernel, rfl⟩
theorem aX5_readOrders_39 : At kX5_readOrders 39 (.getfield 88) 3 42 := ⟨by decide +kernel, rfl⟩
theorem aX5_readOrders_42 : At kX5_readOrders 42 (.istore_n 2) 1 43 := ⟨by decide +kernel, rfl⟩
theorem aX5_readOrders_43 : At kX5_readOrders 43 (.iconst 0) 1 44 := ⟨by decide +kernel, rfl⟩
theorem aX5_readOrders_44 : At kX5_readOrders 44 (.istore_n 3) 1 45 := ⟨by decide +kernel, rfl⟩
theorem aX5_readOrders_45 : At kX5_readOrders 45 (.iload_n 3) 1 46 := ⟨by decide +kernel, rfl⟩
theorem aX5_readOrders_46 : At kX5_readOrders 46 (.aload_n 1) 1 47 := ⟨by decide +kernel, rfl⟩
theorem aX5_readOrders_47 : At kX5_readOrders 47 (.getfield 91) 3 50 := ⟨by decide +kernel, rfl⟩
theorem aX5_readOrders_50 : At kX5_readOrders 50 (.if_icmp .ge 42) 3 53 := ⟨by decide +kernel, rfl⟩
theorem aX5_readOrders_53 : At kX5_readOrders 53 (.aload_n 1) 1 54 := ⟨by decide +kernel, rfl⟩
theorem aX5_readOrders_54 : At kX5_readOrders 54 (.iload_n 3) 1 55 := ⟨by decide +kernel, rfl⟩
theorem aX5_readOrders_55 : At kX5_readOrders 55 (.invokevirtual 94) 3 58 := ⟨by decide +kernel, rfl⟩
theorem aX5_readOrders_58 : At kX5_readOrders 58 (.astore 4) 2 60 := ⟨by decide +kernel, rfl⟩
theorem aX5_readOrders_60 : At kX5_readOrders 60 (.aload 4) 2 62 := ⟨by decide +kernel, rfl⟩
theorem aX5_readOrders_62 : At kX5_readOrders 62 (.ifnull 24) 3 65 := ⟨by decide +kernel, rfl⟩
theorem aX5_readOrders_65 : At kX5_readOrders 65 (.aload_n 0) 1 66 := ⟨by decide +kernel, rfl⟩
theorem aX5_readOrders_66 : At kX5_readOrders 66 (.getfield 12) 3 69 := ⟨by decide +kernel, rfl⟩
theorem aX5_readOrders_69 : At kX5_readOrders 69 (.aload 4) 2 71 := ⟨by decide +kernel, rfl⟩
theorem aX5_readOrders_71 : At kX5_readOrders 71 (.invokevirtual 46) 3 74 := ⟨by decide +kernel, rfl⟩
theorem aX5_readOrders_74 : At kX5_readOrders 74 (.bipush (-3)) 2 76 := ⟨by decide +kernel, rfl⟩
theorem aX5_readOrders_76 : At kX5_readOrders 76 (.if_icmp .ne 10) 3 79 := ⟨by decide +kernel, rfl⟩
theorem aX5_readOrders_79 : At kX5_readOrders 79 (.aload_n 0) 1 80 := ⟨by decide +kernel, rfl⟩
theorem aX5_readOrders_80 : At kX5_readOrders 80 (.bipush (-3)) 2 82 := ⟨by decide +kernel, rfl⟩
theorem aX5_readOrders_82 : At kX5_readOrders 82 (.invokevirtual 50) 3 85 := ⟨by decide +kernel, rfl⟩
theorem aX5_readOrders_85 : At kX5_readOrders 85 (.ireturn) 1 86 := ⟨by decide +kernel, rfl⟩
theorem aX5_readOrders_86 : At kX5_readOrders 86 (.iinc 3 1) 3 89 := ⟨by decide +kernel, rfl⟩
theorem aX5_readOrders_89 : At kX5_readOrders 89 (.goto (-44)) 3 92 := ⟨by decide +kernel, rfl⟩
theorem aX5_readOrders_92 : At kX5_readOrders 92 (.aload_n 0) 1 93 := ⟨by decide +kernel, rfl⟩
theorem aX5_readOrders_93 : At kX5_readOrders 93 (.aload_n 0) 1 94 := ⟨by decide +kernel, rfl⟩
theorem aX5_readOrders_94 : At kX5_readOrders 94 (.getfield 12) 3 97 := ⟨by decide +kernel, rfl⟩
theorem aX5_readOrders_97 : At kX5_readOrders 97 (.getfield 88) 3 100 := ⟨by decide +kernel, rfl⟩
theorem aX5_readOrders_100 : At kX5_readOrders 100 (.iload_n 2) 1 101 := ⟨by decide +kernel, rfl⟩
theorem aX5_readOrders_101 : At kX5_readOrders 101 (.isub) 1 102 := ⟨by decide +kernel, rfl⟩
theorem aX5_readOrders_102 : At kX5_readOrders 102 (.invokevirtual 50) 3 105 := ⟨by decide +kernel, rfl⟩
theorem aX5_readOrders_105 : At kX5_readOrders 105 (.ireturn) 1 106 := ⟨by decide +kernel, rfl⟩
theorem aX5_setWay_0 : At kX5_setWay 0 (.iload_n 1) 1 1 := ⟨by decide +kernel, rfl⟩
theorem aX5_setWay_1 : At kX5_setWay 1 (.ifCond .lt 8) 3 4 := ⟨by decide +kernel, rfl⟩
theorem aX5_setWay_4 : At kX5_setWay 4 (.iload_n 1) 1 5 := ⟨by decide +kernel, rfl⟩
theorem aX5_setWay_5 : At kX5_setWay 5 (.iconst 2) 1 6 := ⟨by decide +kernel, rfl⟩
theorem aX5_setWay_6 : At kX5_setWay 6 (.if_icmp .le 6) 3 9 := ⟨by decide +kernel, rfl⟩
theorem aX5_setWay_9 : At kX5_setWay 9 (.bipush (-2)) 2 11 := ⟨by decide +kernel, rfl⟩
theorem aX5_setWay_11 : At kX5_setWay 11 (.ireturn) 1 12 := ⟨by decide +kernel, rfl⟩
theorem aX5_setWay_12 : At kX5_setWay 12 (.aload_n 0) 1 13 := ⟨by decide +kernel, rfl⟩
theorem aX5_setWay_13 : At kX5_setWay 13 (.invokevirtual 37) 3 16 := ⟨by decide +kernel, rfl⟩
theorem aX5_setWay_16 : At kX5_setWay 16 (.aload_n 0) 1 17 := ⟨by decide +kernel, rfl⟩
theorem aX5_setWay_17 : At kX5_setWay 17 (.aload_n 0) 1 18 := ⟨by decide +kernel, rfl⟩
theorem aX5_setWay_18 : At kX5_setWay 18 (.getfield 12) 3 21 := ⟨by decide +kernel, rfl⟩
theorem aX5_setWay_21 : At kX5_setWay 21 (.iload_n 1) 1 22 := ⟨by decide +kernel, rfl⟩
theorem aX5_setWay_22 : At kX5_setWay 22 (.invokevirtual 97) 3 25 := ⟨by decide +kernel, rfl⟩
theorem aX5_setWay_25 : At kX5_setWay 25 (.invokevirtual 50) 3 28 := ⟨by decide +kernel, rfl⟩
theorem aX5_setWay_28 : At kX5_setWay 28 (.ireturn) 1 29 := ⟨by decide +kernel, rfl⟩
theorem aX5_setRoom_0 : At kX5_setRoom 0 (.iload_n 1) 1 1 := ⟨by decide +kernel, rfl⟩
theorem aX5_setRoom_1 : At kX5_setRoom 1 (.bipush 30) 2 3 := ⟨by decide +kernel, rfl⟩
theorem aX5_setRoom_3 : At kX5_setRoom 3 (.if_icmp .lt 10) 3 6 := ⟨by decide +kernel, rfl⟩
theorem aX5_setRoom_6 : At kX5_setRoom 6 (.iload_n 1) 1 7 := ⟨by decide +kernel, rfl⟩
theorem aX5_setRoom_7 : At kX5_setRoom 7 (.sipush 300) 3 10 := ⟨by decide +kernel, rfl⟩
theorem aX5_setRoom_10 : At kX5_setRoom 10 (.if_icmp .le 6) 3 13 := ⟨by decide +kernel, rfl⟩
theorem aX5_setRoom_13 : At kX5_setRoom 13 (.bipush (-2)) 2 15 := ⟨by decide +kernel, rfl⟩
theorem aX5_setRoom_15 : At kX5_setRoom 15 (.ireturn) 1 16 := ⟨by decide +kernel, rfl⟩
theorem aX5_setRoom_16 : At kX5_setRoom 16 (.aload_n 0) 1 17 := ⟨by decide +kernel, rfl⟩
theorem aX5_setRoom_17 : At kX5_setRoom 17 (.invokevirtual 37) 3 20 := ⟨by decide +kernel, rfl⟩
theorem aX5_setRoom_20 : At kX5_setRoom 20 (.aload_n 0) 1 21 := ⟨by decide +kernel, rfl⟩
theorem aX5_setRoom_21 : At kX5_setRoom 21 (.aload_n 0) 1 22 := ⟨by decide +kernel, rfl⟩
theorem aX5_setRoom_22 : At kX5_setRoom 22 (.getfield 12) 3 25 := ⟨by decide +kernel, rfl⟩
theorem aX5_setRoom_25 : At kX5_setRoom 25 (.iload_n 1) 1 26 := ⟨by decide +kernel, rfl⟩
theorem aX5_setRoom_26 : At kX5_setRoom 26 (.invokevirtual 100) 3 29 := ⟨by decide +kernel, rfl⟩
theorem aX5_setRoom_29 : At kX5_setRoom 29 (.invokevirtual 50) 3 32 := ⟨by decide +kernel, rfl⟩
theorem aX5_setRoom_32 : At kX5_setRoom 32 (.ireturn) 1 33 := ⟨by decide +kernel, rfl⟩
theorem aX5_flush_0 : At kX5_flush 0 (.aload_n 0) 1 1 := ⟨by decide +kernel, rfl⟩
theorem aX5_flush_1 : At kX5_flush 1 (.invokevirtual 37) 3 4 := ⟨by decide +kernel, rfl⟩
theorem aX5_flush_4 : At kX5_flush 4 (.aload_n 0) 1 5 := ⟨by decide +kernel, rfl⟩
theorem aX5_flush_5 : At kX5_flush 5 (.aload_n 0) 1 6 := ⟨by decide +kernel, rfl⟩
theorem aX5_flush_6 : At kX5_flush 6 (.getfield 12) 3 9 := ⟨by decide +kernel, rfl⟩
theorem aX5_flush_9 : At kX5_flush 9 (.invokevirtual 103) 3 12 := ⟨by decide +kernel, rfl⟩
theorem aX5_flush_12 : At kX5_flush 12 (.invokevirtual 50) 3 15 := ⟨by decide +kernel, rfl⟩
theorem aX5_flush_15 : At kX5_flush 15 (.ireturn) 1 16 := ⟨by decide +kernel, rfl⟩
theorem aX5_store_0 : At kX5_store 0 (.iload_n 1) 1 1 := ⟨by decide +kernel, rfl⟩
theorem aX5_store_1 : At kX5_store 1 (.invokestatic 27) 3 4 := ⟨by decide +kernel, rfl⟩
theorem aX5_store_4 : At kX5_store 4 (.ifCond .ne 5) 3 7 := ⟨by decide +kernel, rfl⟩
theorem aX5_store_7 : At kX5_store 7 (.iconst (-1)) 1 8 := ⟨by decide +kernel, rfl⟩
theorem aX5_store_8 : At kX5_store 8 (.ireturn) 1 9 := ⟨by decide +kernel, rfl⟩
theorem aX5_store_9 : At kX5_store 9 (.aload_n 0) 1 10 := ⟨by decide +kernel, rfl⟩
theorem aX5_store_10 : At kX5_store 10 (.invokevirtual 37) 3 13 := ⟨by decide +kernel, rfl⟩
theorem aX5_store_13 : At kX5_store 13 (.aload_n 0) 1 14 := ⟨by decide +kernel, rfl⟩
theorem aX5_store_14 : At kX5_store 14 (.aload_n 0) 1 15 := ⟨by decide +kernel, rfl⟩
theorem aX5_store_15 : At kX5_store 15 (.getfield 12) 3 18 := ⟨by decide +kernel, rfl⟩
theorem aX5_store_18 : At kX5_store 18 (.iload_n 1) 1 19 := ⟨by decide +kernel, rfl⟩
theorem aX5_store_19 : At kX5_store 19 (.invokevirtual 106) 3 22 := ⟨by decide +kernel, rfl⟩
theorem aX5_store_22 : At kX5_store 22 (.invokevirtual 50) 3 25 := ⟨by decide +kernel, rfl⟩
theorem aX5_store_25 : At kX5_store 25 (.ireturn) 1 26 := ⟨by decide +kernel, rfl⟩
theorem aX5_trim_0 : At kX5_trim 0 (.aload_n 0) 1 1 := ⟨by decide +kernel, rfl⟩
theorem aX5_trim_1 : At kX5_trim 1 (.invokevirtual 37) 3 4 := ⟨by decide +kernel, rfl⟩
theorem aX5_trim_4 : At kX5_trim 4 (.aload_n 0) 1 5 := ⟨by decide +kernel, rfl⟩
theorem aX5_trim_5 : At kX5_trim 5 (.getfield 12) 3 8 := ⟨by decide +kernel, rfl⟩
theorem aX5_trim_8 : At kX5_trim 8 (.iconst 0) 1 9 := ⟨by decide +kernel, rfl⟩
theorem aX5_trim_9 : At kX5_trim 9 (.invokevirtual 109) 3 12 := ⟨by decide +kernel, rfl⟩
theorem aX5_trim_12 : At kX5_trim 12 (.istore_n 1) 1 13 := ⟨by decide +kernel, rfl⟩
theorem aX5_trim_13 : At kX5_trim 13 (.aload_n 0) 1 14 := ⟨by decide +kernel, rfl⟩
theorem aX5_trim_14 : At kX5_trim 14 (.iload_n 1) 1 15 := ⟨by decide +kernel, rfl⟩
theorem aX5_trim_15 : At kX5_trim 15 (.ifCond .ne 8) 3 18 := ⟨by decide +kernel, rfl⟩
theorem aX5_trim_18 : At kX5_trim 18 (.bipush (-5)) 2 20 := ⟨by decide +kernel, rfl⟩
theorem aX5_trim_20 : At kX5_trim 20 (.goto 4) 3 23 := ⟨by decide +kernel, rfl⟩
theorem aX5_trim_23 : At kX5_trim 23 (.iload_n 1) 1 24 := ⟨by decide +kernel, rfl⟩
theorem aX5_trim_24 : At kX5_trim 24 (.invokevirtual 50) 3 27 := ⟨by decide +kernel, rfl⟩
theorem aX5_trim_27 : At kX5_trim 27 (.ireturn) 1 28 := ⟨by decide +kernel, rfl⟩
theorem aX5_damage_0 : At kX5_damage 0 (.aload_n 0) 1 1 := ⟨by decide +kernel, rfl⟩
theorem aX5_damage_1 : At kX5_damage 1 (.getfield 12) 3 4 := ⟨by decide +kernel, rfl⟩
theorem aX5_damage_4 : At kX5_damage 4 (.getfield 58) 3 7 := ⟨by decide +kernel, rfl⟩
theorem aX5_damage_7 : At kX5_damage 7 (.iload_n 1) 1 8 := ⟨by decide +kernel, rfl⟩
theorem aX5_damage_8 : At kX5_damage 8 (.invokevirtual 112) 3 11 := ⟨by decide +kernel, rfl⟩
theorem aX5_damage_11 : At kX5_damage 11 (.ifCond .ne 5) 3 14 := ⟨by decide +kernel, rfl⟩
theorem aX5_damage_14 : At kX5_damage 14 (.iconst (-1)) 1 15 := ⟨by decide +kernel, rfl⟩
theorem aX5_damage_15 : At kX5_damage 15 (.ireturn) 1 16 := ⟨by decide +kernel, rfl⟩
theorem aX5_damage_16 : At kX5_damage 16 (.aload_n 0) 1 17 := ⟨by decide +kernel, rfl⟩
theorem aX5_damage_17 : At kX5_damage 17 (.invokevirtual 37) 3 20 := ⟨by decide +kernel, rfl⟩
theorem aX5_damage_20 : At kX5_damage 20 (.aload_n 0) 1 21 := ⟨by decide +kernel, rfl⟩
theorem aX5_damage_21 : At kX5_damage 21 (.aload_n 0) 1 22 := ⟨by decide +kernel, rfl⟩
theorem aX5_damage_22 : At kX5_damage 22 (.getfield 12) 3 25 := ⟨by decide +kernel, rfl⟩
theorem aX5_damage_25 : At kX5_damage 25 (.iload_n 1) 1 26 := ⟨by decide +kernel, rfl⟩
theorem aX5_damage_26 : At kX5_damage 26 (.invokevirtual 115) 3 29 := ⟨by decide +kernel, rfl⟩
theorem aX5_damage_29 : At kX5_damage 29 (.invokevirtual 50) 3 32 := ⟨by decide +kernel, rfl⟩
theorem aX5_damage_32 : At kX5_damage 32 (.ireturn) 1 33 := ⟨by decide +kernel, rfl⟩
theorem aX5_crash_0 : At kX5_crash 0 (.aload_n 0) 1 1 := ⟨by decide +kernel, rfl⟩
theorem aX5_crash_1 : At kX5_crash 1 (.invokevirtual 37) 3 4 := ⟨by decide +kernel, rfl⟩
theorem aX5_crash_4 : At kX5_crash 4 (.aload_n 0) 1 5 := ⟨by decide +kernel, rfl⟩
theorem aX5_crash_5 : At kX5_crash 5 (.aload_n 0) 1 6 := ⟨by decide +kernel, rfl⟩
theorem aX5_crash_6 : At kX5_crash 6 (.getfield 12) 3 9 := ⟨by decide +kernel, rfl⟩
theorem aX5_crash_9 : At kX5_crash 9 (.invokevirtual 118) 3 12 := ⟨by decide +kernel, rfl⟩
theorem aX5_crash_12 : At kX5_crash 12 (.invokevirtual 50) 3 15 := ⟨by decide +kernel, rfl⟩
theorem aX5_crash_15 : At kX5_crash 15 (.ireturn) 1 16 := ⟨by decide +kernel, rfl⟩
theorem aX5_type_0 : At kX5_type 0 (.aload_n 0) 1 1 := ⟨by decide +kernel, rfl⟩
theorem aX5_type_1 : At kX5_type 1 (.getfield 74) 3 4 := ⟨by decide +kernel, rfl⟩
theorem aX5_type_4 : At kX5_type 4 (.aload_n 0) 1 5 := ⟨by decide +kernel, rfl⟩
theorem aX5_type_5 : At kX5_type 5 (.getfield 23) 3 8 := ⟨by decide +kernel, rfl⟩
theorem aX5_type_8 : At kX5_type 8 (.arraylength) 1 9 := ⟨by decide +kernel, rfl⟩
theorem aX5_type_9 : At kX5_type 9 (.if_icmp .lt 6) 3 12 := ⟨by decide +kernel, rfl⟩
theorem aX5_type_12 : At kX5_type 12 (.bipush (-3)) 2 14 := ⟨by decide +kernel, rfl⟩
theorem aX5_type_14 : At kX5_type 14 (.ireturn) 1 15 := ⟨by decide +kernel, rfl⟩
theorem aX5_type_15 : At kX5_type 15 (.aload_n 0) 1 16 := ⟨by decide +kernel, rfl⟩
theorem aX5_type_16 : At kX5_type 16 (.getfield 23) 3 19 := ⟨by decide +kernel, rfl⟩
theorem aX5_type_19 : At kX5_type 19 (.aload_n 0) 1 20 := ⟨by decide +kernel, rfl⟩
theorem aX5_type_20 : At kX5_type 20 (.getfield 74) 3 23 := ⟨by decide +kernel, rfl⟩
theorem aX5_type_23 : At kX5_type 23 (.iload_n 1) 1 24 := ⟨by decide +kernel, rfl⟩
theorem aX5_type_24 : At kX5_type 24 (.castore) 1 25 := ⟨by decide +kernel, rfl⟩
theorem aX5_type_25 : At kX5_type 25 (.aload_n 0) 1 26 := ⟨by decide +kernel, rfl⟩
theorem aX5_type_26 : At kX5_type 26 (.dup) 1 27 := ⟨by decide +kernel, rfl⟩
theorem aX5_type_27 : At kX5_type 27 (.getfield 74) 3 30 := ⟨by decide +kernel, rfl⟩
theorem aX5_type_30 : At kX5_type 30 (.iconst 1) 1 31 := ⟨by decide +kernel, rfl⟩
theorem aX5_type_31 : At kX5_type 31 (.iadd) 1 32 := ⟨by decide +kernel, rfl⟩
theorem aX5_type_32 : At kX5_type 32 (.putfield 74) 3 35 := ⟨by decide +kernel, rfl⟩
theorem aX5_type_35 : At kX5_type 35 (.aload_n 0) 1 36 := ⟨by decide +kernel, rfl⟩
theorem aX5_type_36 : At kX5_type 36 (.getfield 74) 3 39 := ⟨by decide +kernel, rfl⟩
theorem aX5_type_39 : At kX5_type 39 (.ireturn) 1 40 := ⟨by decide +kernel, rfl⟩
theorem aX5_clearText_0 : At kX5_clearText 0 (.aload_n 0) 1 1 := ⟨by decide +kernel, rfl⟩
theorem aX5_clearText_1 : At kX5_clearText 1 (.getfield 74) 3 4 := ⟨by decide +kernel, rfl⟩
theorem aX5_clearText_4 : At kX5_clearText 4 (.istore_n 1) 1 5 := ⟨by decide +kernel, rfl⟩
theorem aX5_clearText_5 : At kX5_clearText 5 (.aload_n 0) 1 6 := ⟨by decide +kernel, rfl⟩
theorem aX5_clearText_6 : At kX5_clearText 6 (.iconst 0) 1 7 := ⟨by decide +kernel, rfl⟩
theorem aX5_clearText_7 : At kX5_clearText 7 (.putfield 74) 3 10 := ⟨by decide +kernel, rfl⟩
theorem aX5_clearText_10 : At kX5_clearText 10 (.iload_n 1) 1 11 := ⟨by decide +kernel, rfl⟩
theorem aX5_clearText_11 : At kX5_clearText 11 (.ireturn) 1 12 := ⟨by decide +kernel, rfl⟩
theorem aX5_undo_0 : At kX5_undo 0 (.aload_n 0) 1 1 := ⟨by decide +kernel, rfl⟩
theorem aX5_undo_1 : At kX5_undo 1 (.getfield 121) 3 4 := ⟨by decide +kernel, rfl⟩
theorem aX5_undo_4 : At kX5_undo 4 (.ifCond .ne 6) 3 7 := ⟨by decide +kernel, rfl⟩
theorem aX5_undo_7 : At kX5_undo 7 (.bipush (-5)) 2 9 := ⟨by decide +kernel, rfl⟩
theorem aX5_undo_9 : At kX5_undo 9 (.ireturn) 1 10 := ⟨by decide +kernel, rfl⟩
theorem aX5_undo_10 : At kX5_undo 10 (.aload_n 0) 1 11 := ⟨by decide +kernel, rfl⟩
theorem aX5_undo_11 : At kX5_undo 11 (.dup) 1 12 := ⟨by decide +kernel, rfl⟩
theorem aX5_undo_12 : At kX5_undo 12 (.getfield 121) 3 15 := ⟨by decide +kernel, rfl⟩
theorem aX5_undo_15 : At kX5_undo 15 (.iconst 1) 1 16 := ⟨by decide +kernel, rfl⟩
theorem aX5_undo_16 : At kX5_undo 16 (.isub) 1 17 := ⟨by decide +kernel, rfl⟩
theorem aX5_undo_17 : At kX5_undo 17 (.putfield 121) 3 20 := ⟨by decide +kernel, rfl⟩
theorem aX5_undo_20 : At kX5_undo 20 (.aload_n 0) 1 21 := ⟨by decide +kernel, rfl⟩
theorem aX5_undo_21 : At kX5_undo 21 (.getfield 12) 3 24 := ⟨by decide +kernel, rfl⟩
theorem aX5_undo_24 : At kX5_undo 24 (.aload_n 0) 1 25 := ⟨by decide +kernel, rfl⟩
theorem aX5_undo_25 : At kX5_undo 25 (.getfield 16) 3 28 := ⟨by decide +kernel, rfl⟩
theorem aX5_undo_28 : At kX5_undo 28 (.aload_n 0) 1 29 := ⟨by decide +kernel, rfl⟩
theorem aX5_undo_29 : At kX5_undo 29 (.getfield 121) 3 32 := ⟨by decide +kernel, rfl⟩
theorem aX5_undo_32 : At kX5_undo 32 (.aaload) 1 33 := ⟨by decide +kernel, rfl⟩
theorem aX5_undo_33 : At kX5_undo 33 (.invokevirtual 124) 3 36 := ⟨by decide +kernel, rfl⟩
theorem aX5_undo_36 : At kX5_undo 36 (.aload_n 0) 1 37 := ⟨by decide +kernel, rfl⟩
theorem aX5_undo_37 : At kX5_undo 37 (.getfield 121) 3 40 := ⟨by decide +kernel, rfl⟩
theorem aX5_undo_40 : At kX5_undo 40 (.ireturn) 1 41 := ⟨by decide +kernel, rfl⟩
theorem aX5_keep_0 : At kX5_keep 0 (.aload_n 0) 1 1 := ⟨by decide +kernel, rfl⟩
theorem aX5_keep_1 : At kX5_keep 1 (.getfield 20) 3 4 := ⟨by decide +kernel, rfl⟩
theorem aX5_keep_4 : At kX5_keep 4 (.aload_n 0) 1 5 := ⟨by decide +kernel, rfl⟩
theorem aX5_keep_5 : At kX5_keep 5 (.getfield 12) 3 8 := ⟨by decide +kernel, rfl⟩
theorem aX5_keep_8 : At kX5_keep 8 (.invokevirtual 124) 3 11 := ⟨by decide +kernel, rfl⟩
theorem aX5_keep_11 : At kX5_keep 11 (.aload_n 0) 1 12 := ⟨by decide +kernel, rfl⟩
theorem aX5_keep_12 : At kX5_keep 12 (.iconst 1) 1 13 := ⟨by decide +kernel, rfl⟩
theorem aX5_keep_13 : At kX5_keep 13 (.putfield 128) 3 16 := ⟨by decide +kernel, rfl⟩
theorem aX5_keep_16 : At kX5_keep 16 (.aload_n 0) 1 17 := ⟨by decide +kernel, rfl⟩
theorem aX5_keep_17 : At kX5_keep 17 (.getfield 12) 3 20 := ⟨by decide +kernel, rfl⟩
theorem aX5_keep_20 : At kX5_keep 20 (.getfield 58) 3 23 := ⟨by decide +kernel, rfl⟩
theorem aX5_keep_23 : At kX5_keep 23 (.invokevirtual 62) 3 26 := ⟨by decide +kernel, rfl⟩
theorem aX5_keep_26 : At kX5_keep 26 (.ireturn) 1 27 := ⟨by decide +kernel, rfl⟩
theorem aX5_restore_0 : At kX5_restore 0 (.aload_n 0) 1 1 := ⟨by decide +kernel, rfl⟩
theorem aX5_restore_1 : At kX5_restore 1 (.getfield 128) 3 4 := ⟨by decide +kernel, rfl⟩
theorem aX5_restore_4 : At kX5_restore 4 (.ifCond .ne 6) 3 7 := ⟨by decide +kernel, rfl⟩
theorem aX5_restore_7 : At kX5_restore 7 (.bipush (-5)) 2 9 := ⟨by decide +kernel, rfl⟩
theorem aX5_restore_9 : At kX5_restore 9 (.ireturn) 1 10 := ⟨by decide +kernel, rfl⟩
theorem aX5_restore_10 : At kX5_restore 10 (.aload_n 0) 1 11 := ⟨by decide +kernel, rfl⟩
theorem aX5_restore_11 : At kX5_restore 11 (.invokevirtual 37) 3 14 := ⟨by decide +kernel, rfl⟩
theorem aX5_restore_14 : At kX5_restore 14 (.aload_n 0) 1 15 := ⟨by decide +kernel, rfl⟩
theorem aX5_restore_15 : At kX5_restore 15 (.getfield 12) 3 18 := ⟨by decide +kernel, rfl⟩
theorem aX5_restore_18 : At kX5_restore 18 (.aload_n 0) 1 19 := ⟨by decide +kernel, rfl⟩
theorem aX5_restore_19 : At kX5_restore 19 (.getfield 20) 3 22 := ⟨by decide +kernel, rfl⟩
theorem aX5_restore_22 : At kX5_restore 22 (.invokevirtual 124) 3 25 := ⟨by decide +kernel, rfl⟩
theorem aX5_restore_25 : At kX5_restore 25 (.aload_n 0) 1 26 := ⟨by decide +kernel, rfl⟩
theorem aX5_restore_26 : At kX5_restore 26 (.aload_n 0) 1 27 := ⟨by decide +kernel, rfl⟩
theorem aX5_restore_27 : At kX5_restore 27 (.getfield 12) 3 30 := ⟨by decide +kernel, rfl⟩
theorem aX5_restore_30 : At kX5_restore 30 (.getfield 58) 3 33 := ⟨by decide +kernel, rfl⟩
theorem aX5_restore_33 : At kX5_restore 33 (.invokevirtual 62) 3 36 := ⟨by decide +kernel, rfl⟩
theorem aX5_restore_36 : At kX5_restore 36 (.invokevirtual 50) 3 39 := ⟨by decide +kernel, rfl⟩
theorem aX5_restore_39 : At kX5_restore 39 (.ireturn) 1 40 := ⟨by decide +kernel, rfl⟩
theorem aX5_cell_0 : At kX5_cell 0 (.iload_n 1) 1 1 := ⟨by decide +kernel, rfl⟩
theorem aX5_cell_1 : At kX5_cell 1 (.invokestatic 27) 3 4 := ⟨by decide +kernel, rfl⟩
theorem aX5_cell_4 : At kX5_cell 4 (.ifCond .eq 27) 3 7 := ⟨by decide +kernel, rfl⟩
theorem aX5_cell_7 : At kX5_cell 7 (.iload_n 2) 1 8 := ⟨by decide +kernel, rfl⟩
theorem aX5_cell_8 : At kX5_cell 8 (.invokestatic 31) 3 11 := ⟨by decide +kernel, rfl⟩
theorem aX5_cell_11 : At kX5_cell 11 (.ifCond .eq 20) 3 14 := ⟨by decide +kernel, rfl⟩
theorem aX5_cell_14 : At kX5_cell 14 (.aload_n 0) 1 15 := ⟨by decide +kernel, rfl⟩
theorem aX5_cell_15 : At kX5_cell 15 (.getfield 12) 3 18 := ⟨by decide +kernel, rfl⟩
theorem aX5_cell_18 : At kX5_cell 18 (.getfield 132) 3 21 := ⟨by decide +kernel, rfl⟩
theorem aX5_cell_21 : At kX5_cell 21 (.iload_n 1) 1 22 := ⟨by decide +kernel, rfl⟩
theorem aX5_cell_22 : At kX5_cell 22 (.aaload) 1 23 := ⟨by decide +kernel, rfl⟩
theorem aX5_cell_23 : At kX5_cell 23 (.getfield 136) 3 26 := ⟨by decide +kernel, rfl⟩
theorem aX5_cell_26 : At kX5_cell 26 (.iload_n 2) 1 27 := ⟨by decide +kernel, rfl⟩
theorem aX5_cell_27 : At kX5_cell 27 (.iaload) 1 28 := ⟨by decide +kernel, rfl⟩
theorem aX5_cell_28 : At kX5_cell 28 (.goto 4) 3 31 := ⟨by decide +kernel, rfl⟩
theorem aX5_cell_31 : At kX5_cell 31 (.iconst (-1)) 1 32 := ⟨by decide +kernel, rfl⟩
theorem aX5_cell_32 : At kX5_cell 32 (.ireturn) 1 33 := ⟨by decide +kernel, rfl⟩
theorem aX5_page_0 : At kX5_page 0 (.iload_n 1) 1 1 := ⟨by decide +kernel, rfl⟩
theorem aX5_page_1 : At kX5_page 1 (.invokestatic 27) 3 4 := ⟨by decide +kernel, rfl⟩
theorem aX5_page_4 : At kX5_page 4 (.ifCond .ne 5) 3 7 := ⟨by decide +kernel, rfl⟩
theorem aX5_page_7 : At kX5_page 7 (.iconst (-1)) 1 8 := ⟨by decide +kernel, rfl⟩
theorem aX5_page_8 : At kX5_page 8 (.ireturn) 1 9 := ⟨by decide +kernel, rfl⟩
theorem aX5_page_9 : At kX5_page 9 (.aload_n 0) 1 10 := ⟨by decide +kernel, rfl⟩
theorem aX5_page_10 : At kX5_page 10 (.getfield 12) 3 13 := ⟨by decide +kernel, rfl⟩
theorem aX5_page_13 : At kX5_page 13 (.getfield 58) 3 16 := ⟨by decide +kernel, rfl⟩
theorem aX5_page_16 : At kX5_page 16 (.invokevirtual 62) 3 19 := ⟨by decide +kernel, rfl⟩
theorem aX5_page_19 : At kX5_page 19 (.istore_n 3) 1 20 := ⟨by decide +kernel, rfl⟩
theorem aX5_page_20 : At kX5_page 20 (.aload_n 0) 1 21 := ⟨by decide +kernel, rfl⟩
theorem aX5_page_21 : At kX5_page 21 (.getfield 12) 3 24 := ⟨by decide +kernel, rfl⟩
theorem aX5_page_24 : At kX5_page 24 (.iload_n 1) 1 25 := ⟨by decide +kernel, rfl⟩
theorem aX5_page_25 : At kX5_page 25 (.iload_n 3) 1 26 := ⟨by decide +kernel, rfl⟩
theorem aX5_page_26 : At kX5_page 26 (.invokevirtual 142) 3 29 := ⟨by decide +kernel, rfl⟩
theorem aX5_page_29 : At kX5_page 29 (.istore 4) 2 31 := ⟨by decide +kernel, rfl⟩
theorem aX5_page_31 : At kX5_page 31 (.iload_n 2) 1 32 := ⟨by decide +kernel, rfl⟩
theorem aX5_page_32 : At kX5_page 32 (.tableswitch 139 0 6 #[44, 53, 68, 82, 95, 111, 123]) 44 76 := ⟨by decide +kernel, rfl⟩
theorem aX5_page_76 : At kX5_page 76 (.aload_n 0) 1 77 := ⟨by decide +kernel, rfl⟩
theorem aX5_page_77 : At kX5_page 77 (.getfield 12) 3 80 := ⟨by decide +kernel, rfl⟩
theorem aX5_page_80 : At kX5_page 80 (.iload_n 1) 1 81 := ⟨by decide +kernel, rfl⟩
theorem aX5_page_81 : At kX5_page 81 (.invokevirtual 146) 3 84 := ⟨by decide +kernel, rfl⟩
theorem aX5_page_84 : At kX5_page 84 (.ireturn) 1 85 := ⟨by decide +kernel, rfl⟩
theorem aX5_page_85 : At kX5_page 85 (.aload_n 0) 1 86 := ⟨by decide +kernel, rfl⟩
theorem aX5_page_86 : At kX5_page 86 (.getfield 12) 3 89 := ⟨by decide +kernel, rfl⟩
theorem aX5_page_89 : At kX5_page 89 (.getfield 58) 3 92 := ⟨by decide +kernel, rfl⟩
theorem aX5_page_92 : At kX5_page 92 (.iload_n 1) 1 93 := ⟨by decide +kernel, rfl⟩
theorem aX5_page_93 : At kX5_page 93 (.iload 4) 2 95 := ⟨by decide +kernel, rfl⟩
theorem aX5_page_95 : At kX5_page 95 (.iload_n 3) 1 96 := ⟨by decide +kernel, rfl⟩
theorem aX5_page_96 : At kX5_page 96 (.invokevirtual 149) 3 99 := ⟨by decide +kernel, rfl⟩
theorem aX5_page_99 : At kX5_page 99 (.ireturn) 1 100 := ⟨by decide +kernel, rfl⟩
theorem aX5_page_100 : At kX5_page 100 (.iload 4) 2 102 := ⟨by decide +kernel, rfl⟩
theorem aX5_page_102 : At kX5_page 102 (.iload_n 3) 1 103 := ⟨by decide +kernel, rfl⟩
theorem aX5_page_103 : At kX5_page 103 (.if_icmp .ge 8) 3 106 := ⟨by decide +kernel, rfl⟩
theorem aX5_page_106 : At kX5_page 106 (.iload 4) 2 108 := ⟨by decide +kernel, rfl⟩
theorem aX5_page_108 : At kX5_page 108 (.goto 5) 3 111 := ⟨by decide +kernel, rfl⟩
theorem aX5_page_111 : At kX5_page 111 (.bipush (-5)) 2 113 := ⟨by decide +kernel, rfl⟩
theorem aX5_page_113 : At kX5_page 113 (.ireturn) 1 114 := ⟨by decide +kernel, rfl⟩
theorem aX5_page_114 : At kX5_page 114 (.aload_n 0) 1 115 := ⟨by decide +kernel, rfl⟩
theorem aX5_page_115 : At kX5_page 115 (.getfield 12) 3 118 := ⟨by decide +kernel, rfl⟩
theorem aX5_page_118 : At kX5_page 118 (.getfield 132) 3 121 := ⟨by decide +kernel, rfl⟩
theorem aX5_page_121 : At kX5_page 121 (.iload_n 1) 1 122 := ⟨by decide +kernel, rfl⟩
theorem aX5_page_122 : At kX5_page 122 (.aaload) 1 123 := ⟨by decide +kernel, rfl⟩
theorem aX5_page_123 : At kX5_page 123 (.getfield 153) 3 126 := ⟨by decide +kernel, rfl⟩
theorem aX5_page_126 : At kX5_page 126 (.ireturn) 1 127 := ⟨by decide +kernel, rfl⟩
theorem aX5_page_127 : At kX5_page 127 (.aload_n 0) 1 128 := ⟨by decide +kernel, rfl⟩
theorem aX5_page_128 : At kX5_page 128 (.getfield 12) 3 131 := ⟨by decide +kernel, rfl⟩
theorem aX5_page_131 : At kX5_page 131 (.getfield 132) 3 134 := ⟨by decide +kernel, rfl⟩
theorem aX5_page_134 : At kX5_page 134 (.iload_n 1) 1 135 := ⟨by decide +kernel, rfl⟩
theorem aX5_page_135 : At kX5_page 135 (.aaload) 1 136 := ⟨by decide +kernel, rfl⟩
theorem aX5_page_136 : At kX5_page 136 (.getfield 156) 3 139 := ⟨by decide +kernel, rfl⟩
theorem aX5_page_139 : At kX5_page 139 (.invokestatic 159) 3 142 := ⟨by decide +kernel, rfl⟩
theorem aX5_page_142 : At kX5_page 142 (.ireturn) 1 143 := ⟨by decide +kernel, rfl⟩
theorem aX5_page_143 : At kX5_page 143 (.aload_n 0) 1 144 := ⟨by decide +kernel, rfl⟩
theorem aX5_page_144 : At kX5_page 144 (.getfield 12) 3 147 := ⟨by decide +kernel, rfl⟩
theorem aX5_page_147 : At kX5_page 147 (.iload_n 1) 1 148 := ⟨by decide +kernel, rfl⟩
theorem aX5_page_148 : At kX5_page 148 (.invokevirtual 163) 3 151 := ⟨by decide +kernel, rfl⟩
theorem aX5_page_151 : At kX5_page 151 (.invokestatic 159) 3 154 := ⟨by decide +kernel, rfl⟩
theorem aX5_page_154 : At kX5_page 154 (.ireturn) 1 155 := ⟨by decide +kernel, rfl⟩
theorem aX5_page_155 : At kX5_page 155 (.aload_n 0) 1 156 := ⟨by decide +kernel, rfl⟩
theorem aX5_page_156 : At kX5_page 156 (.getfield 12) 3 159 := ⟨by decide +kernel, rfl⟩
theorem aX5_page_159 : At kX5_page 159 (.getfield 132) 3 162 := ⟨by decide +kernel, rfl⟩
theorem aX5_page_162 : At kX5_page 162 (.iload_n 1) 1 163 := ⟨by decide +kernel, rfl⟩
theorem aX5_page_163 : At kX5_page 163 (.aaload) 1 164 := ⟨by decide +kernel, rfl⟩
theorem aX5_page_164 : At kX5_page 164 (.getfield 136) 3 167 := ⟨by decide +kernel, rfl⟩
theorem aX5_page_167 : At kX5_page 167 (.invokestatic 166) 3 170 := ⟨by decide +kernel, rfl⟩
theorem aX5_page_170 : At kX5_page 170 (.ireturn) 1 171 := ⟨by decide +kernel, rfl⟩
theorem aX5_page_171 : At kX5_page 171 (.bipush (-2)) 2 173 := ⟨by decide +kernel, rfl⟩
theorem aX5_page_173 : At kX5_page 173 (.ireturn) 1 174 := ⟨by decide +kernel, rfl⟩
theorem aX5_stored_0 : At kX5_stored 0 (.iload_n 1) 1 1 := ⟨by decide +kernel, rfl⟩
theorem aX5_stored_1 : At kX5_stored 1 (.invokestatic 27) 3 4 := ⟨by decide +kernel, rfl⟩
theorem aX5_stored_4 : At kX5_stored 4 (.ifCond .eq 27) 3 7 := ⟨by decide +kernel, rfl⟩
theorem aX5_stored_7 : At kX5_stored 7 (.iload_n 2) 1 8 := ⟨by decide +kernel, rfl⟩
theorem aX5_stored_8 : At kX5_stored 8 (.invokestatic 31) 3 11 := ⟨by decide +kernel, rfl⟩
theorem aX5_stored_11 : At kX5_stored 11 (.ifCond .eq 20) 3 14 := ⟨by decide +kernel, rfl⟩
theorem aX5_stored_14 : At kX5_stored 14 (.aload_n 0) 1 15 := ⟨by decide +kernel, rfl⟩
theorem aX5_stored_15 : At kX5_stored 15 (.getfield 12) 3 18 := ⟨by decide +kernel, rfl⟩
theorem aX5_stored_18 : At kX5_stored 18 (.getfield 132) 3 21 := ⟨by decide +kernel, rfl⟩
theorem aX5_stored_21 : At kX5_stored 21 (.iload_n 1) 1 22 := ⟨by decide +kernel, rfl⟩
theorem aX5_stored_22 : At kX5_stored 22 (.aaload) 1 23 := ⟨by decide +kernel, rfl⟩
theorem aX5_stored_23 : At kX5_stored 23 (.getfield 170) 3 26 := ⟨by decide +kernel, rfl⟩
theorem aX5_stored_26 : At kX5_stored 26 (.iload_n 2) 1 27 := ⟨by decide +kernel, rfl⟩
theorem aX5_stored_27 : At kX5_stored 27 (.iaload) 1 28 := ⟨by decide +kernel, rfl⟩
theorem aX5_stored_28 : At kX5_stored 28 (.goto 4) 3 31 := ⟨by decide +kernel, rfl⟩
theorem aX5_stored_31 : At kX5_stored 31 (.iconst (-1)) 1 32 := ⟨by decide +kernel, rfl⟩
theorem aX5_stored_32 : At kX5_stored 32 (.ireturn) 1 33 := ⟨by decide +kernel, rfl⟩
theorem aX5_entry_0 : At kX5_entry 0 (.aload_n 0) 1 1 := ⟨by decide +kernel, rfl⟩
theorem aX5_entry_1 : At kX5_entry 1 (.getfield 12) 3 4 := ⟨by decide +kernel, rfl⟩
theorem aX5_entry_4 : At kX5_entry 4 (.getfield 58) 3 7 := ⟨by decide +kernel, rfl⟩
theorem aX5_entry_7 : At kX5_entry 7 (.iload_n 1) 1 8 := ⟨by decide +kernel, rfl⟩
theorem aX5_entry_8 : At kX5_entry 8 (.invokevirtual 173) 3 11 := ⟨by decide +kernel, rfl⟩
theorem aX5_entry_11 : At kX5_entry 11 (.astore_n 3) 1 12 := ⟨by decide +kernel, rfl⟩
theorem aX5_entry_12 : At kX5_entry 12 (.aload_n 3) 1 13 := ⟨by decide +kernel, rfl⟩
theorem aX5_entry_13 : At kX5_entry 13 (.ifnonnull 5) 3 16 := ⟨by decide +kernel, rfl⟩
theorem aX5_entry_16 : At kX5_entry 16 (.iconst (-1)) 1 17 := ⟨by decide +kernel, rfl⟩
theorem aX5_entry_17 : At kX5_entry 17 (.ireturn) 1 18 := ⟨by decide +kernel, rfl⟩
theorem aX5_entry_18 : At kX5_entry 18 (.iload_n 2) 1 19 := ⟨by decide +kernel, rfl⟩
theorem aX5_entry_19 : At kX5_entry 19 (.tableswitch 104 0 6 #[41, 46, 51, 56, 61, 73, 96]) 41 60 := ⟨by decide +kernel, rfl⟩
theorem aX5_entry_60 : At kX5_entry 60 (.aload_n 3) 1 61 := ⟨by decide +kernel, rfl⟩
theorem aX5_entry_61 : At kX5_entry 61 (.getfield 175) 3 64 := ⟨by decide +kernel, rfl⟩
theorem aX5_entry_64 : At kX5_entry 64 (.ireturn) 1 65 := ⟨by decide +kernel, rfl⟩
theorem aX5_entry_65 : At kX5_entry 65 (.aload_n 3) 1 66 := ⟨by decide +kernel, rfl⟩
theorem aX5_entry_66 : At kX5_entry 66 (.getfield 178) 3 69 := ⟨by decide +kernel, rfl⟩
theorem aX5_entry_69 : At kX5_entry 69 (.ireturn) 1 70 := ⟨by decide +kernel, rfl⟩
theorem aX5_entry_70 : At kX5_entry 70 (.aload_n 3) 1 71 := ⟨by decide +kernel, rfl⟩
theorem aX5_entry_71 : At kX5_entry 71 (.getfield 181) 3 74 := ⟨by decide +kernel, rfl⟩
theorem aX5_entry_74 : At kX5_entry 74 (.ireturn) 1 75 := ⟨by decide +kernel, rfl⟩
theorem aX5_entry_75 : At kX5_entry 75 (.aload_n 3) 1 76 := ⟨by decide +kernel, rfl⟩
theorem aX5_entry_76 : At kX5_entry 76 (.invokevirtual 184) 3 79 := ⟨by decide +kernel, rfl⟩
theorem aX5_entry_79 : At kX5_entry 79 (.ireturn) 1 80 := ⟨by decide +kernel, rfl⟩
theorem aX5_entry_80 : At kX5_entry 80 (.aload_n 0) 1 81 := ⟨by decide +kernel, rfl⟩
theorem aX5_entry_81 : At kX5_entry 81 (.getfield 12) 3 84 := ⟨by decide +kernel, rfl⟩
theorem aX5_entry_84 : At kX5_entry 84 (.iload_n 1) 1 85 := ⟨by decide +kernel, rfl⟩
theorem aX5_entry_85 : At kX5_entry 85 (.invokevirtual 187) 3 88 := ⟨by decide +kernel, rfl⟩
theorem aX5_entry_88 : At kX5_entry 88 (.invokestatic 159) 3 91 := ⟨by decide +kernel, rfl⟩
theorem aX5_entry_91 : At kX5_entry 91 (.ireturn) 1 92 := ⟨by decide +kernel, rfl⟩
theorem aX5_entry_92 : At kX5_entry 92 (.iload_n 1) 1 93 := ⟨by decide +kernel, rfl⟩
theorem aX5_entry_93 : At kX5_entry 93 (.aload_n 0) 1 94 := ⟨by decide +kernel, rfl⟩
theorem aX5_entry_94 : At kX5_entry 94 (.getfield 12) 3 97 := ⟨by decide +kernel, rfl⟩
theorem aX5_entry_97 : At kX5_entry 97 (.getfield 58) 3 100 := ⟨by decide +kernel, rfl⟩
theorem aX5_entry_100 : At kX5_entry 100 (.getfield 190) 3 103 := ⟨by decide +kernel, rfl⟩
theorem aX5_entry_103 : At kX5_entry 103 (.if_icmp .ge 7) 3 106 := ⟨by decide +kernel, rfl⟩
theorem aX5_entry_106 : At kX5_entry 106 (.iconst 1) 1 107 := ⟨by decide +kernel, rfl⟩
theorem aX5_entry_107 : At kX5_entry 107 (.goto 4) 3 110 := ⟨by decide +kernel, rfl⟩
theorem aX5_entry_110 : At kX5_entry 110 (.iconst 0) 1 111 := ⟨by decide +kernel, rfl⟩
theorem aX5_entry_111 : At kX5_entry 111 (.invokestatic 159) 3 114 := ⟨by decide +kernel, rfl⟩
theorem aX5_entry_114 : At kX5_entry 114 (.ireturn) 1 115 := ⟨by decide +kernel, rfl⟩
theorem aX5_entry_115 : At kX5_entry 115 (.aload_n 3) 1 116 := ⟨by decide +kernel, rfl⟩
theorem aX5_entry_116 : At kX5_entry 116 (.getfield 193) 3 119 := ⟨by decide +kernel, rfl⟩
theorem aX5_entry_119 : At kX5_entry 119 (.invokestatic 159) 3 122 := ⟨by decide +kernel, rfl⟩
theorem aX5_entry_122 : At kX5_entry 122 (.ireturn) 1 123 := ⟨by decide +kernel, rfl⟩
theorem aX5_entry_123 : At kX5_entry 123 (.bipush (-2)) 2 125 := ⟨by decide +kernel, rfl⟩
theorem aX5_entry_125 : At kX5_entry 125 (.ireturn) 1 126 := ⟨by decide +kernel, rfl⟩
theorem aX5_asOf_0 : At kX5_asOf 0 (.iload_n 1) 1 1 := ⟨by decide +kernel, rfl⟩
theorem aX5_asOf_1 : At kX5_asOf 1 (.invokestatic 27) 3 4 := ⟨by decide +kernel, rfl⟩
theorem aX5_asOf_4 : At kX5_asOf 4 (.ifCond .eq 24) 3 7 := ⟨by decide +kernel, rfl⟩
theorem aX5_asOf_7 : At kX5_asOf 7 (.aload_n 0) 1 8 := ⟨by decide +kernel, rfl⟩
theorem aX5_asOf_8 : At kX5_asOf 8 (.getfield 12) 3 11 := ⟨by decide +kernel, rfl⟩
theorem aX5_asOf_11 : At kX5_asOf 11 (.getfield 58) 3 14 := ⟨by decide +kernel, rfl⟩
theorem aX5_asOf_14 : At kX5_asOf 14 (.iload_n 2) 1 15 := ⟨by decide +kernel, rfl⟩
theorem aX5_asOf_15 : At kX5_asOf 15 (.invokevirtual 112) 3 18 := ⟨by decide +kernel, rfl⟩
theorem aX5_asOf_18 : At kX5_asOf 18 (.ifCond .eq 10) 3 21 := ⟨by decide +kernel, rfl⟩
theorem aX5_asOf_21 : At kX5_asOf 21 (.iload_n 3) 1 22 := ⟨by decide +kernel, rfl⟩
theorem aX5_asOf_22 : At kX5_asOf 22 (.invokestatic 31) 3 25 := ⟨by decide +kernel, rfl⟩
theorem aX5_asOf_25 : At kX5_asOf 25 (.ifCond .ne 5) 3 28 := ⟨by decide +kernel, rfl⟩
theorem aX5_asOf_28 : At kX5_asOf 28 (.iconst (-1)) 1 29 := ⟨by decide +kernel, rfl⟩
theorem aX5_asOf_29 : At kX5_asOf 29 (.ireturn) 1 30 := ⟨by decide +kernel, rfl⟩
theorem aX5_asOf_30 : At kX5_asOf 30 (.bipush 12) 2 32 := ⟨by decide +kernel, rfl⟩
theorem aX5_asOf_32 : At kX5_asOf 32 (.newarray .int) 2 34 := ⟨by decide +kernel, rfl⟩
theorem aX5_asOf_34 : At kX5_asOf 34 (.astore 4) 2 36 := ⟨by decide +kernel, rfl⟩
theorem aX5_asOf_36 : At kX5_asOf 36 (.aload_n 0) 1 37 := ⟨by decide +kernel, rfl⟩
theorem aX5_asOf_37 : At kX5_asOf 37 (.getfield 12) 3 40 := ⟨by decide +kernel, rfl⟩
theorem aX5_asOf_40 : At kX5_asOf 40 (.iload_n 1) 1 41 := ⟨by decide +kernel, rfl⟩
theorem aX5_asOf_41 : At kX5_asOf 41 (.iload_n 2) 1 42 := ⟨by decide +kernel, rfl⟩
theorem aX5_asOf_42 : At kX5_asOf 42 (.iconst 1) 1 43 := ⟨by decide +kernel, rfl⟩
theorem aX5_asOf_43 : At kX5_asOf 43 (.iadd) 1 44 := ⟨by decide +kernel, rfl⟩
theorem aX5_asOf_44 : At kX5_asOf 44 (.aload 4) 2 46 := ⟨by decide +kernel, rfl⟩
theorem aX5_asOf_46 : At kX5_asOf 46 (.invokevirtual 196) 3 49 := ⟨by decide +kernel, rfl⟩
theorem aX5_asOf_49 : At kX5_asOf 49 (.ifCond .eq 10) 3 52 := ⟨by decide +kernel, rfl⟩
theorem aX5_asOf_52 : At kX5_asOf 52 (.aload 4) 2 54 := ⟨by decide +kernel, rfl⟩
theorem aX5_asOf_54 : At kX5_asOf 54 (.iload_n 3) 1 55 := ⟨by decide +kernel, rfl⟩
theorem aX5_asOf_55 : At kX5_asOf 55 (.iaload) 1 56 := ⟨by decide +kernel, rfl⟩
theorem aX5_asOf_56 : At kX5_asOf 56 (.goto 5) 3 59 := ⟨by decide +kernel, rfl⟩
theorem aX5_asOf_59 : At kX5_asOf 59 (.bipush (-4)) 2 61 := ⟨by decide +kernel, rfl⟩
theorem aX5_asOf_61 : At kX5_asOf 61 (.ireturn) 1 62 := ⟨by decide +kernel, rfl⟩
theorem aX5_wouldLog_0 : At kX5_wouldLog 0 (.iload_n 1) 1 1 := ⟨by decide +kernel, rfl⟩
theorem aX5_wouldLog_1 : At kX5_wouldLog 1 (.invokestatic 27) 3 4 := ⟨by decide +kernel, rfl⟩
theorem aX5_wouldLog_4 : At kX5_wouldLog 4 (.ifCond .ne 5) 3 7 := ⟨by decide +kernel, rfl⟩
theorem aX5_wouldLog_7 : At kX5_wouldLog 7 (.iconst (-1)) 1 8 := ⟨by decide +kernel, rfl⟩
theorem aX5_wouldLog_8 : At kX5_wouldLog 8 (.ireturn) 1 9 := ⟨by decide +kernel, rfl⟩
theorem aX5_wouldLog_9 : At kX5_wouldLog 9 (.iload_n 2) 1 10 := ⟨by decide +kernel, rfl⟩
theorem aX5_wouldLog_10 : At kX5_wouldLog 10 (.invokestatic 34) 3 13 := ⟨by decide +kernel, rfl⟩
theorem aX5_wouldLog_13 : At kX5_wouldLog 13 (.ifCond .ne 6) 3 16 := ⟨by decide +kernel, rfl⟩
theorem aX5_wouldLog_16 : At kX5_wouldLog 16 (.bipush (-2)) 2 18 := ⟨by decide +kernel, rfl⟩
theorem aX5_wouldLog_18 : At kX5_wouldLog 18 (.ireturn) 1 19 := ⟨by decide +kernel, rfl⟩
theorem aX5_wouldLog_19 : At kX5_wouldLog 19 (.iload_n 1) 1 20 := ⟨by decide +kernel, rfl⟩
theorem aX5_wouldLog_20 : At kX5_wouldLog 20 (.iconst 1) 1 21 := ⟨by decide +kernel, rfl⟩
theorem aX5_wouldLog_21 : At kX5_wouldLog 21 (.iconst 0) 1 22 := ⟨by decide +kernel, rfl⟩
theorem aX5_wouldLog_22 : At kX5_wouldLog 22 (.bipush 11) 2 24 := ⟨by decide +kernel, rfl⟩
theorem aX5_wouldLog_24 : At kX5_wouldLog 24 (.iload_n 2) 1 25 := ⟨by decide +kernel, rfl⟩
theorem aX5_wouldLog_25 : At kX5_wouldLog 25 (.invokestatic 40) 3 28 := ⟨by decide +kernel, rfl⟩
theorem aX5_wouldLog_28 : At kX5_wouldLog 28 (.astore_n 3) 1 29 := ⟨by decide +kernel, rfl⟩
theorem aX5_wouldLog_29 : At kX5_wouldLog 29 (.aload_n 0) 1 30 := ⟨by decide +kernel, rfl⟩
theorem aX5_wouldLog_30 : At kX5_wouldLog 30 (.getfield 12) 3 33 := ⟨by decide +kernel, rfl⟩
theorem aX5_wouldLog_33 : At kX5_wouldLog 33 (.aload_n 3) 1 34 := ⟨by decide +kernel, rfl⟩
theorem aX5_wouldLog_34 : At kX5_wouldLog 34 (.aload_n 0) 1 35 := ⟨by decide +kernel, rfl⟩
theorem aX5_wouldLog_35 : At kX5_wouldLog 35 (.getfield 12) 3 38 := ⟨by decide +kernel, rfl⟩
theorem aX5_wouldLog_38 : At kX5_wouldLog 38 (.aload_n 3) 1 39 := ⟨by decide +kernel, rfl⟩
theorem aX5_wouldLog_39 : At kX5_wouldLog 39 (.invokevirtual 200) 3 42 := ⟨by decide +kernel, rfl⟩
theorem aX5_wouldLog_42 : At kX5_wouldLog 42 (.invokevirtual 204) 3 45 := ⟨by decide +kernel, rfl⟩
theorem aX5_wouldLog_45 : At kX5_wouldLog 45 (.ifCond .eq 7) 3 48 := ⟨by decide +kernel, rfl⟩
theorem aX5_wouldLog_48 : At kX5_wouldLog 48 (.iconst 0) 1 49 := ⟨by decide +kernel, rfl⟩
theorem aX5_wouldLog_49 : At kX5_wouldLog 49 (.goto 4) 3 52 := ⟨by decide +kernel, rfl⟩
theorem aX5_wouldLog_52 : At kX5_wouldLog 52 (.iconst 1) 1 53 := ⟨by decide +kernel, rfl⟩
theorem aX5_wouldLog_53 : At kX5_wouldLog 53 (.ireturn) 1 54 := ⟨by decide +kernel, rfl⟩
theorem aX5_bestRenewed_0 : At kX5_bestRenewed 0 (.bipush (-5)) 2 2 := ⟨by decide +kernel, rfl⟩
theorem aX5_bestRenewed_2 : At kX5_bestRenewed 2 (.istore_n 1) 1 3 := ⟨by decide +kernel, rfl⟩
theorem aX5_bestRenewed_3 : At kX5_bestRenewed 3 (.iconst 0) 1 4 := ⟨by decide +kernel, rfl⟩
theorem aX5_bestRenewed_4 : At kX5_bestRenewed 4 (.istore_n 2) 1 5 := ⟨by decide +kernel, rfl⟩
theorem aX5_bestRenewed_5 : At kX5_bestRenewed 5 (.iconst 0) 1 6 := ⟨by decide +kernel, rfl⟩
theorem aX5_bestRenewed_6 : At kX5_bestRenewed 6 (.istore_n 3) 1 7 := ⟨by decide +kernel, rfl⟩
theorem aX5_bestRenewed_7 : At kX5_bestRenewed 7 (.iload_n 3) 1 8 := ⟨by decide +kernel, rfl⟩
theorem aX5_bestRenewed_8 : At kX5_bestRenewed 8 (.bipush 6) 2 10 := ⟨by decide +kernel, rfl⟩
theorem aX5_bestRenewed_10 : At kX5_bestRenewed 10 (.if_icmp .ge 46) 3 13 := ⟨by decide +kernel, rfl⟩
theorem aX5_bestRenewed_13 : At kX5_bestRenewed 13 (.aload_n 0) 1 14 := ⟨by decide +kernel, rfl⟩
theorem aX5_bestRenewed_14 : At kX5_bestRenewed 14 (.getfield 12) 3 17 := ⟨by decide +kernel, rfl⟩
theorem aX5_bestRenewed_17 : At kX5_bestRenewed 17 (.iload_n 3) 1 18 := ⟨by decide +kernel, rfl⟩
theorem aX5_bestRenewed_18 : At kX5_bestRenewed 18 (.invokevirtual 146) 3 21 := ⟨by decide +kernel, rfl⟩
theorem aX5_bestRenewed_21 : At kX5_bestRenewed 21 (.aload_n 0) 1 22 := ⟨by decide +kernel, rfl⟩
theorem aX5_bestRenewed_22 : At kX5_bestRenewed 22 (.getfield 12) 3 25 := ⟨by decide +kernel, rfl⟩
theorem aX5_bestRenewed_25 : At kX5_bestRenewed 25 (.getfield 132) 3 28 := ⟨by decide +kernel, rfl⟩
theorem aX5_bestRenewed_28 : At kX5_bestRenewed 28 (.iload_n 3) 1 29 := ⟨by decide +kernel, rfl⟩
theorem aX5_bestRenewed_29 : At kX5_bestRenewed 29 (.aaload) 1 30 := ⟨by decide +kernel, rfl⟩
theorem aX5_bestRenewed_30 : At kX5_bestRenewed 30 (.getfield 136) 3 33 := ⟨by decide +kernel, rfl⟩
theorem aX5_bestRenewed_33 : At kX5_bestRenewed 33 (.invokestatic 166) 3 36 := ⟨by decide +kernel, rfl⟩
theorem aX5_bestRenewed_36 : At kX5_bestRenewed 36 (.isub) 1 37 := ⟨by decide +kernel, rfl⟩
theorem aX5_bestRenewed_37 : At kX5_bestRenewed 37 (.istore 4) 2 39 := ⟨by decide +kernel, rfl⟩
theorem aX5_bestRenewed_39 : At kX5_bestRenewed 39 (.iload 4) 2 41 := ⟨by decide +kernel, rfl⟩
theorem aX5_bestRenewed_41 : At kX5_bestRenewed 41 (.iload_n 2) 1 42 := ⟨by decide +kernel, rfl⟩
theorem aX5_bestRenewed_42 : At kX5_bestRenewed 42 (.if_icmp .le 8) 3 45 := ⟨by decide +kernel, rfl⟩
theorem aX5_bestRenewed_45 : At kX5_bestRenewed 45 (.iload 4) 2 47 := ⟨by decide +kernel, rfl⟩
theorem aX5_bestRenewed_47 : At kX5_bestRenewed 47 (.istore_n 2) 1 48 := ⟨by decide +kernel, rfl⟩
theorem aX5_bestRenewed_48 : At kX5_bestRenewed 48 (.iload_n 3) 1 49 := ⟨by decide +kernel, rfl⟩
theorem aX5_bestRenewed_49 : At kX5_bestRenewed 49 (.istore_n 1) 1 50 := ⟨by decide +kernel, rfl⟩
theorem aX5_bestRenewed_50 : At kX5_bestRenewed 50 (.iinc 3 1) 3 53 := ⟨by decide +kernel, rfl⟩
theorem aX5_bestRenewed_53 : At kX5_bestRenewed 53 (.goto (-46)) 3 56 := ⟨by decide +kernel, rfl⟩
theorem aX5_bestRenewed_56 : At kX5_bestRenewed 56 (.iload_n 1) 1 57 := ⟨by decide +kernel, rfl⟩
theorem aX5_bestRenewed_57 : At kX5_bestRenewed 57 (.ireturn) 1 58 := ⟨by decide +kernel, rfl⟩
theorem aX5_count_0 : At kX5_count 0 (.iload_n 1) 1 1 := ⟨by decide +kernel, rfl⟩
theorem aX5_count_1 : At kX5_count 1 (.tableswitch 203 0 13 #[71, 82, 93, 104, 115, 123, 131, 153, 161, 169, 177, 185, 193, 198]) 71 72 := ⟨by decide +kernel, rfl⟩
theorem aX5_count_72 : At kX5_count 72 (.aload_n 0) 1 73 := ⟨by decide +kernel, rfl⟩
theorem aX5_count_73 : At kX5_count 73 (.getfield 12) 3 76 := ⟨by decide +kernel, rfl⟩
theorem aX5_count_76 : At kX5_count 76 (.getfield 58) 3 79 := ⟨by decide +kernel, rfl⟩
theorem aX5_count_79 : At kX5_count 79 (.invokevirtual 62) 3 82 := ⟨by decide +kernel, rfl⟩
theorem aX5_count_82 : At kX5_count 82 (.ireturn) 1 83 := ⟨by decide +kernel, rfl⟩
theorem aX5_count_83 : At kX5_count 83 (.aload_n 0) 1 84 := ⟨by decide +kernel, rfl⟩
theorem aX5_count_84 : At kX5_count 84 (.getfield 12) 3 87 := ⟨by decide +kernel, rfl⟩
theorem aX5_count_87 : At kX5_count 87 (.getfield 58) 3 90 := ⟨by decide +kernel, rfl⟩
theorem aX5_count_90 : At kX5_count 90 (.getfield 208) 3 93 := ⟨by decide +kernel, rfl⟩
theorem aX5_count_93 : At kX5_count 93 (.ireturn) 1 94 := ⟨by decide +kernel, rfl⟩
theorem aX5_count_94 : At kX5_count 94 (.aload_n 0) 1 95 := ⟨by decide +kernel, rfl⟩
theorem aX5_count_95 : At kX5_count 95 (.getfield 12) 3 98 := ⟨by decide +kernel, rfl⟩
theorem aX5_count_98 : At kX5_count 98 (.getfield 58) 3 101 := ⟨by decide +kernel, rfl⟩
theorem aX5_count_101 : At kX5_count 101 (.invokevirtual 211) 3 104 := ⟨by decide +kernel, rfl⟩
theorem aX5_count_104 : At kX5_count 104 (.ireturn) 1 105 := ⟨by decide +kernel, rfl⟩
theorem aX5_count_105 : At kX5_count 105 (.aload_n 0) 1 106 := ⟨by decide +kernel, rfl⟩
theorem aX5_count_106 : At kX5_count 106 (.getfield 12) 3 109 := ⟨by decide +kernel, rfl⟩
theorem aX5_count_109 : At kX5_count 109 (.getfield 58) 3 112 := ⟨by decide +kernel, rfl⟩
theorem aX5_count_112 : At kX5_count 112 (.getfield 214) 3 115 := ⟨by decide +kernel, rfl⟩
theorem aX5_count_115 : At kX5_count 115 (.ireturn) 1 116 := ⟨by decide +kernel, rfl⟩
theorem aX5_count_116 : At kX5_count 116 (.aload_n 0) 1 117 := ⟨by decide +kernel, rfl⟩
theorem aX5_count_117 : At kX5_count 117 (.getfield 12) 3 120 := ⟨by decide +kernel, rfl⟩
theorem aX5_count_120 : At kX5_count 120 (.getfield 217) 3 123 := ⟨by decide +kernel, rfl⟩
theorem aX5_count_123 : At kX5_count 123 (.ireturn) 1 124 := ⟨by decide +kernel, rfl⟩
theorem aX5_count_124 : At kX5_count 124 (.aload_n 0) 1 125 := ⟨by decide +kernel, rfl⟩
theorem aX5_count_125 : At kX5_count 125 (.getfield 12) 3 128 := ⟨by decide +kernel, rfl⟩
theorem aX5_count_128 : At kX5_count 128 (.invokevirtual 220) 3 131 := ⟨by decide +kernel, rfl⟩
theorem aX5_count_131 : At kX5_count 131 (.ireturn) 1 132 := ⟨by decide +kernel, rfl⟩
theorem aX5_count_132 : At kX5_count 132 (.aload_n 0) 1 133 := ⟨by decide +kernel, rfl⟩
theorem aX5_count_133 : At kX5_count 133 (.getfield 12) 3 136 := ⟨by decide +kernel, rfl⟩
theorem aX5_count_136 : At kX5_count 136 (.getfield 58) 3 139 := ⟨by decide +kernel, rfl⟩
theorem aX5_count_139 : At kX5_count 139 (.invokevirtual 62) 3 142 := ⟨by decide +kernel, rfl⟩
theorem aX5_count_142 : At kX5_count 142 (.aload_n 0) 1 143 := ⟨by decide +kernel, rfl⟩
theorem aX5_count_143 : At kX5_count 143 (.getfield 12) 3 146 := ⟨by decide +kernel, rfl⟩
theorem aX5_count_146 : At kX5_count 146 (.getfield 58) 3 149 := ⟨by decide +kernel, rfl⟩
theorem aX5_count_149 : At kX5_count 149 (.getfield 190) 3 152 := ⟨by decide +kernel, rfl⟩
theorem aX5_count_152 : At kX5_count 152 (.isub) 1 153 := ⟨by decide +kernel, rfl⟩
theorem aX5_count_153 : At kX5_count 153 (.ireturn) 1 154 := ⟨by decide +kernel, rfl⟩
theorem aX5_count_154 : At kX5_count 154 (.aload_n 0) 1 155 := ⟨by decide +kernel, rfl⟩
theorem aX5_count_155 : At kX5_count 155 (.getfield 12) 3 158 := ⟨by decide +kernel, rfl⟩
theorem aX5_count_158 : At kX5_count 158 (.invokevirtual 223) 3 161 := ⟨by decide +kernel, rfl⟩
theorem aX5_count_161 : At kX5_count 161 (.ireturn) 1 162 := ⟨by decide +kernel, rfl⟩
theorem aX5_count_162 : At kX5_count 162 (.aload_n 0) 1 163 := ⟨by decide +kernel, rfl⟩
theorem aX5_count_163 : At kX5_count 163 (.getfield 12) 3 166 := ⟨by decide +kernel, rfl⟩
theorem aX5_count_166 : At kX5_count 166 (.invokevirtual 226) 3 169 := ⟨by decide +kernel, rfl⟩
theorem aX5_count_169 : At kX5_count 169 (.ireturn) 1 170 := ⟨by decide +kernel, rfl⟩
theorem aX5_count_170 : At kX5_count 170 (.aload_n 0) 1 171 := ⟨by decide +kernel, rfl⟩
theorem aX5_count_171 : At kX5_count 171 (.getfield 12) 3 174 := ⟨by decide +kernel, rfl⟩
theorem aX5_count_174 : At kX5_count 174 (.getfield 88) 3 177 := ⟨by decide +kernel, rfl⟩
theorem aX5_count_177 : At kX5_count 177 (.ireturn) 1 178 := ⟨by decide +kernel, rfl⟩
theorem aX5_count_178 : At kX5_count 178 (.aload_n 0) 1 179 := ⟨by decide +kernel, rfl⟩
theorem aX5_count_179 : At kX5_count 179 (.getfield 12) 3 182 := ⟨by decide +kernel, rfl⟩
theorem aX5_count_182 : At kX5_count 182 (.getfield 229) 3 185 := ⟨by decide +kernel, rfl⟩
theorem aX5_count_185 : At kX5_count 185 (.ireturn) 1 186 := ⟨by decide +kernel, rfl⟩
theorem aX5_count_186 : At kX5_count 186 (.aload_n 0) 1 187 := ⟨by decide +kernel, rfl⟩
theorem aX5_count_187 : At kX5_count 187 (.getfield 12) 3 190 := ⟨by decide +kernel, rfl⟩
theorem aX5_count_190 : At kX5_count 190 (.getfield 232) 3 193 := ⟨by decide +kernel, rfl⟩
theorem aX5_count_193 : At kX5_count 193 (.ireturn) 1 194 := ⟨by decide +kernel, rfl⟩
theorem aX5_count_194 : At kX5_count 194 (.aload_n 0) 1 195 := ⟨by decide +kernel, rfl⟩
theorem aX5_count_195 : At kX5_count 195 (.getfield 121) 3 198 := ⟨by decide +kernel, rfl⟩
theorem aX5_count_198 : At kX5_count 198 (.ireturn) 1 199 := ⟨by decide +kernel, rfl⟩
theorem aX5_count_199 : At kX5_count 199 (.aload_n 0) 1 200 := ⟨by decide +kernel, rfl⟩
theorem aX5_count_200 : At kX5_count 200 (.getfield 74) 3 203 := ⟨by decide +kernel, rfl⟩
theorem aX5_count_203 : At kX5_count 203 (.ireturn) 1 204 := ⟨by decide +kernel, rfl⟩
theorem aX5_count_204 : At kX5_count 204 (.bipush (-2)) 2 206 := ⟨by decide +kernel, rfl⟩
theorem aX5_count_206 : At kX5_count 206 (.ireturn) 1 207 := ⟨by decide +kernel, rfl⟩
theorem aX5_isPage_0 : At kX5_isPage 0 (.iload_n 0) 1 1 := ⟨by decide +kernel, rfl⟩
theorem aX5_isPage_1 : At kX5_isPage 1 (.ifCond .lt 13) 3 4 := ⟨by decide +kernel, rfl⟩
theorem aX5_isPage_4 : At kX5_isPage 4 (.iload_n 0) 1 5 := ⟨by decide +kernel, rfl⟩
theorem aX5_isPage_5 : At kX5_isPage 5 (.bipush 6) 2 7 := ⟨by decide +kernel, rfl⟩
theorem aX5_isPage_7 : At kX5_isPage 7 (.if_icmp .ge 7) 3 10 := ⟨by decide +kernel, rfl⟩
theorem aX5_isPage_10 : At kX5_isPage 10 (.iconst 1) 1 11 := ⟨by decide +kernel, rfl⟩
theorem aX5_isPage_11 : At kX5_isPage 11 (.goto 4) 3 14 := ⟨by decide +kernel, rfl⟩
theorem aX5_isPage_14 : At kX5_isPage 14 (.iconst 0) 1 15 := ⟨by decide +kernel, rfl⟩
theorem aX5_isPage_15 : At kX5_isPage 15 (.ireturn) 1 16 := ⟨by decide +kernel, rfl⟩
theorem aX5_isCell_0 : At kX5_isCell 0 (.iload_n 0) 1 1 := ⟨by decide +kernel, rfl⟩
theorem aX5_isCell_1 : At kX5_isCell 1 (.ifCond .lt 13) 3 4 := ⟨by decide +kernel, rfl⟩
theorem aX5_isCell_4 : At kX5_isCell 4 (.iload_n 0) 1 5 := ⟨by decide +kernel, rfl⟩
theorem aX5_isCell_5 : At kX5_isCell 5 (.bipush 12) 2 7 := ⟨by decide +kernel, rfl⟩
theorem aX5_isCell_7 : At kX5_isCell 7 (.if_icmp .ge 7) 3 10 := ⟨by decide +kernel, rfl⟩
theorem aX5_isCell_10 : At kX5_isCell 10 (.iconst 1) 1 11 := ⟨by decide +kernel, rfl⟩
theorem aX5_isCell_11 : At kX5_isCell 11 (.goto 4) 3 14 := ⟨by decide +kernel, rfl⟩
theorem aX5_isCell_14 : At kX5_isCell 14 (.iconst 0) 1 15 := ⟨by decide +kernel, rfl⟩
theorem aX5_isCell_15 : At kX5_isCell 15 (.ireturn) 1 16 := ⟨by decide +kernel, rfl⟩
theorem aX5_isValue_0 : At kX5_isValue 0 (.iload_n 0) 1 1 := ⟨by decide +kernel, rfl⟩
theorem aX5_isValue_1 : At kX5_isValue 1 (.ifCond .lt 13) 3 4 := ⟨by decide +kernel, rfl⟩
theorem aX5_isValue_4 : At kX5_isValue 4 (.iload_n 0) 1 5 := ⟨by decide +kernel, rfl⟩
theorem aX5_isValue_5 : At kX5_isValue 5 (.bipush 10) 2 7 := ⟨by decide +kernel, rfl⟩
theorem aX5_isValue_7 : At kX5_isValue 7 (.if_icmp .ge 7) 3 10 := ⟨by decide +kernel, rfl⟩
theorem aX5_isValue_10 : At kX5_isValue 10 (.iconst 1) 1 11 := ⟨by decide +kernel, rfl⟩
theorem aX5_isValue_11 : At kX5_isValue 11 (.goto 4) 3 14 := ⟨by decide +kernel, rfl⟩
theorem aX5_isValue_14 : At kX5_isValue 14 (.iconst 0) 1 15 := ⟨by decide +kernel, rfl⟩
theorem aX5_isValue_15 : At kX5_isValue 15 (.ireturn) 1 16 := ⟨by decide +kernel, rfl⟩
theorem aX5_asNumber_0 : At kX5_asNumber 0 (.iload_n 0) 1 1 := ⟨by decide +kernel, rfl⟩
theorem aX5_asNumber_1 : At kX5_asNumber 1 (.ifCond .eq 7) 3 4 := ⟨by decide +kernel, rfl⟩
theorem aX5_asNumber_4 : At kX5_asNumber 4 (.iconst 1) 1 5 := ⟨by decide +kernel, rfl⟩
theorem aX5_asNumber_5 : At kX5_asNumber 5 (.goto 4) 3 8 := ⟨by decide +kernel, rfl⟩
theorem aX5_asNumber_8 : At kX5_asNumber 8 (.iconst 0) 1 9 := ⟨by decide +kernel, rfl⟩
theorem aX5_asNumber_9 : At kX5_asNumber 9 (.ireturn) 1 10 := ⟨by decide +kernel, rfl⟩
theorem aX5_begin_0 : At kX5_begin 0 (.aload_n 0) 1 1 := ⟨by decide +kernel, rfl⟩
theorem aX5_begin_1 : At kX5_begin 1 (.getfield 16) 3 4 := ⟨by decide +kernel, rfl⟩
theorem aX5_begin_4 : At kX5_begin 4 (.aload_n 0) 1 5 := ⟨by decide +kernel, rfl⟩
theorem aX5_begin_5 : At kX5_begin 5 (.getfield 121) 3 8 := ⟨by decide +kernel, rfl⟩
theorem aX5_begin_8 : At kX5_begin 8 (.aaload) 1 9 := ⟨by decide +kernel, rfl⟩
theorem aX5_begin_9 : At kX5_begin 9 (.aload_n 0) 1 10 := ⟨by decide +kernel, rfl⟩
theorem aX5_begin_10 : At kX5_begin 10 (.getfield 12) 3 13 := ⟨by decide +kernel, rfl⟩
theorem aX5_begin_13 : At kX5_begin 13 (.invokevirtual 124) 3 16 := ⟨by decide +kernel, rfl⟩
theorem aX5_begin_16 : At kX5_begin 16 (.return_) 1 17 := ⟨by decide +kernel, rfl⟩
theorem aX5_end_0 : At kX5_end 0 (.iload_n 1) 1 1 := ⟨by decide +kernel, rfl⟩
theorem aX5_end_1 : At kX5_end 1 (.ifCond .ge 22) 3 4 := ⟨by decide +kernel, rfl⟩
theorem aX5_end_4 : At kX5_end 4 (.aload_n 0) 1 5 := ⟨by decide +kernel, rfl⟩
theorem aX5_end_5 : At kX5_end 5 (.getfield 12) 3 8 := ⟨by decide +kernel, rfl⟩
theorem aX5_end_8 : At kX5_end 8 (.aload_n 0) 1 9 := ⟨by decide +kernel, rfl⟩
theorem aX5_end_9 : At kX5_end 9 (.getfield 16) 3 12 := ⟨by decide +kernel, rfl⟩
theorem aX5_end_12 : At kX5_end 12 (.aload_n 0) 1 13 := ⟨by decide +kernel, rfl⟩
theorem aX5_end_13 : At kX5_end 13 (.getfield 121) 3 16 := ⟨by decide +kernel, rfl⟩
theorem aX5_end_16 : At kX5_end 16 (.aaload) 1 17 := ⟨by decide +kernel, rfl⟩
theorem aX5_end_17 : At kX5_end 17 (.invokevirtual 124) 3 20 := ⟨by decide +kernel, rfl⟩
theorem aX5_end_20 : At kX5_end 20 (.goto 28) 3 23 := ⟨by decide +kernel, rfl⟩
theorem aX5_end_23 : At kX5_end 23 (.aload_n 0) 1 24 := ⟨by decide +kernel, rfl⟩
theorem aX5_end_24 : At kX5_end 24 (.getfield 121) 3 27 := ⟨by decide +kernel, rfl⟩
theorem aX5_end_27 : At kX5_end 27 (.iconst 4) 1 28 := ⟨by decide +kernel, rfl⟩
theorem aX5_end_28 : At kX5_end 28 (.if_icmp .ge 16) 3 31 := ⟨by decide +kernel, rfl⟩
theorem aX5_end_31 : At kX5_end 31 (.aload_n 0) 1 32 := ⟨by decide +kernel, rfl⟩
theorem aX5_end_32 : At kX5_end 32 (.dup) 1 33 := ⟨by decide +kernel, rfl⟩
theorem aX5_end_33 : At kX5_end 33 (.getfield 121) 3 36 := ⟨by decide +kernel, rfl⟩
theorem aX5_end_36 : At kX5_end 36 (.iconst 1) 1 37 := ⟨by decide +kernel, rfl⟩
theorem aX5_end_37 : At kX5_end 37 (.iadd) 1 38 := ⟨by decide +kernel, rfl⟩
theorem aX5_end_38 : At kX5_end 38 (.putfield 121) 3 41 := ⟨by decide +kernel, rfl⟩
theorem aX5_end_41 : At kX5_end 41 (.goto 7) 3 44 := ⟨by decide +kernel, rfl⟩
theorem aX5_end_44 : At kX5_end 44 (.aload_n 0) 1 45 := ⟨by decide +kernel, rfl⟩
theorem aX5_end_45 : At kX5_end 45 (.invokevirtual 235) 3 48 := ⟨by decide +kernel, rfl⟩
theorem aX5_end_48 : At kX5_end 48 (.iload_n 1) 1 49 := ⟨by decide +kernel, rfl⟩
theorem aX5_end_49 : At kX5_end 49 (.ireturn) 1 50 := ⟨by decide +kernel, rfl⟩
theorem aX5_forgetOldest_0 : At kX5_forgetOldest 0 (.aload_n 0) 1 1 := ⟨by decide +kernel, rfl⟩
theorem aX5_forgetOldest_1 : At kX5_forgetOldest 1 (.getfield 16) 3 4 := ⟨by decide +kernel, rfl⟩
theorem aX5_forgetOldest_4 : At kX5_forgetOldest 4 (.iconst 0) 1 5 := ⟨by decide +kernel, rfl⟩
theorem aX5_forgetOldest_5 : At kX5_forgetOldest 5 (.aaload) 1 6 := ⟨by decide +kernel, rfl⟩
theorem aX5_forgetOldest_6 : At kX5_forgetOldest 6 (.astore_n 1) 1 7 := ⟨by decide +kernel, rfl⟩
theorem aX5_forgetOldest_7 : At kX5_forgetOldest 7 (.iconst 1) 1 8 := ⟨by decide +kernel, rfl⟩
theorem aX5_forgetOldest_8 : At kX5_forgetOldest 8 (.istore_n 2) 1 9 := ⟨by decide +kernel, rfl⟩
theorem aX5_forgetOldest_9 : At kX5_forgetOldest 9 (.iload_n 2) 1 10 := ⟨by decide +kernel, rfl⟩
theorem aX5_forgetOldest_10 : At kX5_forgetOldest 10 (.aload_n 0) 1 11 := ⟨by decide +kernel, rfl⟩
theorem aX5_forgetOldest_11 : At kX5_forgetOldest 11 (.getfield 16) 3 14 := ⟨by decide +kernel, rfl⟩
theorem aX5_forgetOldest_14 : At kX5_forgetOldest 14 (.arraylength) 1 15 := ⟨by decide +kernel, rfl⟩
theorem aX5_forgetOldest_15 : At kX5_forgetOldest 15 (.if_icmp .ge 23) 3 18 := ⟨by decide +kernel, rfl⟩
theorem aX5_forgetOldest_18 : At kX5_forgetOldest 18 (.aload_n 0) 1 19 := ⟨by decide +kernel, rfl⟩
theorem aX5_forgetOldest_19 : At kX5_forgetOldest 19 (.getfield 16) 3 22 := ⟨by decide +kernel, rfl⟩
theorem aX5_forgetOldest_22 : At kX5_forgetOldest 22 (.iload_n 2) 1 23 := ⟨by decide +kernel, rfl⟩
theorem aX5_forgetOldest_23 : At kX5_forgetOldest 23 (.iconst 1) 1 24 := ⟨by decide +kernel, rfl⟩
theorem aX5_forgetOldest_24 : At kX5_forgetOldest 24 (.isub) 1 25 := ⟨by decide +kernel, rfl⟩
theorem aX5_forgetOldest_25 : At kX5_forgetOldest 25 (.aload_n 0) 1 26 := ⟨by decide +kernel, rfl⟩
theorem aX5_forgetOldest_26 : At kX5_forgetOldest 26 (.getfield 16) 3 29 := ⟨by decide +kernel, rfl⟩
theorem aX5_forgetOldest_29 : At kX5_forgetOldest 29 (.iload_n 2) 1 30 := ⟨by decide +kernel, rfl⟩
theorem aX5_forgetOldest_30 : At kX5_forgetOldest 30 (.aaload) 1 31 := ⟨by decide +kernel, rfl⟩
theorem aX5_forgetOldest_31 : At kX5_forgetOldest 31 (.aastore) 1 32 := ⟨by decide +kernel, rfl⟩
theorem aX5_forgetOldest_32 : At kX5_forgetOldest 32 (.iinc 2 1) 3 35 := ⟨by decide +kernel, rfl⟩
theorem aX5_forgetOldest_35 : At kX5_forgetOldest 35 (.goto (-26)) 3 38 := ⟨by decide +kernel, rfl⟩
theorem aX5_forgetOldest_38 : At kX5_forgetOldest 38 (.aload_n 0) 1 39 := ⟨by decide +kernel, rfl⟩
theorem aX5_forgetOldest_39 : At kX5_forgetOldest 39 (.getfield 16) 3 42 := ⟨by decide +kernel, rfl⟩
theorem aX5_forgetOldest_42 : At kX5_forgetOldest 42 (.aload_n 0) 1 43 := ⟨by decide +kernel, rfl⟩
theorem aX5_forgetOldest_43 : At kX5_forgetOldest 43 (.getfield 16) 3 46 := ⟨by decide +kernel, rfl⟩
theorem aX5_forgetOldest_46 : At kX5_forgetOldest 46 (.arraylength) 1 47 := ⟨by decide +kernel, rfl⟩
theorem aX5_forgetOldest_47 : At kX5_forgetOldest 47 (.iconst 1) 1 48 := ⟨by decide +kernel, rfl⟩
theorem aX5_forgetOldest_48 : At kX5_forgetOldest 48 (.isub) 1 49 := ⟨by decide +kernel, rfl⟩
theorem aX5_forgetOldest_49 : At kX5_forgetOldest 49 (.aload_n 1) 1 50 := ⟨by decide +kernel, rfl⟩
theorem aX5_forgetOldest_50 : At kX5_forgetOldest 50 (.aastore) 1 51 := ⟨by decide +kernel, rfl⟩
theorem aX5_forgetOldest_51 : At kX5_forgetOldest 51 (.return_) 1 52 := ⟨by decide +kernel, rfl⟩
theorem aX6_init_0 : At kX6_init 0 (.aload_n 0) 1 1 := ⟨by decide +kernel, rfl⟩
theorem aX6_init_1 : At kX6_init 1 (.invokespecial 1) 3 4 := ⟨by decide +kernel, rfl⟩
theorem aX6_init_4 : At kX6_init 4 (.aload_n 0) 1 5 := ⟨by decide +kernel, rfl⟩
theorem aX6_init_5 : At kX6_init 5 (.sipush 1870) 3 8 := ⟨by decide +kernel, rfl⟩
theorem aX6_init_8 : At kX6_init 8 (.newarray .int) 2 10 := ⟨by decide +kernel, rfl⟩
theorem aX6_init_10 : At kX6_init 10 (.putfield 7) 3 13 := ⟨by decide +kernel, rfl⟩
theorem aX6_init_13 : At kX6_init 13 (.aload_n 0) 1 14 := ⟨by decide +kernel, rfl⟩
theorem aX6_init_14 : At kX6_init 14 (.sipush 1870) 3 17 := ⟨by decide +kernel, rfl⟩
theorem aX6_init_17 : At kX6_init 17 (.newarray .int) 2 19 := ⟨by decide +kernel, rfl⟩
theorem aX6_init_19 : At kX6_init 19 (.putfield 13) 3 22 := ⟨by decide +kernel, rfl⟩
theorem aX6_init_22 : At kX6_init 22 (.aload_n 0) 1 23 := ⟨by decide +kernel, rfl⟩
theorem aX6_init_23 : At kX6_init 23 (.sipush 7480) 3 26 := ⟨by decide +kernel, rfl⟩
theorem aX6_init_26 : At kX6_init 26 (.newarray .int) 2 28 := ⟨by decide +kernel, rfl⟩
theorem aX6_init_28 : At kX6_init 28 (.putfield 16) 3 31 := ⟨by decide +kernel, rfl⟩
theorem aX6_init_31 : At kX6_init 31 (.aload_n 0) 1 32 := ⟨by decide +kernel, rfl⟩
theorem aX6_init_32 : At kX6_init 32 (.sipush 1870) 3 35 := ⟨by decide +kernel, rfl⟩
theorem aX6_init_35 : At kX6_init 35 (.newarray .int) 2 37 := ⟨by decide +kernel, rfl⟩
theorem aX6_init_37 : At kX6_init 37 (.putfield 19) 3 40 := ⟨by decide +kernel, rfl⟩
theorem aX6_init_40 : At kX6_init 40 (.aload_n 0) 1 41 := ⟨by decide +kernel, rfl⟩
theorem aX6_init_41 : At kX6_init 41 (.bipush 60) 2 43 := ⟨by decide +kernel, rfl⟩
theorem aX6_init_43 : At kX6_init 43 (.newarray .char) 2 45 := ⟨by decide +kernel, rfl⟩
theorem aX6_init_45 : At kX6_init 45 (.putfield 22) 3 48 := ⟨by decide +kernel, rfl⟩
theorem aX6_init_48 : At kX6_init 48 (.aload_n 0) 1 49 := ⟨by decide +kernel, rfl⟩
theorem aX6_init_49 : At kX6_init 49 (.bipush 12) 2 51 := ⟨by decide +kernel, rfl⟩
theorem aX6_init_51 : At kX6_init 51 (.newarray .int) 2 53 := ⟨by decide +kernel, rfl⟩
theorem aX6_init_53 : At kX6_init 53 (.putfield 26) 3 56 := ⟨by decide +kernel, rfl⟩
theorem aX6_init_56 : At kX6_init 56 (.aload_n 0) 1 57 := ⟨by decide +kernel, rfl⟩
theorem aX6_init_57 : At kX6_init 57 (.bipush 12) 2 59 := ⟨by decide +kernel, rfl⟩
theorem aX6_init_59 : At kX6_init 59 (.newarray .int) 2 61 := ⟨by decide +kernel, rfl⟩
theorem aX6_init_61 : At kX6_init 61 (.putfield 29) 3 64 := ⟨by decide +kernel, rfl⟩
theorem aX6_init_64 : At kX6_init 64 (.aload_n 0) 1 65 := ⟨by decide +kernel, rfl⟩
theorem aX6_init_65 : At kX6_init 65 (.bipush 17) 2 67 := ⟨by decide +kernel, rfl⟩
theorem aX6_init_67 : At kX6_init 67 (.newarray .int) 2 69 := ⟨by decide +kernel, rfl⟩
theorem aX6_init_69 : At kX6_init 69 (.putfield 32) 3 72 := ⟨by decide +kernel, rfl⟩
theorem aX6_init_72 : At kX6_init 72 (.aload_n 0) 1 73 := ⟨by decide +kernel, rfl⟩
theorem aX6_init_73 : At kX6_init 73 (.getfield 7) 3 76 := ⟨by decide +kernel, rfl⟩
theorem aX6_init_76 : At kX6_init 76 (.iconst 0) 1 77 := ⟨by decide +kernel, rfl⟩
theorem aX6_init_77 : At kX6_init 77 (.iconst 2) 1 78 := ⟨by decide +kernel, rfl⟩
theorem aX6_init_78 : At kX6_init 78 (.iastore) 1 79 := ⟨by decide +kernel, rfl⟩
theorem aX6_init_79 : At kX6_init 79 (.aload_n 0) 1 80 := ⟨by decide +kernel, rfl⟩
theorem aX6_init_80 : At kX6_init 80 (.getfield 7) 3 83 := ⟨by decide +kernel, rfl⟩
theorem aX6_init_83 : At kX6_init 83 (.iconst 1) 1 84 := ⟨by decide +kernel, rfl⟩
theorem aX6_init_84 : At kX6_init 84 (.bipush 100) 2 86 := ⟨by decide +kernel, rfl⟩
theorem aX6_init_86 : At kX6_init 86 (.iastore) 1 87 := ⟨by decide +kernel, rfl⟩
theorem aX6_init_87 : At kX6_init 87 (.iconst 0) 1 88 := ⟨by decide +kernel, rfl⟩
theorem aX6_init_88 : At kX6_init 88 (.istore_n 1) 1 89 := ⟨by decide +kernel, rfl⟩
theorem aX6_init_89 : At kX6_init 89 (.iload_n 1) 1 90 := ⟨by decide +kernel, rfl⟩
theorem aX6_init_90 : At kX6_init 90 (.bipush 6) 2 92 := ⟨by decide +kernel, rfl⟩
theorem aX6_init_92 : At kX6_init 92 (.if_icmp .ge 21) 3 95 := ⟨by decide +kernel, rfl⟩
theorem aX6_init_95 : At kX6_init 95 (.aload_n 0) 1 96 := ⟨by decide +kernel, rfl⟩
theorem aX6_init_96 : At kX6_init 96 (.getfield 7) 3 99 := ⟨by decide +kernel, rfl⟩
theorem aX6_init_99 : At kX6_init 99 (.sipush 164) 3 102 := ⟨by decide +kernel, rfl⟩
theorem aX6_init_102 : At kX6_init 102 (.iload_n 1) 1 103 := ⟨by decide +kernel, rfl⟩
theorem aX6_init_103 : At kX6_init 103 (.iadd) 1 104 := ⟨by decide +kernel, rfl⟩
theorem aX6_init_104 : At kX6_init 104 (.bipush (-5)) 2 106 := ⟨by decide +kernel, rfl⟩
theorem aX6_init_106 : At kX6_init 106 (.iastore) 1 107 := ⟨by decide +kernel, rfl⟩
theorem aX6_init_107 : At kX6_init 107 (.iinc 1 1) 3 110 := ⟨by decide +kernel, rfl⟩
theorem aX6_init_110 : At kX6_init 110 (.goto (-21)) 3 113 := ⟨by decide +kernel, rfl⟩
theorem aX6_init_113 : At kX6_init 113 (.return_) 1 114 := ⟨by decide +kernel, rfl⟩
theorem aX6_in_0 : At kX6_in 0 (.iload_n 0) 1 1 := ⟨by decide +kernel, rfl⟩
theorem aX6_in_1 : At kX6_in 1 (.iload_n 1) 1 2 := ⟨by decide +kernel, rfl⟩
theorem aX6_in_2 : At kX6_in 2 (.if_icmp .lt 12) 3 5 := ⟨by decide +kernel, rfl⟩
theorem aX6_in_5 : At kX6_in 5 (.iload_n 0) 1 6 := ⟨by decide +kernel, rfl⟩
theorem aX6_in_6 : At kX6_in 6 (.iload_n 2) 1 7 := ⟨by decide +kernel, rfl⟩
theorem aX6_in_7 : At kX6_in 7 (.if_icmp .gt 7) 3 10 := ⟨by decide +kernel, rfl⟩
theorem aX6_in_10 : At kX6_in 10 (.iconst 1) 1 11 := ⟨by decide +kernel, rfl⟩
theorem aX6_in_11 : At kX6_in 11 (.goto 4) 3 14 := ⟨by decide +kernel, rfl⟩
theorem aX6_in_14 : At kX6_in 14 (.iconst 0) 1 15 := ⟨by decide +kernel, rfl⟩
theorem aX6_in_15 : At kX6_in 15 (.ireturn) 1 16 := ⟨by decide +kernel, rfl⟩
theorem aX6_isPage_0 : At kX6_isPage 0 (.iload_n 0) 1 1 := ⟨by decide +kernel, rfl⟩
theorem aX6_isPage_1 : At kX6_isPage 1 (.iconst 0) 1 2 := ⟨by decide +kernel, rfl⟩
theorem aX6_isPage_2 : At kX6_isPage 2 (.iconst 5) 1 3 := ⟨by decide +kernel, rfl⟩
theorem aX6_isPage_3 : At kX6_isPage 3 (.invokestatic 35) 3 6 := ⟨by decide +kernel, rfl⟩
theorem aX6_isPage_6 : At kX6_isPage 6 (.ireturn) 1 7 := ⟨by decide +kernel, rfl⟩
theorem aX6_isCell_0 : At kX6_isCell 0 (.iload_n 0) 1 1 := ⟨by decide +kernel, rfl⟩
theorem aX6_isCell_1 : At kX6_isCell 1 (.iconst 0) 1 2 := ⟨by decide +kernel, rfl⟩
theorem aX6_isCell_2 : At kX6_isCell 2 (.bipush 11) 2 4 := ⟨by decide +kernel, rfl⟩
theorem aX6_isCell_4 : At kX6_isCell 4 (.invokestatic 35) 3 7 := ⟨by decide +kernel, rfl⟩
theorem aX6_isCell_7 : At kX6_isCell 7 (.ireturn) 1 8 := ⟨by decide +kernel, rfl⟩
theorem aX6_lays_0 : At kX6_lays 0 (.iconst 0) 1 1 := ⟨by decide +kernel, rfl⟩
theorem aX6_lays_1 : At kX6_lays 1 (.istore 4) 2 3 := ⟨by decide +kernel, rfl⟩
theorem aX6_lays_3 : At kX6_lays 3 (.iload 4) 2 5 := ⟨by decide +kernel, rfl⟩
theorem aX6_lays_5 : At kX6_lays 5 (.sipush 1870) 3 8 := ⟨by decide +kernel, rfl⟩
theorem aX6_lays_8 : At kX6_lays 8 (.if_icmp .ge 21) 3 11 := ⟨by decide +kernel, rfl⟩
theorem aX6_lays_11 : At kX6_lays 11 (.aload_n 2) 1 12 := ⟨by decide +kernel, rfl⟩
theorem aX6_lays_12 : At kX6_lays 12 (.iload_n 3) 1 13 := ⟨by decide +kernel, rfl⟩
theorem aX6_lays_13 : At kX6_lays 13 (.iload 4) 2 15 := ⟨by decide +kernel, rfl⟩
theorem aX6_lays_15 : At kX6_lays 15 (.iadd) 1 16 := ⟨by decide +kernel, rfl⟩
theorem aX6_lays_16 : At kX6_lays 16 (.aload_n 0) 1 17 := ⟨by decide +kernel, rfl⟩
theorem aX6_lays_17 : At kX6_lays 17 (.iload_n 1) 1 18 := ⟨by decide +kernel, rfl⟩
theorem aX6_lays_18 : At kX6_lays 18 (.iload 4) 2 20 := ⟨by decide +kernel, rfl⟩
theorem aX6_lays_20 : At kX6_lays 20 (.iadd) 1 21 := ⟨by decide +kernel, rfl⟩
theorem aX6_lays_21 : At kX6_lays 21 (.iaload) 1 22 := ⟨by decide +kernel, rfl⟩
theorem aX6_lays_22 : At kX6_lays 22 (.iastore) 1 23 := ⟨by decide +kernel, rfl⟩
theorem aX6_lays_23 : At kX6_lays 23 (.iinc 4 1) 3 26 := ⟨by decide +kernel, rfl⟩
theorem aX6_lays_26 : At kX6_lays 26 (.goto (-23)) 3 29 := ⟨by decide +kernel, rfl⟩
theorem aX6_lays_29 : At kX6_lays 29 (.return_) 1 30 := ⟨by decide +kernel, rfl⟩
theorem aX6_records_0 : At kX6_records 0 (.aload_n 0) 1 1 := ⟨by decide +kernel, rfl⟩
theorem aX6_records_1 : At kX6_records 1 (.getfield 39) 3 4 := ⟨by decide +kernel, rfl⟩
theorem aX6_records_4 : At kX6_records 4 (.iconst 4) 1 5 := ⟨by decide +kernel, rfl⟩
theorem aX6_records_5 : At kX6_records 5 (.if_icmp .ne 44) 3 8 := ⟨by decide +kernel, rfl⟩
theorem aX6_records_8 : At kX6_records 8 (.iconst 0) 1 9 := ⟨by decide +kernel, rfl⟩
theorem aX6_records_9 : At kX6_records 9 (.istore_n 2) 1 10 := ⟨by decide +kernel, rfl⟩
theorem aX6_records_10 : At kX6_records 10 (.iload_n 2) 1 11 := ⟨by decide +kernel, rfl⟩
theorem aX6_records_11 : At kX6_records 11 (.sipush 5610) 3 14 := ⟨by decide +kernel, rfl⟩
theorem aX6_records_14 : At kX6_records 14 (.if_icmp .ge 25) 3 17 := ⟨by decide +kernel, rfl⟩
theorem aX6_records_17 : At kX6_records 17 (.aload_n 0) 1 18 := ⟨by decide +kernel, rfl⟩
theorem aX6_records_18 : At kX6_records 18 (.getfield 16) 3 21 := ⟨by decide +kernel, rfl⟩
theorem aX6_records_21 : At kX6_records 21 (.iload_n 2) 1 22 := ⟨by decide +kernel, rfl⟩
theorem aX6_records_22 : At kX6_records 22 (.aload_n 0) 1 23 := ⟨by decide +kernel, rfl⟩
theorem aX6_records_23 : At kX6_records 23 (.getfield 16) 3 26 := ⟨by decide +kernel, rfl⟩
theorem aX6_records_26 : At kX6_records 26 (.iload_n 2) 1 27 := ⟨by decide +kernel, rfl⟩
theorem aX6_records_27 : At kX6_records 27 (.sipush 1870) 3 30 := ⟨by decide +kernel, rfl⟩
theorem aX6_records_30 : At kX6_records 30 (.iadd) 1 31 := ⟨by decide +kernel, rfl⟩
theorem aX6_records_31 : At kX6_records 31 (.iaload) 1 32 := ⟨by decide +kernel, rfl⟩
theorem aX6_records_32 : At kX6_records 32 (.iastore) 1 33 := ⟨by decide +kernel, rfl⟩
theorem aX6_records_33 : At kX6_records 33 (.iinc 2 1) 3 36 := ⟨by decide +kernel, rfl⟩
theorem aX6_records_36 : At kX6_records 36 (.goto (-26)) 3 39 := ⟨by decide +kernel, rfl⟩
theorem aX6_records_39 : At kX6_records 39 (.aload_n 0) 1 40 := ⟨by decide +kernel, rfl⟩
theorem aX6_records_40 : At kX6_records 40 (.dup) 1 41 := ⟨by decide +kernel, rfl⟩
theorem aX6_records_41 : At kX6_records 41 (.getfield 39) 3 44 := ⟨by decide +kernel, rfl⟩
theorem aX6_records_44 : At kX6_records 44 (.iconst 1) 1 45 := ⟨by decide +kernel, rfl⟩
theorem aX6_records_45 : At kX6_records 45 (.isub) 1 46 := ⟨by decide +kernel, rfl⟩
theorem aX6_records_46 : At kX6_records 46 (.putfield 39) 3 49 := ⟨by decide +kernel, rfl⟩
theorem aX6_records_49 : At kX6_records 49 (.aload_n 1) 1 50 := ⟨by decide +kernel, rfl⟩
theorem aX6_records_50 : At kX6_records 50 (.iconst 0) 1 51 := ⟨by decide +kernel, rfl⟩
theorem aX6_records_51 : At kX6_records 51 (.aload_n 0) 1 52 := ⟨by decide +kernel, rfl⟩
theorem aX6_records_52 : At kX6_records 52 (.getfield 16) 3 55 := ⟨by decide +kernel, rfl⟩
theorem aX6_records_55 : At kX6_records 55 (.sipush 1870) 3 58 := ⟨by decide +kernel, rfl⟩
theorem aX6_records_58 : At kX6_records 58 (.aload_n 0) 1 59 := ⟨by decide +kernel, rfl⟩
theorem aX6_records_59 : At kX6_records 59 (.getfield 39) 3 62 := ⟨by decide +kernel, rfl⟩
theorem aX6_records_62 : At kX6_records 62 (.imul) 1 63 := ⟨by decide +kernel, rfl⟩
theorem aX6_records_63 : At kX6_records 63 (.invokestatic 43) 3 66 := ⟨by decide +kernel, rfl⟩
theorem aX6_records_66 : At kX6_records 66 (.aload_n 0) 1 67 := ⟨by decide +kernel, rfl⟩
theorem aX6_records_67 : At kX6_records 67 (.dup) 1 68 := ⟨by decide +kernel, rfl⟩
theorem aX6_records_68 : At kX6_records 68 (.getfield 39) 3 71 := ⟨by decide +kernel, rfl⟩
theorem aX6_records_71 : At kX6_records 71 (.iconst 1) 1 72 := ⟨by decide +kernel, rfl⟩
theorem aX6_records_72 : At kX6_records 72 (.iadd) 1 73 := ⟨by decide +kernel, rfl⟩
theorem aX6_records_73 : At kX6_records 73 (.putfield 39) 3 76 := ⟨by decide +kernel, rfl⟩
theorem aX6_records_76 : At kX6_records 76 (.return_) 1 77 := ⟨by decide +kernel, rfl⟩
theorem aX6_undo_0 : At kX6_undo 0 (.aload_n 0) 1 1 := ⟨by decide +kernel, rfl⟩
theorem aX6_undo_1 : At kX6_undo 1 (.getfield 39) 3 4 := ⟨by decide +kernel, rfl⟩
theorem aX6_undo_4 : At kX6_undo 4 (.ifCond .ne 6) 3 7 := ⟨by decide +kernel, rfl⟩
theorem aX6_undo_7 : At kX6_undo 7 (.bipush (-5)) 2 9 := ⟨by decide +kernel, rfl⟩
theorem aX6_undo_9 : At kX6_undo 9 (.ireturn) 1 10 := ⟨by decide +kernel, rfl⟩
theorem aX6_undo_10 : At kX6_undo 10 (.aload_n 0) 1 11 := ⟨by decide +kernel, rfl⟩
theorem aX6_undo_11 : At kX6_undo 11 (.dup) 1 12 := ⟨by decide +kernel, rfl⟩
theorem aX6_undo_12 : At kX6_undo 12 (.getfield 39) 3 15 := ⟨by decide +kernel, rfl⟩
theorem aX6_undo_15 : At kX6_undo 15 (.iconst 1) 1 16 := ⟨by decide +kernel, rfl⟩
theorem aX6_undo_16 : At kX6_undo 16 (.isub) 1 17 := ⟨by decide +kernel, rfl⟩
theorem aX6_undo_17 : At kX6_undo 17 (.putfield 39) 3 20 := ⟨by decide +kernel, rfl⟩
theorem aX6_undo_20 : At kX6_undo 20 (.aload_n 0) 1 21 := ⟨by decide +kernel, rfl⟩
theorem aX6_undo_21 : At kX6_undo 21 (.getfield 16) 3 24 := ⟨by decide +kernel, rfl⟩
theorem aX6_undo_24 : At kX6_undo 24 (.sipush 1870) 3 27 := ⟨by decide +kernel, rfl⟩
theorem aX6_undo_27 : At kX6_undo 27 (.aload_n 0) 1 28 := ⟨by decide +kernel, rfl⟩
theorem aX6_undo_28 : At kX6_undo 28 (.getfield 39) 3 31 := ⟨by decide +kernel, rfl⟩
theorem aX6_undo_31 : At kX6_undo 31 (.imul) 1 32 := ⟨by decide +kernel, rfl⟩
theorem aX6_undo_32 : At kX6_undo 32 (.aload_n 0) 1 33 := ⟨by decide +kernel, rfl⟩
theorem aX6_undo_33 : At kX6_undo 33 (.getfield 7) 3 36 := ⟨by decide +kernel, rfl⟩
theorem aX6_undo_36 : At kX6_undo 36 (.iconst 0) 1 37 := ⟨by decide +kernel, rfl⟩
theorem aX6_undo_37 : At kX6_undo 37 (.invokestatic 43) 3 40 := ⟨by decide +kernel, rfl⟩
theorem aX6_undo_40 : At kX6_undo 40 (.aload_n 0) 1 41 := ⟨by decide +kernel, rfl⟩
theorem aX6_undo_41 : At kX6_undo 41 (.getfield 39) 3 44 := ⟨by decide +kernel, rfl⟩
theorem aX6_undo_44 : At kX6_undo 44 (.ireturn) 1 45 := ⟨by decide +kernel, rfl⟩
theorem aX6_keep_0 : At kX6_keep 0 (.aload_n 0) 1 1 := ⟨by decide +kernel, rfl⟩
theorem aX6_keep_1 : At kX6_keep 1 (.getfield 7) 3 4 := ⟨by decide +kernel, rfl⟩
theorem aX6_keep_4 : At kX6_keep 4 (.iconst 0) 1 5 := ⟨by decide +kernel, rfl⟩
theorem aX6_keep_5 : At kX6_keep 5 (.aload_n 0) 1 6 := ⟨by decide +kernel, rfl⟩
theorem aX6_keep_6 : At kX6_keep 6 (.getfield 19) 3 9 := ⟨by decide +kernel, rfl⟩
theorem aX6_keep_9 : At kX6_keep 9 (.iconst 0) 1 10 := ⟨by decide +kernel, rfl⟩
theorem aX6_keep_10 : At kX6_keep 10 (.invokestatic 43) 3 13 := ⟨by decide +kernel, rfl⟩
theorem aX6_keep_13 : At kX6_keep 13 (.aload_n 0) 1 14 := ⟨by decide +kernel, rfl⟩
theorem aX6_keep_14 : At kX6_keep 14 (.iconst 1) 1 15 := ⟨by decide +kernel, rfl⟩
theorem aX6_keep_15 : At kX6_keep 15 (.putfield 47) 3 18 := ⟨by decide +kernel, rfl⟩
theorem aX6_keep_18 : At kX6_keep 18 (.aload_n 0) 1 19 := ⟨by decide +kernel, rfl⟩
theorem aX6_keep_19 : At kX6_keep 19 (.getfield 7) 3 22 := ⟨by decide +kernel, rfl⟩
theorem aX6_keep_22 : At kX6_keep 22 (.iconst 3) 1 23 := ⟨by decide +kernel, rfl⟩
theorem aX6_keep_23 : At kX6_keep 23 (.iaload) 1 24 := ⟨by decide +kernel, rfl⟩
theorem aX6_keep_24 : At kX6_keep 24 (.ireturn) 1 25 := ⟨by decide +kernel, rfl⟩
theorem aX6_restore_0 : At kX6_restore 0 (.aload_n 0) 1 1 := ⟨by decide +kernel, rfl⟩
theorem aX6_restore_1 : At kX6_restore 1 (.getfield 47) 3 4 := ⟨by decide +kernel, rfl⟩
theorem aX6_restore_4 : At kX6_restore 4 (.ifCond .ne 6) 3 7 := ⟨by decide +kernel, rfl⟩
theorem aX6_restore_7 : At kX6_restore 7 (.bipush (-5)) 2 9 := ⟨by decide +kernel, rfl⟩
theorem aX6_restore_9 : At kX6_restore 9 (.ireturn) 1 10 := ⟨by decide +kernel, rfl⟩
theorem aX6_restore_10 : At kX6_restore 10 (.aload_n 0) 1 11 := ⟨by decide +kernel, rfl⟩
theorem aX6_restore_11 : At kX6_restore 11 (.aload_n 0) 1 12 := ⟨by decide +kernel, rfl⟩
theorem aX6_restore_12 : At kX6_restore 12 (.getfield 7) 3 15 := ⟨by decide +kernel, rfl⟩
theorem aX6_restore_15 : At kX6_restore 15 (.invokevirtual 51) 3 18 := ⟨by decide +kernel, rfl⟩
theorem aX6_restore_18 : At kX6_restore 18 (.aload_n 0) 1 19 := ⟨by decide +kernel, rfl⟩
theorem aX6_restore_19 : At kX6_restore 19 (.getfield 19) 3 22 := ⟨by decide +kernel, rfl⟩
theorem aX6_restore_22 : At kX6_restore 22 (.iconst 0) 1 23 := ⟨by decide +kernel, rfl⟩
theorem aX6_restore_23 : At kX6_restore 23 (.aload_n 0) 1 24 := ⟨by decide +kernel, rfl⟩
theorem aX6_restore_24 : At kX6_restore 24 (.getfield 7) 3 27 := ⟨by decide +kernel, rfl⟩
theorem aX6_restore_27 : At kX6_restore 27 (.iconst 0) 1 28 := ⟨by decide +kernel, rfl⟩
theorem aX6_restore_28 : At kX6_restore 28 (.invokestatic 43) 3 31 := ⟨by decide +kernel, rfl⟩
theorem aX6_restore_31 : At kX6_restore 31 (.aload_n 0) 1 32 := ⟨by decide +kernel, rfl⟩
theorem aX6_restore_32 : At kX6_restore 32 (.getfield 7) 3 35 := ⟨by decide +kernel, rfl⟩
theorem aX6_restore_35 : At kX6_restore 35 (.iconst 3) 1 36 := ⟨by decide +kernel, rfl⟩
theorem aX6_restore_36 : At kX6_restore 36 (.iaload) 1 37 := ⟨by decide +kernel, rfl⟩
theorem aX6_restore_37 : At kX6_restore 37 (.ireturn) 1 38 := ⟨by decide +kernel, rfl⟩
theorem aX6_at_0 : At kX6_at 0 (.sipush 170) 3 3 := ⟨by decide +kernel, rfl⟩
theorem aX6_at_3 : At kX6_at 3 (.bipush 17) 2 5 := ⟨by decide +kernel, rfl⟩
theorem aX6_at_5 : At kX6_at 5 (.iload_n 1) 1 6 := ⟨by decide +kernel, rfl⟩
theorem aX6_at_6 : At kX6_at 6 (.aload_n 0) 1 7 := ⟨by decide +kernel, rfl⟩
theorem aX6_at_7 : At kX6_at 7 (.getfield 7) 3 10 := ⟨by decide +kernel, rfl⟩
theorem aX6_at_10 : At kX6_at 10 (.iconst 2) 1 11 := ⟨by decide +kernel, rfl⟩
theorem aX6_at_11 : At kX6_at 11 (.iaload) 1 12 := ⟨by decide +kernel, rfl⟩
theorem aX6_at_12 : At kX6_at 12 (.isub) 1 13 := ⟨by decide +kernel, rfl⟩
theorem aX6_at_13 : At kX6_at 13 (.imul) 1 14 := ⟨by decide +kernel, rfl⟩
theorem aX6_at_14 : At kX6_at 14 (.iadd) 1 15 := ⟨by decide +kernel, rfl⟩
theorem aX6_at_15 : At kX6_at 15 (.ireturn) 1 16 := ⟨by decide +kernel, rfl⟩
theorem aX6_of_0 : At kX6_of 0 (.aload_n 0) 1 1 := ⟨by decide +kernel, rfl⟩
theorem aX6_of_1 : At kX6_of 1 (.getfield 7) 3 4 := ⟨by decide +kernel, rfl⟩
theorem aX6_of_4 : At kX6_of 4 (.aload_n 0) 1 5 := ⟨by decide +kernel, rfl⟩
theorem aX6_of_5 : At kX6_of 5 (.iload_n 1) 1 6 := ⟨by decide +kernel, rfl⟩
theorem aX6_of_6 : At kX6_of 6 (.invokevirtual 55) 3 9 := ⟨by decide +kernel, rfl⟩
theorem aX6_of_9 : At kX6_of 9 (.iload_n 2) 1 10 := ⟨by decide +kernel, rfl⟩
theorem aX6_of_10 : At kX6_of 10 (.iadd) 1 11 := ⟨by decide +kernel, rfl⟩
theorem aX6_of_11 : At kX6_of 11 (.iaload) 1 12 := ⟨by decide +kernel, rfl⟩
theorem aX6_of_12 : At kX6_of 12 (.ireturn) 1 13 := ⟨by decide +kernel, rfl⟩
theorem aX6_isHeld_0 : At kX6_isHeld 0 (.iload_n 1) 1 1 := ⟨by decide +kernel, rfl⟩
theorem aX6_isHeld_1 : At kX6_isHeld 1 (.aload_n 0) 1 2 := ⟨by decide +kernel, rfl⟩
theorem aX6_isHeld_2 : At kX6_isHeld 2 (.getfield 7) 3 5 := ⟨by decide +kernel, rfl⟩
theorem aX6_isHeld_5 : At kX6_isHeld 5 (.iconst 2) 1 6 := ⟨by decide +kernel, rfl⟩
theorem aX6_isHeld_6 : At kX6_isHeld 6 (.iaload) 1 7 := ⟨by decide +kernel, rfl⟩
theorem aX6_isHeld_7 : At kX6_isHeld 7 (.aload_n 0) 1 8 := ⟨by decide +kernel, rfl⟩
theorem aX6_isHeld_8 : At kX6_isHeld 8 (.getfield 7) 3 11 := ⟨by decide +kernel, rfl⟩
theorem aX6_isHeld_11 : At kX6_isHeld 11 (.iconst 3) 1 12 := ⟨by decide +kernel, rfl⟩
theorem aX6_isHeld_12 : At kX6_isHeld 12 (.iaload) 1 13 := ⟨by decide +kernel, rfl⟩
theorem aX6_isHeld_13 : At kX6_isHeld 13 (.iconst 1) 1 14 := ⟨by decide +kernel, rfl⟩
theorem aX6_isHeld_14 : At kX6_isHeld 14 (.isub) 1 15 := ⟨by decide +kernel, rfl⟩
theorem aX6_isHeld_15 : At kX6_isHeld 15 (.invokestatic 35) 3 18 := ⟨by decide +kernel, rfl⟩
theorem aX6_isHeld_18 : At kX6_isHeld 18 (.ireturn) 1 19 := ⟨by decide +kernel, rfl⟩
theorem aX6_pictured_0 : At kX6_pictured 0 (.iconst 1) 1 1 := ⟨by decide +kernel, rfl⟩
theorem aX6_pictured_1 : At kX6_pictured 1 (.istore_n 2) 1 2 := ⟨by decide +kernel, rfl⟩
theorem aX6_pictured_2 : At kX6_pictured 2 (.iconst 1) 1 3 := ⟨by decide +kernel, rfl⟩
theorem aX6_pictured_3 : At kX6_pictured 3 (.istore_n 3) 1 4 := ⟨by decide +kernel, rfl⟩
theorem aX6_pictured_4 : At kX6_pictured 4 (.iload_n 3) 1 5 := ⟨by decide +kernel, rfl⟩
theorem aX6_pictured_5 : At kX6_pictured 5 (.bipush 12) 2 7 := ⟨by decide +kernel, rfl⟩
theorem aX6_pictured_7 : At kX6_pictured 7 (.if_icmp .ge 32) 3 10 := ⟨by decide +kernel, rfl⟩
theorem aX6_pictured_10 : At kX6_pictured 10 (.iload_n 2) 1 11 := ⟨by decide +kernel, rfl⟩
theorem aX6_pictured_11 : At kX6_pictured 11 (.aload_n 0) 1 12 := ⟨by decide +kernel, rfl⟩
theorem aX6_pictured_12 : At kX6_pictured 12 (.iload_n 1) 1 13 := ⟨by decide +kernel, rfl⟩
theorem aX6_pictured_13 : At kX6_pictured 13 (.iload_n 3) 1 14 := ⟨by decide +kernel, rfl⟩
theorem aX6_pictured_14 : At kX6_pictured 14 (.iadd) 1 15 := ⟨by decide +kernel, rfl⟩
theorem aX6_pictured_15 : At kX6_pictured 15 (.iaload) 1 16 := ⟨by decide +kernel, rfl⟩
theorem aX6_pictured_16 : At kX6_pictured 16 (.aload_n 0) 1 17 := ⟨by decide +kernel, rfl⟩
theorem aX6_pictured_17 : At kX6_pictured 17 (.iload_n 1) 1 18 := ⟨by decide +kernel, rfl⟩
theorem aX6_pictured_18 : At kX6_pictured 18 (.iload_n 3) 1 19 := ⟨by decide +kernel, rfl⟩
theorem aX6_pictured_19 : At kX6_pictured 19 (.iadd) 1 20 := ⟨by decide +kernel, rfl⟩
theorem aX6_pictured_20 : At kX6_pictured 20 (.iconst 1) 1 21 := ⟨by decide +kernel, rfl⟩
theorem aX6_pictured_21 : At kX6_pictured 21 (.isub) 1 22 := ⟨by decide +kernel, rfl⟩
theorem aX6_pictured_22 : At kX6_pictured 22 (.iaload) 1 23 := ⟨by decide +kernel, rfl⟩
theorem aX6_pictured_23 : At kX6_pictured 23 (.if_icmp .ne 7) 3 26 := ⟨by decide +kernel, rfl⟩
theorem aX6_pictured_26 : At kX6_pictured 26 (.iconst 0) 1 27 := ⟨by decide +kernel, rfl⟩
theorem aX6_pictured_27 : At kX6_pictured 27 (.goto 4) 3 30 := ⟨by decide +kernel, rfl⟩
theorem aX6_pictured_30 : At kX6_pictured 30 (.iconst 1) 1 31 := ⟨by decide +kernel, rfl⟩
theorem aX6_pictured_31 : At kX6_pictured 31 (.iadd) 1 32 := ⟨by decide +kernel, rfl⟩
theorem aX6_pictured_32 : At kX6_pictured 32 (.istore_n 2) 1 33 := ⟨by decide +kernel, rfl⟩
theorem aX6_pictured_33 : At kX6_pictured 33 (.iinc 3 1) 3 36 := ⟨by decide +kernel, rfl⟩
theorem aX6_pictured_36 : At kX6_pictured 36 (.goto (-32)) 3 39 := ⟨by decide +kernel, rfl⟩
theorem aX6_pictured_39 : At kX6_pictured 39 (.iconst 2) 1 40 := ⟨by decide +kernel, rfl⟩
theorem aX6_pictured_40 : At kX6_pictured 40 (.iconst 2) 1 41 := ⟨by decide +kernel, rfl⟩
theorem aX6_pictured_41 : At kX6_pictured 41 (.iload_n 2) 1 42 := ⟨by decide +kernel, rfl⟩
theorem aX6_pictured_42 : At kX6_pictured 42 (.imul) 1 43 := ⟨by decide +kernel, rfl⟩
theorem aX6_pictured_43 : At kX6_pictured 43 (.bipush 12) 2 45 := ⟨by decide +kernel, rfl⟩
theorem aX6_pictured_45 : At kX6_pictured 45 (.if_icmp .ge 9) 3 48 := ⟨by decide +kernel, rfl⟩
theorem aX6_pictured_48 : At kX6_pictured 48 (.iconst 2) 1 49 := ⟨by decide +kernel, rfl⟩
theorem aX6_pictured_49 : At kX6_pictured 49 (.iload_n 2) 1 50 := ⟨by decide +kernel, rfl⟩
theorem aX6_pictured_50 : At kX6_pictured 50 (.imul) 1 51 := ⟨by decide +kernel, rfl⟩
theorem aX6_pictured_51 : At kX6_pictured 51 (.goto 5) 3 54 := ⟨by decide +kernel, rfl⟩
theorem aX6_pictured_54 : At kX6_pictured 54 (.bipush 12) 2 56 := ⟨by decide +kernel, rfl⟩
theorem aX6_pictured_56 : At kX6_pictured 56 (.iadd) 1 57 := ⟨by decide +kernel, rfl⟩
theorem aX6_pictured_57 : At kX6_pictured 57 (.ireturn) 1 58 := ⟨by decide +kernel, rfl⟩
theorem aX6_sizeAt_0 : At kX6_sizeAt 0 (.aload_n 0) 1 1 := ⟨by decide +kernel, rfl⟩
theorem aX6_sizeAt_1 : At kX6_sizeAt 1 (.iload_n 1) 1 2 := ⟨by decide +kernel, rfl⟩
theorem aX6_sizeAt_2 : At kX6_sizeAt 2 (.iconst 1) 1 3 := ⟨by decide +kernel, rfl⟩
theorem aX6_sizeAt_3 : At kX6_sizeAt 3 (.iadd) 1 4 := ⟨by decide +kernel, rfl⟩
theorem aX6_sizeAt_4 : At kX6_sizeAt 4 (.iaload) 1 5 := ⟨by decide +kernel, rfl⟩
theorem aX6_sizeAt_5 : At kX6_sizeAt 5 (.tableswitch 43 0 3 #[31, 39, 39, 41]) 31 36 := ⟨by decide +kernel, rfl⟩
theorem aX6_sizeAt_36 : At kX6_sizeAt 36 (.aload_n 0) 1 37 := ⟨by decide +kernel, rfl⟩
theorem aX6_sizeAt_37 : At kX6_sizeAt 37 (.iload_n 1) 1 38 := ⟨by decide +kernel, rfl⟩
theorem aX6_sizeAt_38 : At kX6_sizeAt 38 (.iconst 5) 1 39 := ⟨by decide +kernel, rfl⟩
theorem aX6_sizeAt_39 : At kX6_sizeAt 39 (.iadd) 1 40 := ⟨by decide +kernel, rfl⟩
theorem aX6_sizeAt_40 : At kX6_sizeAt 40 (.invokestatic 59) 3 43 := ⟨by decide +kernel, rfl⟩
theorem aX6_sizeAt_43 : At kX6_sizeAt 43 (.ireturn) 1 44 := ⟨by decide +kernel, rfl⟩
theorem aX6_sizeAt_44 : At kX6_sizeAt 44 (.iconst 4) 1 45 := ⟨by decide +kernel, rfl⟩
theorem aX6_sizeAt_45 : At kX6_sizeAt 45 (.ireturn) 1 46 := ⟨by decide +kernel, rfl⟩
theorem aX6_sizeAt_46 : At kX6_sizeAt 46 (.iconst 3) 1 47 := ⟨by decide +kernel, rfl⟩
theorem aX6_sizeAt_47 : At kX6_sizeAt 47 (.ireturn) 1 48 := ⟨by decide +kernel, rfl⟩
theorem aX6_sizeAt_48 : At kX6_sizeAt 48 (.iconst 3) 1 49 := ⟨by decide +kernel, rfl⟩
theorem aX6_sizeAt_49 : At kX6_sizeAt 49 (.aload_n 0) 1 50 := ⟨by decide +kernel, rfl⟩
theorem aX6_sizeAt_50 : At kX6_sizeAt 50 (.iload_n 1) 1 51 := ⟨by decide +kernel, rfl⟩
theorem aX6_sizeAt_51 : At kX6_sizeAt 51 (.iconst 3) 1 52 := ⟨by decide +kernel, rfl⟩
theorem aX6_sizeAt_52 : At kX6_sizeAt 52 (.iadd) 1 53 := ⟨by decide +kernel, rfl⟩
theorem aX6_sizeAt_53 : At kX6_sizeAt 53 (.iaload) 1 54 := ⟨by decide +kernel, rfl⟩
theorem aX6_sizeAt_54 : At kX6_sizeAt 54 (.iadd) 1 55 := ⟨by decide +kernel, rfl⟩
theorem aX6_sizeAt_55 : At kX6_sizeAt 55 (.ireturn) 1 56 := ⟨by decide +kernel, rfl⟩
theorem aX6_timeAt_0 : At kX6_timeAt 0 (.aload_n 0) 1 1 := ⟨by decide +kernel, rfl⟩
theorem aX6_timeAt_1 : At kX6_timeAt 1 (.iload_n 1) 1 2 := ⟨by decide +kernel, rfl⟩
theorem aX6_timeAt_2 : At kX6_timeAt 2 (.iconst 1) 1 3 := ⟨by decide +kernel, rfl⟩
theorem aX6_timeAt_3 : At kX6_timeAt 3 (.iadd) 1 4 := ⟨by decide +kernel, rfl⟩
theorem aX6_timeAt_4 : At kX6_timeAt 4 (.iaload) 1 5 := ⟨by decide +kernel, rfl⟩
theorem aX6_timeAt_5 : At kX6_timeAt 5 (.istore_n 2) 1 6 := ⟨by decide +kernel, rfl⟩
theorem aX6_timeAt_6 : At kX6_timeAt 6 (.aload_n 0) 1 7 := ⟨by decide +kernel, rfl⟩
theorem aX6_timeAt_7 : At kX6_timeAt 7 (.iload_n 1) 1 8 := ⟨by decide +kernel, rfl⟩
theorem aX6_timeAt_8 : At kX6_timeAt 8 (.invokestatic 63) 3 11 := ⟨by decide +kernel, rfl⟩
theorem aX6_timeAt_11 : At kX6_timeAt 11 (.iload_n 2) 1 12 := ⟨by decide +kernel, rfl⟩
theorem aX6_timeAt_12 : At kX6_timeAt 12 (.ifCond .ne 7) 3 15 := ⟨by decide +kernel, rfl⟩
theorem aX6_timeAt_15 : At kX6_timeAt 15 (.iconst 0) 1 16 := ⟨by decide +kernel, rfl⟩
theorem aX6_timeAt_16 : At kX6_timeAt 16 (.goto 18) 3 19 := ⟨by decide +kernel, rfl⟩
theorem aX6_timeAt_19 : At kX6_timeAt 19 (.iload_n 2) 1 20 := ⟨by decide +kernel, rfl⟩
theorem aX6_timeAt_20 : At kX6_timeAt 20 (.iconst 3) 1 21 := ⟨by decide +kernel, rfl⟩
theorem aX6_timeAt_21 : At kX6_timeAt 21 (.if_icmp .ne 8) 3 24 := ⟨by decide +kernel, rfl⟩
theorem aX6_timeAt_24 : At kX6_timeAt 24 (.bipush 12) 2 26 := ⟨by decide +kernel, rfl⟩
theorem aX6_timeAt_26 : At kX6_timeAt 26 (.goto 8) 3 29 := ⟨by decide +kernel, rfl⟩
theorem aX6_timeAt_29 : At kX6_timeAt 29 (.aload_n 0) 1 30 := ⟨by decide +kernel, rfl⟩
theorem aX6_timeAt_30 : At kX6_timeAt 30 (.iload_n 1) 1 31 := ⟨by decide +kernel, rfl⟩
theorem aX6_timeAt_31 : At kX6_timeAt 31 (.iconst 3) 1 32 := ⟨by decide +kernel, rfl⟩
theorem aX6_timeAt_32 : At kX6_timeAt 32 (.iadd) 1 33 := ⟨by decide +kernel, rfl⟩
theorem aX6_timeAt_33 : At kX6_timeAt 33 (.iaload) 1 34 := ⟨by decide +kernel, rfl⟩
theorem aX6_timeAt_34 : At kX6_timeAt 34 (.iadd) 1 35 := ⟨by decide +kernel, rfl⟩
theorem aX6_timeAt_35 : At kX6_timeAt 35 (.ireturn) 1 36 := ⟨by decide +kernel, rfl⟩
theorem aX6_applies_0 : At kX6_applies 0 (.aload_n 1) 1 1 := ⟨by decide +kernel, rfl⟩
theorem aX6_applies_1 : At kX6_applies 1 (.iload_n 2) 1 2 := ⟨by decide +kernel, rfl⟩
theorem aX6_applies_2 : At kX6_applies 2 (.iconst 1) 1 3 := ⟨by decide +kernel, rfl⟩
theorem aX6_applies_3 : At kX6_applies 3 (.iadd) 1 4 := ⟨by decide +kernel, rfl⟩
theorem aX6_applies_4 : At kX6_applies 4 (.iaload) 1 5 := ⟨by decide +kernel, rfl⟩
theorem aX6_applies_5 : At kX6_applies 5 (.istore_n 3) 1 6 := ⟨by decide +kernel, rfl⟩
theorem aX6_applies_6 : At kX6_applies 6 (.aload_n 1) 1 7 := ⟨by decide +kernel, rfl⟩
theorem aX6_applies_7 : At kX6_applies 7 (.iload_n 2) 1 8 := ⟨by decide +kernel, rfl⟩
theorem aX6_applies_8 : At kX6_applies 8 (.iconst 2) 1 9 := ⟨by decide +kernel, rfl⟩
theorem aX6_applies_9 : At kX6_applies 9 (.iadd) 1 10 := ⟨by decide +kernel, rfl⟩
theorem aX6_applies_10 : At kX6_applies 10 (.iaload) 1 11 := ⟨by decide +kernel, rfl⟩
theorem aX6_applies_11 : At kX6_applies 11 (.istore 4) 2 13 := ⟨by decide +kernel, rfl⟩
theorem aX6_applies_13 : At kX6_applies 13 (.iconst 0) 1 14 := ⟨by decide +kernel, rfl⟩
theorem aX6_applies_14 : At kX6_applies 14 (.istore 5) 2 16 := ⟨by decide +kernel, rfl⟩
theorem aX6_applies_16 : At kX6_applies 16 (.iload 5) 2 18 := ⟨by decide +kernel, rfl⟩
theorem aX6_applies_18 : At kX6_applies 18 (.bipush 12) 2 20 := ⟨by decide +kernel, rfl⟩
theorem aX6_applies_20 : At kX6_applies 20 (.if_icmp .ge 23) 3 23 := ⟨by decide +kernel, rfl⟩
theorem aX6_applies_23 : At kX6_applies 23 (.aload_n 0) 1 24 := ⟨by decide +kernel, rfl⟩
theorem aX6_applies_24 : At kX6_applies 24 (.getfield 29) 3 27 := ⟨by decide +kernel, rfl⟩
theorem aX6_applies_27 : At kX6_applies 27 (.iload 5) 2 29 := ⟨by decide +kernel, rfl⟩
theorem aX6_applies_29 : At kX6_applies 29 (.aload_n 0) 1 30 := ⟨by decide +kernel, rfl⟩
theorem aX6_applies_30 : At kX6_applies 30 (.getfield 26) 3 33 := ⟨by decide +kernel, rfl⟩
theorem aX6_applies_33 : At kX6_applies 33 (.iload 5) 2 35 := ⟨by decide +kernel, rfl⟩
theorem aX6_applies_35 : At kX6_applies 35 (.iaload) 1 36 := ⟨by decide +kernel, rfl⟩
theorem aX6_applies_36 : At kX6_applies 36 (.iastore) 1 37 := ⟨by decide +kernel, rfl⟩
theorem aX6_applies_37 : At kX6_applies 37 (.iinc 5 1) 3 40 := ⟨by decide +kernel, rfl⟩
theorem aX6_applies_40 : At kX6_applies 40 (.goto (-24)) 3 43 := ⟨by decide +kernel, rfl⟩
theorem aX6_applies_43 : At kX6_applies 43 (.iconst 0) 1 44 := ⟨by decide +kernel, rfl⟩
theorem aX6_applies_44 : At kX6_applies 44 (.istore 5) 2 46 := ⟨by decide +kernel, rfl⟩
theorem aX6_applies_46 : At kX6_applies 46 (.iload 5) 2 48 := ⟨by decide +kernel, rfl⟩
theorem aX6_applies_48 : At kX6_applies 48 (.bipush 12) 2 50 := ⟨by decide +kernel, rfl⟩
theorem aX6_applies_50 : At kX6_applies 50 (.if_icmp .ge 137) 3 53 := ⟨by decide +kernel, rfl⟩
theorem aX6_applies_53 : At kX6_applies 53 (.iload_n 3) 1 54 := ⟨by decide +kernel, rfl⟩
theorem aX6_applies_54 : At kX6_applies 54 (.ifCond .ne 21) 3 57 := ⟨by decide +kernel, rfl⟩
theorem aX6_applies_57 : At kX6_applies 57 (.aload_n 0) 1 58 := ⟨by decide +kernel, rfl⟩
theorem aX6_applies_58 : At kX6_applies 58 (.getfield 26) 3 61 := ⟨by decide +kernel, rfl⟩
theorem aX6_applies_61 : At kX6_applies 61 (.iload 5) 2 63 := ⟨by decide +kernel, rfl⟩
theorem aX6_applies_63 : At kX6_applies 63 (.aload_n 1) 1 64 := ⟨by decide +kernel, rfl⟩
theorem aX6_applies_64 : At kX6_applies 64 (.iload_n 2) 1 65 := ⟨by decide +kernel, rfl⟩
theorem aX6_applies_65 : At kX6_applies 65 (.iconst 5) 1 66 := ⟨by decide +kernel, rfl⟩
theorem aX6_applies_66 : At kX6_applies 66 (.iadd) 1 67 := ⟨by decide +kernel, rfl⟩
theorem aX6_applies_67 : At kX6_applies 67 (.iload 5) 2 69 := ⟨by decide +kernel, rfl⟩
theorem aX6_applies_69 : At kX6_applies 69 (.iadd) 1 70 := ⟨by decide +kernel, rfl⟩
theorem aX6_applies_70 : At kX6_applies 70 (.iaload) 1 71 := ⟨by decide +kernel, rfl⟩
theorem aX6_applies_71 : At kX6_applies 71 (.iastore) 1 72 := ⟨by decide +kernel, rfl⟩
theorem aX6_applies_72 : At kX6_applies 72 (.goto 109) 3 75 := ⟨by decide +kernel, rfl⟩
theorem aX6_applies_75 : At kX6_applies 75 (.iload_n 3) 1 76 := ⟨by decide +kernel, rfl⟩
theorem aX6_applies_76 : At kX6_applies 76 (.iconst 3) 1 77 := ⟨by decide +kernel, rfl⟩
theorem aX6_applies_77 : At kX6_applies 77 (.if_icmp .ne 29) 3 80 := ⟨by decide +kernel, rfl⟩
theorem aX6_applies_80 : At kX6_applies 80 (.aload_n 0) 1 81 := ⟨by decide +kernel, rfl⟩
theorem aX6_applies_81 : At kX6_applies 81 (.getfield 26) 3 84 := ⟨by decide +kernel, rfl⟩
theorem aX6_applies_84 : At kX6_applies 84 (.iload 5) 2 86 := ⟨by decide +kernel, rfl⟩
theorem aX6_applies_86 : At kX6_applies 86 (.aload_n 1) 1 87 := ⟨by decide +kernel, rfl⟩
theorem aX6_applies_87 : At kX6_applies 87 (.iload_n 2) 1 88 := ⟨by decide +kernel, rfl⟩
theorem aX6_applies_88 : At kX6_applies 88 (.iconst 5) 1 89 := ⟨by decide +kernel, rfl⟩
theorem aX6_applies_89 : At kX6_applies 89 (.iadd) 1 90 := ⟨by decide +kernel, rfl⟩
theorem aX6_applies_90 : At kX6_applies 90 (.iaload) 1 91 := ⟨by decide +kernel, rfl⟩
theorem aX6_applies_91 : At kX6_applies 91 (.iadd) 1 92 := ⟨by decide +kernel, rfl⟩
theorem aX6_applies_92 : At kX6_applies 92 (.bipush 12) 2 94 := ⟨by decide +kernel, rfl⟩
theorem aX6_applies_94 : At kX6_applies 94 (.irem) 1 95 := ⟨by decide +kernel, rfl⟩
theorem aX6_applies_95 : At kX6_applies 95 (.aload_n 0) 1 96 := ⟨by decide +kernel, rfl⟩
theorem aX6_applies_96 : At kX6_applies 96 (.getfield 29) 3 99 := ⟨by decide +kernel, rfl⟩
theorem aX6_applies_99 : At kX6_applies 99 (.iload 5) 2 101 := ⟨by decide +kernel, rfl⟩
theorem aX6_applies_101 : At kX6_applies 101 (.iaload) 1 102 := ⟨by decide +kernel, rfl⟩
theorem aX6_applies_102 : At kX6_applies 102 (.iastore) 1 103 := ⟨by decide +kernel, rfl⟩
theorem aX6_applies_103 : At kX6_applies 103 (.goto 78) 3 106 := ⟨by decide +kernel, rfl⟩
theorem aX6_applies_106 : At kX6_applies 106 (.iload 5) 2 108 := ⟨by decide +kernel, rfl⟩
theorem aX6_applies_108 : At kX6_applies 108 (.iload 4) 2 110 := ⟨by decide +kernel, rfl⟩
theorem aX6_applies_110 : At kX6_applies 110 (.iload 4) 2 112 := ⟨by decide +kernel, rfl⟩
theorem aX6_applies_112 : At kX6_applies 112 (.aload_n 1) 1 113 := ⟨by decide +kernel, rfl⟩
theorem aX6_applies_113 : At kX6_applies 113 (.iload_n 2) 1 114 := ⟨by decide +kernel, rfl⟩
theorem aX6_applies_114 : At kX6_applies 114 (.iconst 3) 1 115 := ⟨by decide +kernel, rfl⟩
theorem aX6_applies_115 : At kX6_applies 115 (.iadd) 1 116 := ⟨by decide +kernel, rfl⟩
theorem aX6_applies_116 : At kX6_applies 116 (.iaload) 1 117 := ⟨by decide +kernel, rfl⟩
theorem aX6_applies_117 : At kX6_applies 117 (.iadd) 1 118 := ⟨by decide +kernel, rfl⟩
theorem aX6_applies_118 : At kX6_applies 118 (.iconst 1) 1 119 := ⟨by decide +kernel, rfl⟩
theorem aX6_applies_119 : At kX6_applies 119 (.isub) 1 120 := ⟨by decide +kernel, rfl⟩
theorem aX6_applies_120 : At kX6_applies 120 (.invokestatic 35) 3 123 := ⟨by decide +kernel, rfl⟩
theorem aX6_applies_123 : At kX6_applies 123 (.ifCond .eq 58) 3 126 := ⟨by decide +kernel, rfl⟩
theorem aX6_applies_126 : At kX6_applies 126 (.aload_n 0) 1 127 := ⟨by decide +kernel, rfl⟩
theorem aX6_applies_127 : At kX6_applies 127 (.getfield 26) 3 130 := ⟨by decide +kernel, rfl⟩
theorem aX6_applies_130 : At kX6_applies 130 (.iload 5) 2 132 := ⟨by decide +kernel, rfl⟩
theorem aX6_applies_132 : At kX6_applies 132 (.iload_n 3) 1 133 := ⟨by decide +kernel, rfl⟩
theorem aX6_applies_133 : At kX6_applies 133 (.iconst 1) 1 134 := ⟨by decide +kernel, rfl⟩
theorem aX6_applies_134 : At kX6_applies 134 (.if_icmp .ne 11) 3 137 := ⟨by decide +kernel, rfl⟩
theorem aX6_applies_137 : At kX6_applies 137 (.aload_n 1) 1 138 := ⟨by decide +kernel, rfl⟩
theorem aX6_applies_138 : At kX6_applies 138 (.iload_n 2) 1 139 := ⟨by decide +kernel, rfl⟩
theorem aX6_applies_139 : At kX6_applies 139 (.iconst 5) 1 140 := ⟨by decide +kernel, rfl⟩
theorem aX6_applies_140 : At kX6_applies 140 (.iadd) 1 141 := ⟨by decide +kernel, rfl⟩
theorem aX6_applies_141 : At kX6_applies 141 (.iaload) 1 142 := ⟨by decide +kernel, rfl⟩
theorem aX6_applies_142 : At kX6_applies 142 (.goto 38) 3 145 := ⟨by decide +kernel, rfl⟩
theorem aX6_applies_145 : At kX6_applies 145 (.iload_n 3) 1 146 := ⟨by decide +kernel, rfl⟩
theorem aX6_applies_146 : At kX6_applies 146 (.iconst 2) 1 147 := ⟨by decide +kernel, rfl⟩
theorem aX6_applies_147 : At kX6_applies 147 (.if_icmp .ne 22) 3 150 := ⟨by decide +kernel, rfl⟩
theorem aX6_applies_150 : At kX6_applies 150 (.aload_n 0) 1 151 := ⟨by decide +kernel, rfl⟩
theorem aX6_applies_151 : At kX6_applies 151 (.getfield 29) 3 154 := ⟨by decide +kernel, rfl⟩
theorem aX6_applies_154 : At kX6_applies 154 (.iload 5) 2 156 := ⟨by decide +kernel, rfl⟩
theorem aX6_applies_156 : At kX6_applies 156 (.iaload) 1 157 := ⟨by decide +kernel, rfl⟩
theorem aX6_applies_157 : At kX6_applies 157 (.aload_n 1) 1 158 := ⟨by decide +kernel, rfl⟩
theorem aX6_applies_158 : At kX6_applies 158 (.iload_n 2) 1 159 := ⟨by decide +kernel, rfl⟩
theorem aX6_applies_159 : At kX6_applies 159 (.iconst 5) 1 160 := ⟨by decide +kernel, rfl⟩
theorem aX6_applies_160 : At kX6_applies 160 (.iadd) 1 161 := ⟨by decide +kernel, rfl⟩
theorem aX6_applies_161 : At kX6_applies 161 (.iaload) 1 162 := ⟨by decide +kernel, rfl⟩
theorem aX6_applies_162 : At kX6_applies 162 (.iadd) 1 163 := ⟨by decide +kernel, rfl⟩
theorem aX6_applies_163 : At kX6_applies 163 (.bipush 10) 2 165 := ⟨by decide +kernel, rfl⟩
theorem aX6_applies_165 : At kX6_applies 165 (.irem) 1 166 := ⟨by decide +kernel, rfl⟩
theorem aX6_applies_166 : At kX6_applies 166 (.goto 14) 3 169 := ⟨by decide +kernel, rfl⟩
theorem aX6_applies_169 : At kX6_applies 169 (.aload_n 1) 1 170 := ⟨by decide +kernel, rfl⟩
theorem aX6_applies_170 : At kX6_applies 170 (.iload_n 2) 1 171 := ⟨by decide +kernel, rfl⟩
theorem aX6_applies_171 : At kX6_applies 171 (.iconst 5) 1 172 := ⟨by decide +kernel, rfl⟩
theorem aX6_applies_172 : At kX6_applies 172 (.iadd) 1 173 := ⟨by decide +kernel, rfl⟩
theorem aX6_applies_173 : At kX6_applies 173 (.iload 5) 2 175 := ⟨by decide +kernel, rfl⟩
theorem aX6_applies_175 : At kX6_applies 175 (.iadd) 1 176 := ⟨by decide +kernel, rfl⟩
theorem aX6_applies_176 : At kX6_applies 176 (.iload 4) 2 178 := ⟨by decide +kernel, rfl⟩
theorem aX6_applies_178 : At kX6_applies 178 (.isub) 1 179 := ⟨by decide +kernel, rfl⟩
theorem aX6_applies_179 : At kX6_applies 179 (.iaload) 1 180 := ⟨by decide +kernel, rfl⟩
theorem aX6_applies_180 : At kX6_applies 180 (.iastore) 1 181 := ⟨by decide +kernel, rfl⟩
theorem aX6_applies_181 : At kX6_applies 181 (.iinc 5 1) 3 184 := ⟨by decide +kernel, rfl⟩
theorem aX6_applies_184 : At kX6_applies 184 (.goto (-138)) 3 187 := ⟨by decide +kernel, rfl⟩
theorem aX6_applies_187 : At kX6_applies 187 (.return_) 1 188 := ⟨by decide +kernel, rfl⟩
theorem aX6_holds_0 : At kX6_holds 0 (.iconst 0) 1 1 := ⟨by decide +kernel, rfl⟩
theorem aX6_holds_1 : At kX6_holds 1 (.istore_n 3) 1 2 := ⟨by decide +kernel, rfl⟩
theorem aX6_holds_2 : At kX6_holds 2 (.iload_n 3) 1 3 := ⟨by decide +kernel, rfl⟩
theorem aX6_holds_3 : At kX6_holds 3 (.bipush 12) 2 5 := ⟨by decide +kernel, rfl⟩
theorem aX6_holds_5 : At kX6_holds 5 (.if_icmp .ge 28) 3 8 := ⟨by decide +kernel, rfl⟩
theorem aX6_holds_8 : At kX6_holds 8 (.aload_n 0) 1 9 := ⟨by decide +kernel, rfl⟩
theorem aX6_holds_9 : At kX6_holds 9 (.getfield 26) 3 12 := ⟨by decide +kernel, rfl⟩
theorem aX6_holds_12 : At kX6_holds 12 (.iload_n 3) 1 13 := ⟨by decide +kernel, rfl⟩
theorem aX6_holds_13 : At kX6_holds 13 (.aload_n 0) 1 14 := ⟨by decide +kernel, rfl⟩
theorem aX6_holds_14 : At kX6_holds 14 (.getfield 7) 3 17 := ⟨by decide +kernel, rfl⟩
theorem aX6_holds_17 : At kX6_holds 17 (.iload_n 1) 1 18 := ⟨by decide +kernel, rfl⟩
theorem aX6_holds_18 : At kX6_holds 18 (.bipush 12) 2 20 := ⟨by decide +kernel, rfl⟩
theorem aX6_holds_20 : At kX6_holds 20 (.iload_n 2) 1 21 := ⟨by decide +kernel, rfl⟩
theorem aX6_holds_21 : At kX6_holds 21 (.imul) 1 22 := ⟨by decide +kernel, rfl⟩
theorem aX6_holds_22 : At kX6_holds 22 (.iadd) 1 23 := ⟨by decide +kernel, rfl⟩
theorem aX6_holds_23 : At kX6_holds 23 (.iload_n 3) 1 24 := ⟨by decide +kernel, rfl⟩
theorem aX6_holds_24 : At kX6_holds 24 (.iadd) 1 25 := ⟨by decide +kernel, rfl⟩
theorem aX6_holds_25 : At kX6_holds 25 (.iaload) 1 26 := ⟨by decide +kernel, rfl⟩
theorem aX6_holds_26 : At kX6_holds 26 (.iastore) 1 27 := ⟨by decide +kernel, rfl⟩
theorem aX6_holds_27 : At kX6_holds 27 (.iinc 3 1) 3 30 := ⟨by decide +kernel, rfl⟩
theorem aX6_holds_30 : At kX6_holds 30 (.goto (-28)) 3 33 := ⟨by decide +kernel, rfl⟩
theorem aX6_holds_33 : At kX6_holds 33 (.return_) 1 34 := ⟨by decide +kernel, rfl⟩
theorem aX6_start_0 : At kX6_start 0 (.bipush (-5)) 2 2 := ⟨by decide +kernel, rfl⟩
theorem aX6_start_2 : At kX6_start 2 (.istore_n 3) 1 3 := ⟨by decide +kernel, rfl⟩
theorem aX6_start_3 : At kX6_start 3 (.aload_n 0) 1 4 := ⟨by decide +kernel, rfl⟩
theorem aX6_start_4 : At kX6_start 4 (.getfield 7) 3 7 := ⟨by decide +kernel, rfl⟩
theorem aX6_start_7 : At kX6_start 7 (.iconst 2) 1 8 := ⟨by decide +kernel, rfl⟩
theorem aX6_start_8 : At kX6_start 8 (.iaload) 1 9 := ⟨by decide +kernel, rfl⟩
theorem aX6_start_9 : At kX6_start 9 (.istore 4) 2 11 := ⟨by decide +kernel, rfl⟩
theorem aX6_start_11 : At kX6_start 11 (.iload 4) 2 13 := ⟨by decide +kernel, rfl⟩
theorem aX6_start_13 : At kX6_start 13 (.iload_n 2) 1 14 := ⟨by decide +kernel, rfl⟩
theorem aX6_start_14 : At kX6_start 14 (.if_icmp .ge 52) 3 17 := ⟨by decide +kernel, rfl⟩
theorem aX6_start_17 : At kX6_start 17 (.aload_n 0) 1 18 := ⟨by decide +kernel, rfl⟩
theorem aX6_start_18 : At kX6_start 18 (.iload 4) 2 20 := ⟨by decide +kernel, rfl⟩
theorem aX6_start_20 : At kX6_start 20 (.iconst 0) 1 21 := ⟨by decide +kernel, rfl⟩
theorem aX6_start_21 : At kX6_start 21 (.invokevirtual 66) 3 24 := ⟨by decide +kernel, rfl⟩
theorem aX6_start_24 : At kX6_start 24 (.iload_n 1) 1 25 := ⟨by decide +kernel, rfl⟩
theorem aX6_start_25 : At kX6_start 25 (.if_icmp .ne 33) 3 28 := ⟨by decide +kernel, rfl⟩
theorem aX6_start_28 : At kX6_start 28 (.aload_n 0) 1 29 := ⟨by decide +kernel, rfl⟩
theorem aX6_start_29 : At kX6_start 29 (.iload 4) 2 31 := ⟨by decide +kernel, rfl⟩
theorem aX6_start_31 : At kX6_start 31 (.iconst 1) 1 32 := ⟨by decide +kernel, rfl⟩
theorem aX6_start_32 : At kX6_start 32 (.invokevirtual 66) 3 35 := ⟨by decide +kernel, rfl⟩
theorem aX6_start_35 : At kX6_start 35 (.ifCond .ne 23) 3 38 := ⟨by decide +kernel, rfl⟩
theorem aX6_start_38 : At kX6_start 38 (.iload 4) 2 40 := ⟨by decide +kernel, rfl⟩
theorem aX6_start_40 : At kX6_start 40 (.aload_n 0) 1 41 := ⟨by decide +kernel, rfl⟩
theorem aX6_start_41 : At kX6_start 41 (.getfield 7) 3 44 := ⟨by decide +kernel, rfl⟩
theorem aX6_start_44 : At kX6_start 44 (.sipush 152) 3 47 := ⟨by decide +kernel, rfl⟩
theorem aX6_start_47 : At kX6_start 47 (.iload_n 1) 1 48 := ⟨by decide +kernel, rfl⟩
theorem aX6_start_48 : At kX6_start 48 (.iadd) 1 49 := ⟨by decide +kernel, rfl⟩
theorem aX6_start_49 : At kX6_start 49 (.iaload) 1 50 := ⟨by decide +kernel, rfl⟩
theorem aX6_start_50 : At kX6_start 50 (.if_icmp .lt 8) 3 53 := ⟨by decide +kernel, rfl⟩
theorem aX6_start_53 : At kX6_start 53 (.iload 4) 2 55 := ⟨by decide +kernel, rfl⟩
theorem aX6_start_55 : At kX6_start 55 (.goto 4) 3 58 := ⟨by decide +kernel, rfl⟩
theorem aX6_start_58 : At kX6_start 58 (.iload_n 3) 1 59 := ⟨by decide +kernel, rfl⟩
theorem aX6_start_59 : At kX6_start 59 (.istore_n 3) 1 60 := ⟨by decide +kernel, rfl⟩
theorem aX6_start_60 : At kX6_start 60 (.iinc 4 1) 3 63 := ⟨by decide +kernel, rfl⟩
theorem aX6_start_63 : At kX6_start 63 (.goto (-52)) 3 66 := ⟨by decide +kernel, rfl⟩
theorem aX6_start_66 : At kX6_start 66 (.iload_n 3) 1 67 := ⟨by decide +kernel, rfl⟩
theorem aX6_start_67 : At kX6_start 67 (.ireturn) 1 68 := ⟨by decide +kernel, rfl⟩
theorem aX6_needs_0 : At kX6_needs 0 (.iload_n 2) 1 1 := ⟨by decide +kernel, rfl⟩
theorem aX6_needs_1 : At kX6_needs 1 (.iload_n 3) 1 2 := ⟨by decide +kernel, rfl⟩
theorem aX6_needs_2 : At kX6_needs 2 (.if_icmp .ge 41) 3 5 := ⟨by decide +kernel, rfl⟩
theorem aX6_needs_5 : At kX6_needs 5 (.aload_n 0) 1 6 := ⟨by decide +kernel, rfl⟩
theorem aX6_needs_6 : At kX6_needs 6 (.iload_n 2) 1 7 := ⟨by decide +kernel, rfl⟩
theorem aX6_needs_7 : At kX6_needs 7 (.iconst 0) 1 8 := ⟨by decide +kernel, rfl⟩
theorem aX6_needs_8 : At kX6_needs 8 (.invokevirtual 66) 3 11 := ⟨by decide +kernel, rfl⟩
theorem aX6_needs_11 : At kX6_needs 11 (.iload_n 1) 1 12 := ⟨by decide +kernel, rfl⟩
theorem aX6_needs_12 : At kX6_needs 12 (.if_icmp .ne 31) 3 15 := ⟨by decide +kernel, rfl⟩
theorem aX6_needs_15 : At kX6_needs 15 (.iload_n 2) 1 16 := ⟨by decide +kernel, rfl⟩
theorem aX6_needs_16 : At kX6_needs 16 (.aload_n 0) 1 17 := ⟨by decide +kernel, rfl⟩
theorem aX6_needs_17 : At kX6_needs 17 (.getfield 7) 3 20 := ⟨by decide +kernel, rfl⟩
theorem aX6_needs_20 : At kX6_needs 20 (.sipush 152) 3 23 := ⟨by decide +kernel, rfl⟩
theorem aX6_needs_23 : At kX6_needs 23 (.iload_n 1) 1 24 := ⟨by decide +kernel, rfl⟩
theorem aX6_needs_24 : At kX6_needs 24 (.iadd) 1 25 := ⟨by decide +kernel, rfl⟩
theorem aX6_needs_25 : At kX6_needs 25 (.iaload) 1 26 := ⟨by decide +kernel, rfl⟩
theorem aX6_needs_26 : At kX6_needs 26 (.if_icmp .lt 17) 3 29 := ⟨by decide +kernel, rfl⟩
theorem aX6_needs_29 : At kX6_needs 29 (.iload_n 2) 1 30 := ⟨by decide +kernel, rfl⟩
theorem aX6_needs_30 : At kX6_needs 30 (.aload_n 0) 1 31 := ⟨by decide +kernel, rfl⟩
theorem aX6_needs_31 : At kX6_needs 31 (.iload_n 1) 1 32 := ⟨by decide +kernel, rfl⟩
theorem aX6_needs_32 : At kX6_needs 32 (.iload_n 3) 1 33 := ⟨by decide +kernel, rfl⟩
theorem aX6_needs_33 : At kX6_needs 33 (.invokevirtual 70) 3 36 := ⟨by decide +kernel, rfl⟩
theorem aX6_needs_36 : At kX6_needs 36 (.if_icmp .lt 7) 3 39 := ⟨by decide +kernel, rfl⟩
theorem aX6_needs_39 : At kX6_needs 39 (.iconst 1) 1 40 := ⟨by decide +kernel, rfl⟩
theorem aX6_needs_40 : At kX6_needs 40 (.goto 4) 3 43 := ⟨by decide +kernel, rfl⟩
theorem aX6_needs_43 : At kX6_needs 43 (.iconst 0) 1 44 := ⟨by decide +kernel, rfl⟩
theorem aX6_needs_44 : At kX6_needs 44 (.ireturn) 1 45 := ⟨by decide +kernel, rfl⟩
theorem aX6_isNeeded_0 : At kX6_isNeeded 0 (.aload_n 0) 1 1 := ⟨by decide +kernel, rfl⟩
theorem aX6_isNeeded_1 : At kX6_isNeeded 1 (.iload_n 1) 1 2 := ⟨by decide +kernel, rfl⟩
theorem aX6_isNeeded_2 : At kX6_isNeeded 2 (.iconst 0) 1 3 := ⟨by decide +kernel, rfl⟩
theorem aX6_isNeeded_3 : At kX6_isNeeded 3 (.invokevirtual 66) 3 6 := ⟨by decide +kernel, rfl⟩
theorem aX6_isNeeded_6 : At kX6_isNeeded 6 (.istore_n 2) 1 7 := ⟨by decide +kernel, rfl⟩
theorem aX6_isNeeded_7 : At kX6_isNeeded 7 (.aload_n 0) 1 8 := ⟨by decide +kernel, rfl⟩
theorem aX6_isNeeded_8 : At kX6_isNeeded 8 (.iload_n 2) 1 9 := ⟨by decide +kernel, rfl⟩
theorem aX6_isNeeded_9 : At kX6_isNeeded 9 (.iload_n 1) 1 10 := ⟨by decide +kernel, rfl⟩
theorem aX6_isNeeded_10 : At kX6_isNeeded 10 (.aload_n 0) 1 11 := ⟨by decide +kernel, rfl⟩
theorem aX6_isNeeded_11 : At kX6_isNeeded 11 (.getfield 7) 3 14 := ⟨by decide +kernel, rfl⟩
theorem aX6_isNeeded_14 : At kX6_isNeeded 14 (.iconst 3) 1 15 := ⟨by decide +kernel, rfl⟩
theorem aX6_isNeeded_15 : At kX6_isNeeded 15 (.iaload) 1 16 := ⟨by decide +kernel, rfl⟩
theorem aX6_isNeeded_16 : At kX6_isNeeded 16 (.invokevirtual 73) 3 19 := ⟨by decide +kernel, rfl⟩
theorem aX6_isNeeded_19 : At kX6_isNeeded 19 (.ifCond .ne 18) 3 22 := ⟨by decide +kernel, rfl⟩
theorem aX6_isNeeded_22 : At kX6_isNeeded 22 (.aload_n 0) 1 23 := ⟨by decide +kernel, rfl⟩
theorem aX6_isNeeded_23 : At kX6_isNeeded 23 (.iload_n 2) 1 24 := ⟨by decide +kernel, rfl⟩
theorem aX6_isNeeded_24 : At kX6_isNeeded 24 (.iload_n 1) 1 25 := ⟨by decide +kernel, rfl⟩
theorem aX6_isNeeded_25 : At kX6_isNeeded 25 (.aload_n 0) 1 26 := ⟨by decide +kernel, rfl⟩
theorem aX6_isNeeded_26 : At kX6_isNeeded 26 (.getfield 7) 3 29 := ⟨by decide +kernel, rfl⟩
theorem aX6_isNeeded_29 : At kX6_isNeeded 29 (.iconst 4) 1 30 := ⟨by decide +kernel, rfl⟩
theorem aX6_isNeeded_30 : At kX6_isNeeded 30 (.iaload) 1 31 := ⟨by decide +kernel, rfl⟩
theorem aX6_isNeeded_31 : At kX6_isNeeded 31 (.invokevirtual 73) 3 34 := ⟨by decide +kernel, rfl⟩
theorem aX6_isNeeded_34 : At kX6_isNeeded 34 (.ifCond .eq 7) 3 37 := ⟨by decide +kernel, rfl⟩
theorem aX6_isNeeded_37 : At kX6_isNeeded 37 (.iconst 1) 1 38 := ⟨by decide +kernel, rfl⟩
theorem aX6_isNeeded_38 : At kX6_isNeeded 38 (.goto 4) 3 41 := ⟨by decide +kernel, rfl⟩
theorem aX6_isNeeded_41 : At kX6_isNeeded 41 (.iconst 0) 1 42 := ⟨by decide +kernel, rfl⟩
theorem aX6_isNeeded_42 : At kX6_isNeeded 42 (.ireturn) 1 43 := ⟨by decide +kernel, rfl⟩
theorem aX6_neededMany_0 : At kX6_neededMany 0 (.iconst 0) 1 1 := ⟨by decide +kernel, rfl⟩
theorem aX6_neededMany_1 : At kX6_neededMany 1 (.istore_n 1) 1 2 := ⟨by decide +kernel, rfl⟩
theorem aX6_neededMany_2 : At kX6_neededMany 2 (.aload_n 0) 1 3 := ⟨by decide +kernel, rfl⟩
theorem aX6_neededMany_3 : At kX6_neededMany 3 (.getfield 7) 3 6 := ⟨by decide +kernel, rfl⟩
theorem aX6_neededMany_6 : At kX6_neededMany 6 (.iconst 2) 1 7 := ⟨by decide +kernel, rfl⟩
theorem aX6_neededMany_7 : At kX6_neededMany 7 (.iaload) 1 8 := ⟨by decide +kernel, rfl⟩
theorem aX6_neededMany_8 : At kX6_neededMany 8 (.istore_n 2) 1 9 := ⟨by decide +kernel, rfl⟩
theorem aX6_neededMany_9 : At kX6_neededMany 9 (.iload_n 2) 1 10 := ⟨by decide +kernel, rfl⟩
theorem aX6_neededMany_10 : At kX6_neededMany 10 (.aload_n 0) 1 11 := ⟨by decide +kernel, rfl⟩
theorem aX6_neededMany_11 : At kX6_neededMany 11 (.getfield 7) 3 14 := ⟨by decide +kernel, rfl⟩
theorem aX6_neededMany_14 : At kX6_neededMany 14 (.iconst 3) 1 15 := ⟨by decide +kernel, rfl⟩
theorem aX6_neededMany_15 : At kX6_neededMany 15 (.iaload) 1 16 := ⟨by decide +kernel, rfl⟩
theorem aX6_neededMany_16 : At kX6_neededMany 16 (.if_icmp .ge 25) 3 19 := ⟨by decide +kernel, rfl⟩
theorem aX6_neededMany_19 : At kX6_neededMany 19 (.iload_n 1) 1 20 := ⟨by decide +kernel, rfl⟩
theorem aX6_neededMany_20 : At kX6_neededMany 20 (.aload_n 0) 1 21 := ⟨by decide +kernel, rfl⟩
theorem aX6_neededMany_21 : At kX6_neededMany 21 (.iload_n 2) 1 22 := ⟨by decide +kernel, rfl⟩
theorem aX6_neededMany_22 : At kX6_neededMany 22 (.invokevirtual 76) 3 25 := ⟨by decide +kernel, rfl⟩
theorem aX6_neededMany_25 : At kX6_neededMany 25 (.ifCond .eq 7) 3 28 := ⟨by decide +kernel, rfl⟩
theorem aX6_neededMany_28 : At kX6_neededMany 28 (.iconst 1) 1 29 := ⟨by decide +kernel, rfl⟩
theorem aX6_neededMany_29 : At kX6_neededMany 29 (.goto 4) 3 32 := ⟨by decide +kernel, rfl⟩
theorem aX6_neededMany_32 : At kX6_neededMany 32 (.iconst 0) 1 33 := ⟨by decide +kernel, rfl⟩
theorem aX6_neededMany_33 : At kX6_neededMany 33 (.iadd) 1 34 := ⟨by decide +kernel, rfl⟩
theorem aX6_neededMany_34 : At kX6_neededMany 34 (.istore_n 1) 1 35 := ⟨by decide +kernel, rfl⟩
theorem aX6_neededMany_35 : At kX6_neededMany 35 (.iinc 2 1) 3 38 := ⟨by decide +kernel, rfl⟩
theorem aX6_neededMany_38 : At kX6_neededMany 38 (.goto (-29)) 3 41 := ⟨by decide +kernel, rfl⟩
theorem aX6_neededMany_41 : At kX6_neededMany 41 (.iload_n 1) 1 42 := ⟨by decide +kernel, rfl⟩
theorem aX6_neededMany_42 : At kX6_neededMany 42 (.ireturn) 1 43 := ⟨by decide +kernel, rfl⟩
theorem aX6_firstDamaged_0 : At kX6_firstDamaged 0 (.bipush (-5)) 2 2 := ⟨by decide +kernel, rfl⟩
theorem aX6_firstDamaged_2 : At kX6_firstDamaged 2 (.istore_n 3) 1 3 := ⟨by decide +kernel, rfl⟩
theorem aX6_firstDamaged_3 : At kX6_firstDamaged 3 (.iload_n 2) 1 4 := ⟨by decide +kernel, rfl⟩
theorem aX6_firstDamaged_4 : At kX6_firstDamaged 4 (.iconst 1) 1 5 := ⟨by decide +kernel, rfl⟩
theorem aX6_firstDamaged_5 : At kX6_firstDamaged 5 (.isub) 1 6 := ⟨by decide +kernel, rfl⟩
theorem aX6_firstDamaged_6 : At kX6_firstDamaged 6 (.istore 4) 2 8 := ⟨by decide +kernel, rfl⟩
theorem aX6_firstDamaged_8 : At kX6_firstDamaged 8 (.iload 4) 2 10 := ⟨by decide +kernel, rfl⟩
theorem aX6_firstDamaged_10 : At kX6_firstDamaged 10 (.aload_n 0) 1 11 := ⟨by decide +kernel, rfl⟩
theorem aX6_firstDamaged_11 : At kX6_firstDamaged 11 (.getfield 7) 3 14 := ⟨by decide +kernel, rfl⟩
theorem aX6_firstDamaged_14 : At kX6_firstDamaged 14 (.iconst 2) 1 15 := ⟨by decide +kernel, rfl⟩
theorem aX6_firstDamaged_15 : At kX6_firstDamaged 15 (.iaload) 1 16 := ⟨by decide +kernel, rfl⟩
theorem aX6_firstDamaged_16 : At kX6_firstDamaged 16 (.if_icmp .lt 38) 3 19 := ⟨by decide +kernel, rfl⟩
theorem aX6_firstDamaged_19 : At kX6_firstDamaged 19 (.aload_n 0) 1 20 := ⟨by decide +kernel, rfl⟩
theorem aX6_firstDamaged_20 : At kX6_firstDamaged 20 (.iload_n 1) 1 21 := ⟨by decide +kernel, rfl⟩
theorem aX6_firstDamaged_21 : At kX6_firstDamaged 21 (.iload 4) 2 23 := ⟨by decide +kernel, rfl⟩
theorem aX6_firstDamaged_23 : At kX6_firstDamaged 23 (.iload_n 2) 1 24 := ⟨by decide +kernel, rfl⟩
theorem aX6_firstDamaged_24 : At kX6_firstDamaged 24 (.invokevirtual 73) 3 27 := ⟨by decide +kernel, rfl⟩
theorem aX6_firstDamaged_27 : At kX6_firstDamaged 27 (.ifCond .eq 19) 3 30 := ⟨by decide +kernel, rfl⟩
theorem aX6_firstDamaged_30 : At kX6_firstDamaged 30 (.aload_n 0) 1 31 := ⟨by decide +kernel, rfl⟩
theorem aX6_firstDamaged_31 : At kX6_firstDamaged 31 (.iload 4) 2 33 := ⟨by decide +kernel, rfl⟩
theorem aX6_firstDamaged_33 : At kX6_firstDamaged 33 (.iconst 4) 1 34 := ⟨by decide +kernel, rfl⟩
theorem aX6_firstDamaged_34 : At kX6_firstDamaged 34 (.invokevirtual 66) 3 37 := ⟨by decide +kernel, rfl⟩
theorem aX6_firstDamaged_37 : At kX6_firstDamaged 37 (.iconst 1) 1 38 := ⟨by decide +kernel, rfl⟩
theorem aX6_firstDamaged_38 : At kX6_firstDamaged 38 (.if_icmp .ne 8) 3 41 := ⟨by decide +kernel, rfl⟩
theorem aX6_firstDamaged_41 : At kX6_firstDamaged 41 (.iload 4) 2 43 := ⟨by decide +kernel, rfl⟩
theorem aX6_firstDamaged_43 : At kX6_firstDamaged 43 (.goto 4) 3 46 := ⟨by decide +kernel, rfl⟩
theorem aX6_firstDamaged_46 : At kX6_firstDamaged 46 (.iload_n 3) 1 47 := ⟨by decide +kernel, rfl⟩
theorem aX6_firstDamaged_47 : At kX6_firstDamaged 47 (.istore_n 3) 1 48 := ⟨by decide +kernel, rfl⟩
theorem aX6_firstDamaged_48 : At kX6_firstDamaged 48 (.iinc 4 (-1)) 3 51 := ⟨by decide +kernel, rfl⟩
theorem aX6_firstDamaged_51 : At kX6_firstDamaged 51 (.goto (-43)) 3 54 := ⟨by decide +kernel, rfl⟩
theorem aX6_firstDamaged_54 : At kX6_firstDamaged 54 (.iload_n 3) 1 55 := ⟨by decide +kernel, rfl⟩
theorem aX6_firstDamaged_55 : At kX6_firstDamaged 55 (.ireturn) 1 56 := ⟨by decide +kernel, rfl⟩
theorem aX6_timeOf_0 : At kX6_timeOf 0 (.aload_n 0) 1 1 := ⟨by decide +kernel, rfl⟩
theorem aX6_timeOf_1 : At kX6_timeOf 1 (.iload_n 1) 1 2 := ⟨by decide +kernel, rfl⟩
theorem aX6_timeOf_2 : At kX6_timeOf 2 (.aload_n 0) 1 3 := ⟨by decide +kernel, rfl⟩
theorem aX6_timeOf_3 : At kX6_timeOf 3 (.getfield 7) 3 6 := ⟨by decide +kernel, rfl⟩
theorem aX6_timeOf_6 : At kX6_timeOf 6 (.iconst 3) 1 7 := ⟨by decide +kernel, rfl⟩
theorem aX6_timeOf_7 : At kX6_timeOf 7 (.iaload) 1 8 := ⟨by decide +kernel, rfl⟩
theorem aX6_timeOf_8 : At kX6_timeOf 8 (.invokevirtual 70) 3 11 := ⟨by decide +kernel, rfl⟩
theorem aX6_timeOf_11 : At kX6_timeOf 11 (.bipush (-5)) 2 13 := ⟨by decide +kernel, rfl⟩
theorem aX6_timeOf_13 : At kX6_timeOf 13 (.if_icmp .ne 7) 3 16 := ⟨by decide +kernel, rfl⟩
theorem aX6_timeOf_16 : At kX6_timeOf 16 (.iconst 5) 1 17 := ⟨by decide +kernel, rfl⟩
theorem aX6_timeOf_17 : At kX6_timeOf 17 (.goto 4) 3 20 := ⟨by decide +kernel, rfl⟩
theorem aX6_timeOf_20 : At kX6_timeOf 20 (.iconst 0) 1 21 := ⟨by decide +kernel, rfl⟩
theorem aX6_timeOf_21 : At kX6_timeOf 21 (.istore_n 2) 1 22 := ⟨by decide +kernel, rfl⟩
theorem aX6_timeOf_22 : At kX6_timeOf 22 (.aload_n 0) 1 23 := ⟨by decide +kernel, rfl⟩
theorem aX6_timeOf_23 : At kX6_timeOf 23 (.getfield 7) 3 26 := ⟨by decide +kernel, rfl⟩
theorem aX6_timeOf_26 : At kX6_timeOf 26 (.iconst 2) 1 27 := ⟨by decide +kernel, rfl⟩
theorem aX6_timeOf_27 : At kX6_timeOf 27 (.iaload) 1 28 := ⟨by decide +kernel, rfl⟩
theorem aX6_timeOf_28 : At kX6_timeOf 28 (.istore_n 3) 1 29 := ⟨by decide +kernel, rfl⟩
theorem aX6_timeOf_29 : At kX6_timeOf 29 (.iload_n 3) 1 30 := ⟨by decide +kernel, rfl⟩
theorem aX6_timeOf_30 : At kX6_timeOf 30 (.aload_n 0) 1 31 := ⟨by decide +kernel, rfl⟩
theorem aX6_timeOf_31 : At kX6_timeOf 31 (.getfield 7) 3 34 := ⟨by decide +kernel, rfl⟩
theorem aX6_timeOf_34 : At kX6_timeOf 34 (.iconst 3) 1 35 := ⟨by decide +kernel, rfl⟩
theorem aX6_timeOf_35 : At kX6_timeOf 35 (.iaload) 1 36 := ⟨by decide +kernel, rfl⟩
theorem aX6_timeOf_36 : At kX6_timeOf 36 (.if_icmp .ge 43) 3 39 := ⟨by decide +kernel, rfl⟩
theorem aX6_timeOf_39 : At kX6_timeOf 39 (.iload_n 2) 1 40 := ⟨by decide +kernel, rfl⟩
theorem aX6_timeOf_40 : At kX6_timeOf 40 (.aload_n 0) 1 41 := ⟨by decide +kernel, rfl⟩
theorem aX6_timeOf_41 : At kX6_timeOf 41 (.iload_n 1) 1 42 := ⟨by decide +kernel, rfl⟩
theorem aX6_timeOf_42 : At kX6_timeOf 42 (.iload_n 3) 1 43 := ⟨by decide +kernel, rfl⟩
theorem aX6_timeOf_43 : At kX6_timeOf 43 (.aload_n 0) 1 44 := ⟨by decide +kernel, rfl⟩
theorem aX6_timeOf_44 : At kX6_timeOf 44 (.getfield 7) 3 47 := ⟨by decide +kernel, rfl⟩
theorem aX6_timeOf_47 : At kX6_timeOf 47 (.iconst 3) 1 48 := ⟨by decide +kernel, rfl⟩
theorem aX6_timeOf_48 : At kX6_timeOf 48 (.iaload) 1 49 := ⟨by decide +kernel, rfl⟩
theorem aX6_timeOf_49 : At kX6_timeOf 49 (.invokevirtual 73) 3 52 := ⟨by decide +kernel, rfl⟩
theorem aX6_timeOf_52 : At kX6_timeOf 52 (.ifCond .eq 18) 3 55 := ⟨by decide +kernel, rfl⟩
theorem aX6_timeOf_55 : At kX6_timeOf 55 (.aload_n 0) 1 56 := ⟨by decide +kernel, rfl⟩
theorem aX6_timeOf_56 : At kX6_timeOf 56 (.getfield 7) 3 59 := ⟨by decide +kernel, rfl⟩
theorem aX6_timeOf_59 : At kX6_timeOf 59 (.aload_n 0) 1 60 := ⟨by decide +kernel, rfl⟩
theorem aX6_timeOf_60 : At kX6_timeOf 60 (.iload_n 3) 1 61 := ⟨by decide +kernel, rfl⟩
theorem aX6_timeOf_61 : At kX6_timeOf 61 (.invokevirtual 55) 3 64 := ⟨by decide +kernel, rfl⟩
theorem aX6_timeOf_64 : At kX6_timeOf 64 (.invokestatic 80) 3 67 := ⟨by decide +kernel, rfl⟩
theorem aX6_timeOf_67 : At kX6_timeOf 67 (.goto 4) 3 70 := ⟨by decide +kernel, rfl⟩
theorem aX6_timeOf_70 : At kX6_timeOf 70 (.iconst 0) 1 71 := ⟨by decide +kernel, rfl⟩
theorem aX6_timeOf_71 : At kX6_timeOf 71 (.iadd) 1 72 := ⟨by decide +kernel, rfl⟩
theorem aX6_timeOf_72 : At kX6_timeOf 72 (.istore_n 2) 1 73 := ⟨by decide +kernel, rfl⟩
theorem aX6_timeOf_73 : At kX6_timeOf 73 (.iinc 3 1) 3 76 := ⟨by decide +kernel, rfl⟩
theorem aX6_timeOf_76 : At kX6_timeOf 76 (.goto (-47)) 3 79 := ⟨by decide +kernel, rfl⟩
theorem aX6_timeOf_79 : At kX6_timeOf 79 (.iload_n 2) 1 80 := ⟨by decide +kernel, rfl⟩
theorem aX6_timeOf_80 : At kX6_timeOf 80 (.ireturn) 1 81 := ⟨by decide +kernel, rfl⟩
theorem aX6_restores_0 : At kX6_restores 0 (.aload_n 0) 1 1 := ⟨by decide +kernel, rfl⟩
theorem aX6_restores_1 : At kX6_restores 1 (.bipush 80) 2 3 := ⟨by decide +kernel, rfl⟩
theorem aX6_restores_3 : At kX6_restores 3 (.iload_n 1) 1 4 := ⟨by decide +kernel, rfl⟩
theorem aX6_restores_4 : At kX6_restores 4 (.invokevirtual 83) 3 7 := ⟨by decide +kernel, rfl⟩
theorem aX6_restores_7 : At kX6_restores 7 (.aload_n 0) 1 8 := ⟨by decide +kernel, rfl⟩
theorem aX6_restores_8 : At kX6_restores 8 (.getfield 7) 3 11 := ⟨by decide +kernel, rfl⟩
theorem aX6_restores_11 : At kX6_restores 11 (.iconst 2) 1 12 := ⟨by decide +kernel, rfl⟩
theorem aX6_restores_12 : At kX6_restores 12 (.iaload) 1 13 := ⟨by decide +kernel, rfl⟩
theorem aX6_restores_13 : At kX6_restores 13 (.istore_n 3) 1 14 := ⟨by decide +kernel, rfl⟩
theorem aX6_restores_14 : At kX6_restores 14 (.iload_n 3) 1 15 := ⟨by decide +kernel, rfl⟩
theorem aX6_restores_15 : At kX6_restores 15 (.iload_n 2) 1 16 := ⟨by decide +kernel, rfl⟩
theorem aX6_restores_16 : At kX6_restores 16 (.if_icmp .ge 32) 3 19 := ⟨by decide +kernel, rfl⟩
theorem aX6_restores_19 : At kX6_restores 19 (.aload_n 0) 1 20 := ⟨by decide +kernel, rfl⟩
theorem aX6_restores_20 : At kX6_restores 20 (.iload_n 1) 1 21 := ⟨by decide +kernel, rfl⟩
theorem aX6_restores_21 : At kX6_restores 21 (.iload_n 3) 1 22 := ⟨by decide +kernel, rfl⟩
theorem aX6_restores_22 : At kX6_restores 22 (.iload_n 2) 1 23 := ⟨by decide +kernel, rfl⟩
theorem aX6_restores_23 : At kX6_restores 23 (.invokevirtual 73) 3 26 := ⟨by decide +kernel, rfl⟩
theorem aX6_restores_26 : At kX6_restores 26 (.ifCond .eq 16) 3 29 := ⟨by decide +kernel, rfl⟩
theorem aX6_restores_29 : At kX6_restores 29 (.aload_n 0) 1 30 := ⟨by decide +kernel, rfl⟩
theorem aX6_restores_30 : At kX6_restores 30 (.aload_n 0) 1 31 := ⟨by decide +kernel, rfl⟩
theorem aX6_restores_31 : At kX6_restores 31 (.getfield 7) 3 34 := ⟨by decide +kernel, rfl⟩
theorem aX6_restores_34 : At kX6_restores 34 (.aload_n 0) 1 35 := ⟨by decide +kernel, rfl⟩
theorem aX6_restores_35 : At kX6_restores 35 (.iload_n 3) 1 36 := ⟨by decide +kernel, rfl⟩
theorem aX6_restores_36 : At kX6_restores 36 (.invokevirtual 55) 3 39 := ⟨by decide +kernel, rfl⟩
theorem aX6_restores_39 : At kX6_restores 39 (.invokevirtual 87) 3 42 := ⟨by decide +kernel, rfl⟩
theorem aX6_restores_42 : At kX6_restores 42 (.iinc 3 1) 3 45 := ⟨by decide +kernel, rfl⟩
theorem aX6_restores_45 : At kX6_restores 45 (.goto (-31)) 3 48 := ⟨by decide +kernel, rfl⟩
theorem aX6_restores_48 : At kX6_restores 48 (.return_) 1 49 := ⟨by decide +kernel, rfl⟩
theorem aX6_used_0 : At kX6_used 0 (.iconst 0) 1 1 := ⟨by decide +kernel, rfl⟩
theorem aX6_used_1 : At kX6_used 1 (.istore_n 1) 1 2 := ⟨by decide +kernel, rfl⟩
theorem aX6_used_2 : At kX6_used 2 (.aload_n 0) 1 3 := ⟨by decide +kernel, rfl⟩
theorem aX6_used_3 : At kX6_used 3 (.getfield 7) 3 6 := ⟨by decide +kernel, rfl⟩
theorem aX6_used_6 : At kX6_used 6 (.iconst 2) 1 7 := ⟨by decide +kernel, rfl⟩
theorem aX6_used_7 : At kX6_used 7 (.iaload) 1 8 := ⟨by decide +kernel, rfl⟩
theorem aX6_used_8 : At kX6_used 8 (.istore_n 2) 1 9 := ⟨by decide +kernel, rfl⟩
theorem aX6_used_9 : At kX6_used 9 (.iload_n 2) 1 10 := ⟨by decide +kernel, rfl⟩
theorem aX6_used_10 : At kX6_used 10 (.aload_n 0) 1 11 := ⟨by decide +kernel, rfl⟩
theorem aX6_used_11 : At kX6_used 11 (.getfield 7) 3 14 := ⟨by decide +kernel, rfl⟩
theorem aX6_used_14 : At kX6_used 14 (.iconst 3) 1 15 := ⟨by decide +kernel, rfl⟩
theorem aX6_used_15 : At kX6_used 15 (.iaload) 1 16 := ⟨by decide +kernel, rfl⟩
theorem aX6_used_16 : At kX6_used 16 (.if_icmp .ge 24) 3 19 := ⟨by decide +kernel, rfl⟩
theorem aX6_used_19 : At kX6_used 19 (.iload_n 1) 1 20 := ⟨by decide +kernel, rfl⟩
theorem aX6_used_20 : At kX6_used 20 (.aload_n 0) 1 21 := ⟨by decide +kernel, rfl⟩
theorem aX6_used_21 : At kX6_used 21 (.getfield 7) 3 24 := ⟨by decide +kernel, rfl⟩
theorem aX6_used_24 : At kX6_used 24 (.aload_n 0) 1 25 := ⟨by decide +kernel, rfl⟩
theorem aX6_used_25 : At kX6_used 25 (.iload_n 2) 1 26 := ⟨by decide +kernel, rfl⟩
theorem aX6_used_26 : At kX6_used 26 (.invokevirtual 55) 3 29 := ⟨by decide +kernel, rfl⟩
theorem aX6_used_29 : At kX6_used 29 (.invokestatic 63) 3 32 := ⟨by decide +kernel, rfl⟩
theorem aX6_used_32 : At kX6_used 32 (.iadd) 1 33 := ⟨by decide +kernel, rfl⟩
theorem aX6_used_33 : At kX6_used 33 (.istore_n 1) 1 34 := ⟨by decide +kernel, rfl⟩
theorem aX6_used_34 : At kX6_used 34 (.iinc 2 1) 3 37 := ⟨by decide +kernel, rfl⟩
theorem aX6_used_37 : At kX6_used 37 (.goto (-28)) 3 40 := ⟨by decide +kernel, rfl⟩
theorem aX6_used_40 : At kX6_used 40 (.iload_n 1) 1 41 := ⟨by decide +kernel, rfl⟩
theorem aX6_used_41 : At kX6_used 41 (.ireturn) 1 42 := ⟨by decide +kernel, rfl⟩
theorem aX6_droppable_0 : At kX6_droppable 0 (.aload_n 0) 1 1 := ⟨by decide +kernel, rfl⟩
theorem aX6_droppable_1 : At kX6_droppable 1 (.invokevirtual 91) 3 4 := ⟨by decide +kernel, rfl⟩
theorem aX6_droppable_4 : At kX6_droppable 4 (.istore_n 2) 1 5 := ⟨by decide +kernel, rfl⟩
theorem aX6_droppable_5 : At kX6_droppable 5 (.iconst 0) 1 6 := ⟨by decide +kernel, rfl⟩
theorem aX6_droppable_6 : At kX6_droppable 6 (.istore_n 3) 1 7 := ⟨by decide +kernel, rfl⟩
theorem aX6_droppable_7 : At kX6_droppable 7 (.iload_n 2) 1 8 := ⟨by decide +kernel, rfl⟩
theorem aX6_droppable_8 : At kX6_droppable 8 (.iload_n 1) 1 9 := ⟨by decide +kernel, rfl⟩
theorem aX6_droppable_9 : At kX6_droppable 9 (.if_icmp .le 63) 3 12 := ⟨by decide +kernel, rfl⟩
theorem aX6_droppable_12 : At kX6_droppable 12 (.aload_n 0) 1 13 := ⟨by decide +kernel, rfl⟩
theorem aX6_droppable_13 : At kX6_droppable 13 (.getfield 7) 3 16 := ⟨by decide +kernel, rfl⟩
theorem aX6_droppable_16 : At kX6_droppable 16 (.iconst 2) 1 17 := ⟨by decide +kernel, rfl⟩
theorem aX6_droppable_17 : At kX6_droppable 17 (.iaload) 1 18 := ⟨by decide +kernel, rfl⟩
theorem aX6_droppable_18 : At kX6_droppable 18 (.iload_n 3) 1 19 := ⟨by decide +kernel, rfl⟩
theorem aX6_droppable_19 : At kX6_droppable 19 (.iadd) 1 20 := ⟨by decide +kernel, rfl⟩
theorem aX6_droppable_20 : At kX6_droppable 20 (.aload_n 0) 1 21 := ⟨by decide +kernel, rfl⟩
theorem aX6_droppable_21 : At kX6_droppable 21 (.getfield 7) 3 24 := ⟨by decide +kernel, rfl⟩
theorem aX6_droppable_24 : At kX6_droppable 24 (.iconst 4) 1 25 := ⟨by decide +kernel, rfl⟩
theorem aX6_droppable_25 : At kX6_droppable 25 (.iaload) 1 26 := ⟨by decide +kernel, rfl⟩
theorem aX6_droppable_26 : At kX6_droppable 26 (.if_icmp .ge 46) 3 29 := ⟨by decide +kernel, rfl⟩
theorem aX6_droppable_29 : At kX6_droppable 29 (.aload_n 0) 1 30 := ⟨by decide +kernel, rfl⟩
theorem aX6_droppable_30 : At kX6_droppable 30 (.aload_n 0) 1 31 := ⟨by decide +kernel, rfl⟩
theorem aX6_droppable_31 : At kX6_droppable 31 (.getfield 7) 3 34 := ⟨by decide +kernel, rfl⟩
theorem aX6_droppable_34 : At kX6_droppable 34 (.iconst 2) 1 35 := ⟨by decide +kernel, rfl⟩
theorem aX6_droppable_35 : At kX6_droppable 35 (.iaload) 1 36 := ⟨by decide +kernel, rfl⟩
theorem aX6_droppable_36 : At kX6_droppable 36 (.iload_n 3) 1 37 := ⟨by decide +kernel, rfl⟩
theorem aX6_droppable_37 : At kX6_droppable 37 (.iadd) 1 38 := ⟨by decide +kernel, rfl⟩
theorem aX6_droppable_38 : At kX6_droppable 38 (.invokevirtual 76) 3 41 := ⟨by decide +kernel, rfl⟩
theorem aX6_droppable_41 : At kX6_droppable 41 (.ifCond .ne 31) 3 44 := ⟨by decide +kernel, rfl⟩
theorem aX6_droppable_44 : At kX6_droppable 44 (.iload_n 2) 1 45 := ⟨by decide +kernel, rfl⟩
theorem aX6_droppable_45 : At kX6_droppable 45 (.aload_n 0) 1 46 := ⟨by decide +kernel, rfl⟩
theorem aX6_droppable_46 : At kX6_droppable 46 (.getfield 7) 3 49 := ⟨by decide +kernel, rfl⟩
theorem aX6_droppable_49 : At kX6_droppable 49 (.aload_n 0) 1 50 := ⟨by decide +kernel, rfl⟩
theorem aX6_droppable_50 : At kX6_droppable 50 (.aload_n 0) 1 51 := ⟨by decide +kernel, rfl⟩
theorem aX6_droppable_51 : At kX6_droppable 51 (.getfield 7) 3 54 := ⟨by decide +kernel, rfl⟩
theorem aX6_droppable_54 : At kX6_droppable 54 (.iconst 2) 1 55 := ⟨by decide +kernel, rfl⟩
theorem aX6_droppable_55 : At kX6_droppable 55 (.iaload) 1 56 := ⟨by decide +kernel, rfl⟩
theorem aX6_droppable_56 : At kX6_droppable 56 (.iload_n 3) 1 57 := ⟨by decide +kernel, rfl⟩
theorem aX6_droppable_57 : At kX6_droppable 57 (.iadd) 1 58 := ⟨by decide +kernel, rfl⟩
theorem aX6_droppable_58 : At kX6_droppable 58 (.invokevirtual 55) 3 61 := ⟨by decide +kernel, rfl⟩
theorem aX6_droppable_61 : At kX6_droppable 61 (.invokestatic 63) 3 64 := ⟨by decide +kernel, rfl⟩
theorem aX6_droppable_64 : At kX6_droppable 64 (.isub) 1 65 := ⟨by decide +kernel, rfl⟩
theorem aX6_droppable_65 : At kX6_droppable 65 (.istore_n 2) 1 66 := ⟨by decide +kernel, rfl⟩
theorem aX6_droppable_66 : At kX6_droppable 66 (.iinc 3 1) 3 69 := ⟨by decide +kernel, rfl⟩
theorem aX6_droppable_69 : At kX6_droppable 69 (.goto (-62)) 3 72 := ⟨by decide +kernel, rfl⟩
theorem aX6_droppable_72 : At kX6_droppable 72 (.iload_n 3) 1 73 := ⟨by decide +kernel, rfl⟩
theorem aX6_droppable_73 : At kX6_droppable 73 (.ireturn) 1 74 := ⟨by decide +kernel, rfl⟩
theorem aX6_usedWithout_0 : At kX6_usedWithout 0 (.aload_n 0) 1 1 := ⟨by decide +kernel, rfl⟩
theorem aX6_usedWithout_1 : At kX6_usedWithout 1 (.invokevirtual 91) 3 4 := ⟨by decide +kernel, rfl⟩
theorem aX6_usedWithout_4 : At kX6_usedWithout 4 (.istore_n 2) 1 5 := ⟨by decide +kernel, rfl⟩
theorem aX6_usedWithout_5 : At kX6_usedWithout 5 (.iconst 0) 1 6 := ⟨by decide +kernel, rfl⟩
theorem aX6_usedWithout_6 : At kX6_usedWithout 6 (.istore_n 3) 1 7 := ⟨by decide +kernel, rfl⟩
theorem aX6_usedWithout_7 : At kX6_usedWithout 7 (.iload_n 3) 1 8 := ⟨by decide +kernel, rfl⟩
theorem aX6_usedWithout_8 : At kX6_usedWithout 8 (.iload_n 1) 1 9 := ⟨by decide +kernel, rfl⟩
theorem aX6_usedWithout_9 : At kX6_usedWithout 9 (.if_icmp .ge 31) 3 12 := ⟨by decide +kernel, rfl⟩
theorem aX6_usedWithout_12 : At kX6_usedWithout 12 (.iload_n 2) 1 13 := ⟨by decide +kernel, rfl⟩
theorem aX6_usedWithout_13 : At kX6_usedWithout 13 (.aload_n 0) 1 14 := ⟨by decide +kernel, rfl⟩
theorem aX6_usedWithout_14 : At kX6_usedWithout 14 (.getfield 7) 3 17 := ⟨by decide +kernel, rfl⟩
theorem aX6_usedWithout_17 : At kX6_usedWithout 17 (.aload_n 0) 1 18 := ⟨by decide +kernel, rfl⟩
theorem aX6_usedWithout_18 : At kX6_usedWithout 18 (.aload_n 0) 1 19 := ⟨by decide +kernel, rfl⟩
theorem aX6_usedWithout_19 : At kX6_usedWithout 19 (.getfield 7) 3 22 := ⟨by decide +kernel, rfl⟩
theorem aX6_usedWithout_22 : At kX6_usedWithout 22 (.iconst 2) 1 23 := ⟨by decide +kernel, rfl⟩
theorem aX6_usedWithout_23 : At kX6_usedWithout 23 (.iaload) 1 24 := ⟨by decide +kernel, rfl⟩
theorem aX6_usedWithout_24 : At kX6_usedWithout 24 (.iload_n 3) 1 25 := ⟨by decide +kernel, rfl⟩
theorem aX6_usedWithout_25 : At kX6_usedWithout 25 (.iadd) 1 26 := ⟨by decide +kernel, rfl⟩
theorem aX6_usedWithout_26 : At kX6_usedWithout 26 (.invokevirtual 55) 3 29 := ⟨by decide +kernel, rfl⟩
theorem aX6_usedWithout_29 : At kX6_usedWithout 29 (.invokestatic 63) 3 32 := ⟨by decide +kernel, rfl⟩
theorem aX6_usedWithout_32 : At kX6_usedWithout 32 (.isub) 1 33 := ⟨by decide +kernel, rfl⟩
theorem aX6_usedWithout_33 : At kX6_usedWithout 33 (.istore_n 2) 1 34 := ⟨by decide +kernel, rfl⟩
theorem aX6_usedWithout_34 : At kX6_usedWithout 34 (.iinc 3 1) 3 37 := ⟨by decide +kernel, rfl⟩
theorem aX6_usedWithout_37 : At kX6_usedWithout 37 (.goto (-30)) 3 40 := ⟨by decide +kernel, rfl⟩
theorem aX6_usedWithout_40 : At kX6_usedWithout 40 (.iload_n 2) 1 41 := ⟨by decide +kernel, rfl⟩
theorem aX6_usedWithout_41 : At kX6_usedWithout 41 (.ireturn) 1 42 := ⟨by decide +kernel, rfl⟩
theorem aX6_drops_0 : At kX6_drops 0 (.iconst 0) 1 1 := ⟨by decide +kernel, rfl⟩
theorem aX6_drops_1 : At kX6_drops 1 (.istore_n 2) 1 2 := ⟨by decide +kernel, rfl⟩
theorem aX6_drops_2 : At kX6_drops 2 (.iload_n 2) 1 3 := ⟨by decide +kernel, rfl⟩
theorem aX6_drops_3 : At kX6_drops 3 (.iload_n 1) 1 4 := ⟨by decide +kernel, rfl⟩
theorem aX6_drops_4 : At kX6_drops 4 (.if_icmp .ge 39) 3 7 := ⟨by decide +kernel, rfl⟩
theorem aX6_drops_7 : At kX6_drops 7 (.aload_n 0) 1 8 := ⟨by decide +kernel, rfl⟩
theorem aX6_drops_8 : At kX6_drops 8 (.getfield 7) 3 11 := ⟨by decide +kernel, rfl⟩
theorem aX6_drops_11 : At kX6_drops 11 (.sipush 164) 3 14 := ⟨by decide +kernel, rfl⟩
theorem aX6_drops_14 : At kX6_drops 14 (.aload_n 0) 1 15 := ⟨by decide +kernel, rfl⟩
theorem aX6_drops_15 : At kX6_drops 15 (.aload_n 0) 1 16 := ⟨by decide +kernel, rfl⟩
theorem aX6_drops_16 : At kX6_drops 16 (.getfield 7) 3 19 := ⟨by decide +kernel, rfl⟩
theorem aX6_drops_19 : At kX6_drops 19 (.iconst 2) 1 20 := ⟨by decide +kernel, rfl⟩
theorem aX6_drops_20 : At kX6_drops 20 (.iaload) 1 21 := ⟨by decide +kernel, rfl⟩
theorem aX6_drops_21 : At kX6_drops 21 (.iload_n 2) 1 22 := ⟨by decide +kernel, rfl⟩
theorem aX6_drops_22 : At kX6_drops 22 (.iadd) 1 23 := ⟨by decide +kernel, rfl⟩
theorem aX6_drops_23 : At kX6_drops 23 (.iconst 0) 1 24 := ⟨by decide +kernel, rfl⟩
theorem aX6_drops_24 : At kX6_drops 24 (.invokevirtual 66) 3 27 := ⟨by decide +kernel, rfl⟩
theorem aX6_drops_27 : At kX6_drops 27 (.iadd) 1 28 := ⟨by decide +kernel, rfl⟩
theorem aX6_drops_28 : At kX6_drops 28 (.aload_n 0) 1 29 := ⟨by decide +kernel, rfl⟩
theorem aX6_drops_29 : At kX6_drops 29 (.getfield 7) 3 32 := ⟨by decide +kernel, rfl⟩
theorem aX6_drops_32 : At kX6_drops 32 (.iconst 2) 1 33 := ⟨by decide +kernel, rfl⟩
theorem aX6_drops_33 : At kX6_drops 33 (.iaload) 1 34 := ⟨by decide +kernel, rfl⟩
theorem aX6_drops_34 : At kX6_drops 34 (.iload_n 2) 1 35 := ⟨by decide +kernel, rfl⟩
theorem aX6_drops_35 : At kX6_drops 35 (.iadd) 1 36 := ⟨by decide +kernel, rfl⟩
theorem aX6_drops_36 : At kX6_drops 36 (.iastore) 1 37 := ⟨by decide +kernel, rfl⟩
theorem aX6_drops_37 : At kX6_drops 37 (.iinc 2 1) 3 40 := ⟨by decide +kernel, rfl⟩
theorem aX6_drops_40 : At kX6_drops 40 (.goto (-38)) 3 43 := ⟨by decide +kernel, rfl⟩
theorem aX6_drops_43 : At kX6_drops 43 (.aload_n 0) 1 44 := ⟨by decide +kernel, rfl⟩
theorem aX6_drops_44 : At kX6_drops 44 (.getfield 7) 3 47 := ⟨by decide +kernel, rfl⟩
theorem aX6_drops_47 : At kX6_drops 47 (.iconst 2) 1 48 := ⟨by decide +kernel, rfl⟩
theorem aX6_drops_48 : At kX6_drops 48 (.dup2) 1 49 := ⟨by decide +kernel, rfl⟩
theorem aX6_drops_49 : At kX6_drops 49 (.iaload) 1 50 := ⟨by decide +kernel, rfl⟩
theorem aX6_drops_50 : At kX6_drops 50 (.iload_n 1) 1 51 := ⟨by decide +kernel, rfl⟩
theorem aX6_drops_51 : At kX6_drops 51 (.iadd) 1 52 := ⟨by decide +kernel, rfl⟩
theorem aX6_drops_52 : At kX6_drops 52 (.iastore) 1 53 := ⟨by decide +kernel, rfl⟩
theorem aX6_drops_53 : At kX6_drops 53 (.sipush 170) 3 56 := ⟨by decide +kernel, rfl⟩
theorem aX6_drops_56 : At kX6_drops 56 (.istore_n 2) 1 57 := ⟨by decide +kernel, rfl⟩
theorem aX6_drops_57 : At kX6_drops 57 (.iload_n 2) 1 58 := ⟨by decide +kernel, rfl⟩
theorem aX6_drops_58 : At kX6_drops 58 (.sipush 170) 3 61 := ⟨by decide +kernel, rfl⟩
theorem aX6_drops_61 : At kX6_drops 61 (.bipush 17) 2 63 := ⟨by decide +kernel, rfl⟩
theorem aX6_drops_63 : At kX6_drops 63 (.aload_n 0) 1 64 := ⟨by decide +kernel, rfl⟩
theorem aX6_drops_64 : At kX6_drops 64 (.getfield 7) 3 67 := ⟨by decide +kernel, rfl⟩
theorem aX6_drops_67 : At kX6_drops 67 (.iconst 3) 1 68 := ⟨by decide +kernel, rfl⟩
theorem aX6_drops_68 : At kX6_drops 68 (.iaload) 1 69 := ⟨by decide +kernel, rfl⟩
theorem aX6_drops_69 : At kX6_drops 69 (.aload_n 0) 1 70 := ⟨by decide +kernel, rfl⟩
theorem aX6_drops_70 : At kX6_drops 70 (.getfield 7) 3 73 := ⟨by decide +kernel, rfl⟩
theorem aX6_drops_73 : At kX6_drops 73 (.iconst 2) 1 74 := ⟨by decide +kernel, rfl⟩
theorem aX6_drops_74 : At kX6_drops 74 (.iaload) 1 75 := ⟨by decide +kernel, rfl⟩
theorem aX6_drops_75 : At kX6_drops 75 (.isub) 1 76 := ⟨by decide +kernel, rfl⟩
theorem aX6_drops_76 : At kX6_drops 76 (.imul) 1 77 := ⟨by decide +kernel, rfl⟩
theorem aX6_drops_77 : At kX6_drops 77 (.iadd) 1 78 := ⟨by decide +kernel, rfl⟩
theorem aX6_drops_78 : At kX6_drops 78 (.if_icmp .ge 26) 3 81 := ⟨by decide +kernel, rfl⟩
theorem aX6_drops_81 : At kX6_drops 81 (.aload_n 0) 1 82 := ⟨by decide +kernel, rfl⟩
theorem aX6_drops_82 : At kX6_drops 82 (.getfield 7) 3 85 := ⟨by decide +kernel, rfl⟩
theorem aX6_drops_85 : At kX6_drops 85 (.iload_n 2) 1 86 := ⟨by decide +kernel, rfl⟩
theorem aX6_drops_86 : At kX6_drops 86 (.aload_n 0) 1 87 := ⟨by decide +kernel, rfl⟩
theorem aX6_drops_87 : At kX6_drops 87 (.getfield 7) 3 90 := ⟨by decide +kernel, rfl⟩
theorem aX6_drops_90 : At kX6_drops 90 (.iload_n 2) 1 91 := ⟨by decide +kernel, rfl⟩
theorem aX6_drops_91 : At kX6_drops 91 (.bipush 17) 2 93 := ⟨by decide +kernel, rfl⟩
theorem aX6_drops_93 : At kX6_drops 93 (.iload_n 1) 1 94 := ⟨by decide +kernel, rfl⟩
theorem aX6_drops_94 : At kX6_drops 94 (.imul) 1 95 := ⟨by decide +kernel, rfl⟩
theorem aX6_drops_95 : At kX6_drops 95 (.iadd) 1 96 := ⟨by decide +kernel, rfl⟩
theorem aX6_drops_96 : At kX6_drops 96 (.iaload) 1 97 := ⟨by decide +kernel, rfl⟩
theorem aX6_drops_97 : At kX6_drops 97 (.iastore) 1 98 := ⟨by decide +kernel, rfl⟩
theorem aX6_drops_98 : At kX6_drops 98 (.iinc 2 1) 3 101 := ⟨by decide +kernel, rfl⟩
theorem aX6_drops_101 : At kX6_drops 101 (.goto (-44)) 3 104 := ⟨by decide +kernel, rfl⟩
theorem aX6_drops_104 : At kX6_drops 104 (.return_) 1 105 := ⟨by decide +kernel, rfl⟩
theorem aX6_makes_0 : At kX6_makes 0 (.iconst 0) 1 1 := ⟨by decide +kernel, rfl⟩
theorem aX6_makes_1 : At kX6_makes 1 (.istore 6) 2 3 := ⟨by decide +kernel, rfl⟩
theorem aX6_makes_3 : At kX6_makes 3 (.iload 6) 2 5 := ⟨by decide +kernel, rfl⟩
theorem aX6_makes_5 : At kX6_makes 5 (.bipush 17) 2 7 := ⟨by decide +kernel, rfl⟩
theorem aX6_makes_7 : At kX6_makes 7 (.if_icmp .ge 17) 3 10 := ⟨by decide +kernel, rfl⟩
theorem aX6_makes_10 : At kX6_makes 10 (.aload_n 0) 1 11 := ⟨by decide +kernel, rfl⟩
theorem aX6_makes_11 : At kX6_makes 11 (.getfield 32) 3 14 := ⟨by decide +kernel, rfl⟩
theorem aX6_makes_14 : At kX6_makes 14 (.iload 6) 2 16 := ⟨by decide +kernel, rfl⟩
theorem aX6_makes_16 : At kX6_makes 16 (.iconst 0) 1 17 := ⟨by decide +kernel, rfl⟩
theorem aX6_makes_17 : At kX6_makes 17 (.iastore) 1 18 := ⟨by decide +kernel, rfl⟩
theorem aX6_makes_18 : At kX6_makes 18 (.iinc 6 1) 3 21 := ⟨by decide +kernel, rfl⟩
theorem aX6_makes_21 : At kX6_makes 21 (.goto (-18)) 3 24 := ⟨by decide +kernel, rfl⟩
theorem aX6_makes_24 : At kX6_makes 24 (.aload_n 0) 1 25 := ⟨by decide +kernel, rfl⟩
theorem aX6_makes_25 : At kX6_makes 25 (.getfield 32) 3 28 := ⟨by decide +kernel, rfl⟩
theorem aX6_makes_28 : At kX6_makes 28 (.iconst 0) 1 29 := ⟨by decide +kernel, rfl⟩
theorem aX6_makes_29 : At kX6_makes 29 (.iload_n 1) 1 30 := ⟨by decide +kernel, rfl⟩
theorem aX6_makes_30 : At kX6_makes 30 (.iastore) 1 31 := ⟨by decide +kernel, rfl⟩
theorem aX6_makes_31 : At kX6_makes 31 (.aload_n 0) 1 32 := ⟨by decide +kernel, rfl⟩
theorem aX6_makes_32 : At kX6_makes 32 (.getfield 32) 3 35 := ⟨by decide +kernel, rfl⟩
theorem aX6_makes_35 : At kX6_makes 35 (.iconst 1) 1 36 := ⟨by decide +kernel, rfl⟩
theorem aX6_makes_36 : At kX6_makes 36 (.iload_n 2) 1 37 := ⟨by decide +kernel, rfl⟩
theorem aX6_makes_37 : At kX6_makes 37 (.iastore) 1 38 := ⟨by decide +kernel, rfl⟩
theorem aX6_makes_38 : At kX6_makes 38 (.aload_n 0) 1 39 := ⟨by decide +kernel, rfl⟩
theorem aX6_makes_39 : At kX6_makes 39 (.getfield 32) 3 42 := ⟨by decide +kernel, rfl⟩
theorem aX6_makes_42 : At kX6_makes 42 (.iconst 2) 1 43 := ⟨by decide +kernel, rfl⟩
theorem aX6_makes_43 : At kX6_makes 43 (.iload_n 3) 1 44 := ⟨by decide +kernel, rfl⟩
theorem aX6_makes_44 : At kX6_makes 44 (.iastore) 1 45 := ⟨by decide +kernel, rfl⟩
theorem aX6_makes_45 : At kX6_makes 45 (.aload_n 0) 1 46 := ⟨by decide +kernel, rfl⟩
theorem aX6_makes_46 : At kX6_makes 46 (.getfield 32) 3 49 := ⟨by decide +kernel, rfl⟩
theorem aX6_makes_49 : At kX6_makes 49 (.iconst 3) 1 50 := ⟨by decide +kernel, rfl⟩
theorem aX6_makes_50 : At kX6_makes 50 (.iload 4) 2 52 := ⟨by decide +kernel, rfl⟩
theorem aX6_makes_52 : At kX6_makes 52 (.iastore) 1 53 := ⟨by decide +kernel, rfl⟩
theorem aX6_makes_53 : At kX6_makes 53 (.aload_n 0) 1 54 := ⟨by decide +kernel, rfl⟩
theorem aX6_makes_54 : At kX6_makes 54 (.getfield 32) 3 57 := ⟨by decide +kernel, rfl⟩
theorem aX6_makes_57 : At kX6_makes 57 (.iconst 5) 1 58 := ⟨by decide +kernel, rfl⟩
theorem aX6_makes_58 : At kX6_makes 58 (.iload 5) 2 60 := ⟨by decide +kernel, rfl⟩
theorem aX6_makes_60 : At kX6_makes 60 (.iastore) 1 61 := ⟨by decide +kernel, rfl⟩
theorem aX6_makes_61 : At kX6_makes 61 (.return_) 1 62 := ⟨by decide +kernel, rfl⟩
theorem aX6_chooses_0 : At kX6_chooses 0 (.aload_n 0) 1 1 := ⟨by decide +kernel, rfl⟩
theorem aX6_chooses_1 : At kX6_chooses 1 (.getfield 32) 3 4 := ⟨by decide +kernel, rfl⟩
theorem aX6_chooses_4 : At kX6_chooses 4 (.iconst 0) 1 5 := ⟨by decide +kernel, rfl⟩
theorem aX6_chooses_5 : At kX6_chooses 5 (.iaload) 1 6 := ⟨by decide +kernel, rfl⟩
theorem aX6_chooses_6 : At kX6_chooses 6 (.istore_n 1) 1 7 := ⟨by decide +kernel, rfl⟩
theorem aX6_chooses_7 : At kX6_chooses 7 (.aload_n 0) 1 8 := ⟨by decide +kernel, rfl⟩
theorem aX6_chooses_8 : At kX6_chooses 8 (.bipush 8) 2 10 := ⟨by decide +kernel, rfl⟩
theorem aX6_chooses_10 : At kX6_chooses 10 (.iload_n 1) 1 11 := ⟨by decide +kernel, rfl⟩
theorem aX6_chooses_11 : At kX6_chooses 11 (.invokevirtual 83) 3 14 := ⟨by decide +kernel, rfl⟩
theorem aX6_chooses_14 : At kX6_chooses 14 (.aload_n 0) 1 15 := ⟨by decide +kernel, rfl⟩
theorem aX6_chooses_15 : At kX6_chooses 15 (.iload_n 1) 1 16 := ⟨by decide +kernel, rfl⟩
theorem aX6_chooses_16 : At kX6_chooses 16 (.invokevirtual 95) 3 19 := ⟨by decide +kernel, rfl⟩
theorem aX6_chooses_19 : At kX6_chooses 19 (.aload_n 0) 1 20 := ⟨by decide +kernel, rfl⟩
theorem aX6_chooses_20 : At kX6_chooses 20 (.getfield 32) 3 23 := ⟨by decide +kernel, rfl⟩
theorem aX6_chooses_23 : At kX6_chooses 23 (.iconst 0) 1 24 := ⟨by decide +kernel, rfl⟩
theorem aX6_chooses_24 : At kX6_chooses 24 (.invokestatic 80) 3 27 := ⟨by decide +kernel, rfl⟩
theorem aX6_chooses_27 : At kX6_chooses 27 (.iadd) 1 28 := ⟨by decide +kernel, rfl⟩
theorem aX6_chooses_28 : At kX6_chooses 28 (.istore_n 2) 1 29 := ⟨by decide +kernel, rfl⟩
theorem aX6_chooses_29 : At kX6_chooses 29 (.aload_n 0) 1 30 := ⟨by decide +kernel, rfl⟩
theorem aX6_chooses_30 : At kX6_chooses 30 (.aload_n 0) 1 31 := ⟨by decide +kernel, rfl⟩
theorem aX6_chooses_31 : At kX6_chooses 31 (.getfield 32) 3 34 := ⟨by decide +kernel, rfl⟩
theorem aX6_chooses_34 : At kX6_chooses 34 (.iconst 0) 1 35 := ⟨by decide +kernel, rfl⟩
theorem aX6_chooses_35 : At kX6_chooses 35 (.invokevirtual 87) 3 38 := ⟨by decide +kernel, rfl⟩
theorem aX6_chooses_38 : At kX6_chooses 38 (.aload_n 0) 1 39 := ⟨by decide +kernel, rfl⟩
theorem aX6_chooses_39 : At kX6_chooses 39 (.getfield 7) 3 42 := ⟨by decide +kernel, rfl⟩
theorem aX6_chooses_42 : At kX6_chooses 42 (.iconst 0) 1 43 := ⟨by decide +kernel, rfl⟩
theorem aX6_chooses_43 : At kX6_chooses 43 (.iaload) 1 44 := ⟨by decide +kernel, rfl⟩
theorem aX6_chooses_44 : At kX6_chooses 44 (.iconst 1) 1 45 := ⟨by decide +kernel, rfl⟩
theorem aX6_chooses_45 : At kX6_chooses 45 (.if_icmp .eq 25) 3 48 := ⟨by decide +kernel, rfl⟩
theorem aX6_chooses_48 : At kX6_chooses 48 (.aload_n 0) 1 49 := ⟨by decide +kernel, rfl⟩
theorem aX6_chooses_49 : At kX6_chooses 49 (.getfield 7) 3 52 := ⟨by decide +kernel, rfl⟩
theorem aX6_chooses_52 : At kX6_chooses 52 (.iconst 0) 1 53 := ⟨by decide +kernel, rfl⟩
theorem aX6_chooses_53 : At kX6_chooses 53 (.iaload) 1 54 := ⟨by decide +kernel, rfl⟩
theorem aX6_chooses_54 : At kX6_chooses 54 (.iconst 2) 1 55 := ⟨by decide +kernel, rfl⟩
theorem aX6_chooses_55 : At kX6_chooses 55 (.if_icmp .ne 19) 3 58 := ⟨by decide +kernel, rfl⟩
theorem aX6_chooses_58 : At kX6_chooses 58 (.iload_n 2) 1 59 := ⟨by decide +kernel, rfl⟩
theorem aX6_chooses_59 : At kX6_chooses 59 (.aload_n 0) 1 60 := ⟨by decide +kernel, rfl⟩
theorem aX6_chooses_60 : At kX6_chooses 60 (.getfield 26) 3 63 := ⟨by decide +kernel, rfl⟩
theorem aX6_chooses_63 : At kX6_chooses 63 (.iconst 0) 1 64 := ⟨by decide +kernel, rfl⟩
theorem aX6_chooses_64 : At kX6_chooses 64 (.invokestatic 59) 3 67 := ⟨by decide +kernel, rfl⟩
theorem aX6_chooses_67 : At kX6_chooses 67 (.if_icmp .le 7) 3 70 := ⟨by decide +kernel, rfl⟩
theorem aX6_chooses_70 : At kX6_chooses 70 (.iconst 1) 1 71 := ⟨by decide +kernel, rfl⟩
theorem aX6_chooses_71 : At kX6_chooses 71 (.goto 4) 3 74 := ⟨by decide +kernel, rfl⟩
theorem aX6_chooses_74 : At kX6_chooses 74 (.iconst 0) 1 75 := ⟨by decide +kernel, rfl⟩
theorem aX6_chooses_75 : At kX6_chooses 75 (.istore_n 3) 1 76 := ⟨by decide +kernel, rfl⟩
theorem aX6_chooses_76 : At kX6_chooses 76 (.iload_n 3) 1 77 := ⟨by decide +kernel, rfl⟩
theorem aX6_chooses_77 : At kX6_chooses 77 (.ifCond .eq 8) 3 80 := ⟨by decide +kernel, rfl⟩
theorem aX6_chooses_80 : At kX6_chooses 80 (.aload_n 0) 1 81 := ⟨by decide +kernel, rfl⟩
theorem aX6_chooses_81 : At kX6_chooses 81 (.iload_n 1) 1 82 := ⟨by decide +kernel, rfl⟩
theorem aX6_chooses_82 : At kX6_chooses 82 (.invokevirtual 98) 3 85 := ⟨by decide +kernel, rfl⟩
theorem aX6_chooses_85 : At kX6_chooses 85 (.return_) 1 86 := ⟨by decide +kernel, rfl⟩
theorem aX6_pictures_0 : At kX6_pictures 0 (.aload_n 0) 1 1 := ⟨by decide +kernel, rfl⟩
theorem aX6_pictures_1 : At kX6_pictures 1 (.iload_n 1) 1 2 := ⟨by decide +kernel, rfl⟩
theorem aX6_pictures_2 : At kX6_pictures 2 (.iconst 0) 1 3 := ⟨by decide +kernel, rfl⟩
theorem aX6_pictures_3 : At kX6_pictures 3 (.iconst 0) 1 4 := ⟨by decide +kernel, rfl⟩
theorem aX6_pictures_4 : At kX6_pictures 4 (.bipush 12) 2 6 := ⟨by decide +kernel, rfl⟩
theorem aX6_pictures_6 : At kX6_pictures 6 (.iconst 0) 1 7 := ⟨by decide +kernel, rfl⟩
theorem aX6_pictures_7 : At kX6_pictures 7 (.invokevirtual 102) 3 10 := ⟨by decide +kernel, rfl⟩
theorem aX6_pictures_10 : At kX6_pictures 10 (.iconst 0) 1 11 := ⟨by decide +kernel, rfl⟩
theorem aX6_pictures_11 : At kX6_pictures 11 (.istore_n 2) 1 12 := ⟨by decide +kernel, rfl⟩
theorem aX6_pictures_12 : At kX6_pictures 12 (.iload_n 2) 1 13 := ⟨by decide +kernel, rfl⟩
theorem aX6_pictures_13 : At kX6_pictures 13 (.bipush 12) 2 15 := ⟨by decide +kernel, rfl⟩
theorem aX6_pictures_15 : At kX6_pictures 15 (.if_icmp .ge 23) 3 18 := ⟨by decide +kernel, rfl⟩
theorem aX6_pictures_18 : At kX6_pictures 18 (.aload_n 0) 1 19 := ⟨by decide +kernel, rfl⟩
theorem aX6_pictures_19 : At kX6_pictures 19 (.getfield 32) 3 22 := ⟨by decide +kernel, rfl⟩
theorem aX6_pictures_22 : At kX6_pictures 22 (.iconst 5) 1 23 := ⟨by decide +kernel, rfl⟩
theorem aX6_pictures_23 : At kX6_pictures 23 (.iload_n 2) 1 24 := ⟨by decide +kernel, rfl⟩
theorem aX6_pictures_24 : At kX6_pictures 24 (.iadd) 1 25 := ⟨by decide +kernel, rfl⟩
theorem aX6_pictures_25 : At kX6_pictures 25 (.aload_n 0) 1 26 := ⟨by decide +kernel, rfl⟩
theorem aX6_pictures_26 : At kX6_pictures 26 (.getfield 26) 3 29 := ⟨by decide +kernel, rfl⟩
theorem aX6_pictures_29 : At kX6_pictures 29 (.iload_n 2) 1 30 := ⟨by decide +kernel, rfl⟩
theorem aX6_pictures_30 : At kX6_pictures 30 (.iaload) 1 31 := ⟨by decide +kernel, rfl⟩
theorem aX6_pictures_31 : At kX6_pictures 31 (.iastore) 1 32 := ⟨by decide +kernel, rfl⟩
theorem aX6_pictures_32 : At kX6_pictures 32 (.iinc 2 1) 3 35 := ⟨by decide +kernel, rfl⟩
theorem aX6_pictures_35 : At kX6_pictures 35 (.goto (-23)) 3 38 := ⟨by decide +kernel, rfl⟩
theorem aX6_pictures_38 : At kX6_pictures 38 (.return_) 1 39 := ⟨by decide +kernel, rfl⟩
theorem aX6_hasRoom_0 : At kX6_hasRoom 0 (.aload_n 0) 1 1 := ⟨by decide +kernel, rfl⟩
theorem aX6_hasRoom_1 : At kX6_hasRoom 1 (.getfield 7) 3 4 := ⟨by decide +kernel, rfl⟩
theorem aX6_hasRoom_4 : At kX6_hasRoom 4 (.iconst 1) 1 5 := ⟨by decide +kernel, rfl⟩
theorem aX6_hasRoom_5 : At kX6_hasRoom 5 (.iaload) 1 6 := ⟨by decide +kernel, rfl⟩
theorem aX6_hasRoom_6 : At kX6_hasRoom 6 (.aload_n 0) 1 7 := ⟨by decide +kernel, rfl⟩
theorem aX6_hasRoom_7 : At kX6_hasRoom 7 (.getfield 32) 3 10 := ⟨by decide +kernel, rfl⟩
theorem aX6_hasRoom_10 : At kX6_hasRoom 10 (.iconst 0) 1 11 := ⟨by decide +kernel, rfl⟩
theorem aX6_hasRoom_11 : At kX6_hasRoom 11 (.invokestatic 63) 3 14 := ⟨by decide +kernel, rfl⟩
theorem aX6_hasRoom_14 : At kX6_hasRoom 14 (.isub) 1 15 := ⟨by decide +kernel, rfl⟩
theorem aX6_hasRoom_15 : At kX6_hasRoom 15 (.istore_n 1) 1 16 := ⟨by decide +kernel, rfl⟩
theorem aX6_hasRoom_16 : At kX6_hasRoom 16 (.aload_n 0) 1 17 := ⟨by decide +kernel, rfl⟩
theorem aX6_hasRoom_17 : At kX6_hasRoom 17 (.aload_n 0) 1 18 := ⟨by decide +kernel, rfl⟩
theorem aX6_hasRoom_18 : At kX6_hasRoom 18 (.iload_n 1) 1 19 := ⟨by decide +kernel, rfl⟩
theorem aX6_hasRoom_19 : At kX6_hasRoom 19 (.invokevirtual 106) 3 22 := ⟨by decide +kernel, rfl⟩
theorem aX6_hasRoom_22 : At kX6_hasRoom 22 (.invokevirtual 109) 3 25 := ⟨by decide +kernel, rfl⟩
theorem aX6_hasRoom_25 : At kX6_hasRoom 25 (.iload_n 1) 1 26 := ⟨by decide +kernel, rfl⟩
theorem aX6_hasRoom_26 : At kX6_hasRoom 26 (.if_icmp .gt 7) 3 29 := ⟨by decide +kernel, rfl⟩
theorem aX6_hasRoom_29 : At kX6_hasRoom 29 (.iconst 1) 1 30 := ⟨by decide +kernel, rfl⟩
theorem aX6_hasRoom_30 : At kX6_hasRoom 30 (.goto 4) 3 33 := ⟨by decide +kernel, rfl⟩
theorem aX6_hasRoom_33 : At kX6_hasRoom 33 (.iconst 0) 1 34 := ⟨by decide +kernel, rfl⟩
theorem aX6_hasRoom_34 : At kX6_hasRoom 34 (.ireturn) 1 35 := ⟨by decide +kernel, rfl⟩
theorem aX6_logs_0 : At kX6_logs 0 (.aload_n 0) 1 1 := ⟨by decide +kernel, rfl⟩
theorem aX6_logs_1 : At kX6_logs 1 (.aload_n 0) 1 2 := ⟨by decide +kernel, rfl⟩
theorem aX6_logs_2 : At kX6_logs 2 (.aload_n 0) 1 3 := ⟨by decide +kernel, rfl⟩
theorem aX6_logs_3 : At kX6_logs 3 (.getfield 7) 3 6 := ⟨by decide +kernel, rfl⟩
theorem aX6_logs_6 : At kX6_logs 6 (.iconst 1) 1 7 := ⟨by decide +kernel, rfl⟩
theorem aX6_logs_7 : At kX6_logs 7 (.iaload) 1 8 := ⟨by decide +kernel, rfl⟩
theorem aX6_logs_8 : At kX6_logs 8 (.aload_n 0) 1 9 := ⟨by decide +kernel, rfl⟩
theorem aX6_logs_9 : At kX6_logs 9 (.getfield 32) 3 12 := ⟨by decide +kernel, rfl⟩
theorem aX6_logs_12 : At kX6_logs 12 (.iconst 0) 1 13 := ⟨by decide +kernel, rfl⟩
theorem aX6_logs_13 : At kX6_logs 13 (.invokestatic 63) 3 16 := ⟨by decide +kernel, rfl⟩
theorem aX6_logs_16 : At kX6_logs 16 (.isub) 1 17 := ⟨by decide +kernel, rfl⟩
theorem aX6_logs_17 : At kX6_logs 17 (.invokevirtual 106) 3 20 := ⟨by decide +kernel, rfl⟩
theorem aX6_logs_20 : At kX6_logs 20 (.invokevirtual 112) 3 23 := ⟨by decide +kernel, rfl⟩
theorem aX6_logs_23 : At kX6_logs 23 (.aload_n 0) 1 24 := ⟨by decide +kernel, rfl⟩
theorem aX6_logs_24 : At kX6_logs 24 (.getfield 7) 3 27 := ⟨by decide +kernel, rfl⟩
theorem aX6_logs_27 : At kX6_logs 27 (.iconst 3) 1 28 := ⟨by decide +kernel, rfl⟩
theorem aX6_logs_28 : At kX6_logs 28 (.iaload) 1 29 := ⟨by decide +kernel, rfl⟩
theorem aX6_logs_29 : At kX6_logs 29 (.istore_n 1) 1 30 := ⟨by decide +kernel, rfl⟩
theorem aX6_logs_30 : At kX6_logs 30 (.aload_n 0) 1 31 := ⟨by decide +kernel, rfl⟩
theorem aX6_logs_31 : At kX6_logs 31 (.getfield 7) 3 34 := ⟨by decide +kernel, rfl⟩
theorem aX6_logs_34 : At kX6_logs 34 (.iconst 3) 1 35 := ⟨by decide +kernel, rfl⟩
theorem aX6_logs_35 : At kX6_logs 35 (.dup2) 1 36 := ⟨by decide +kernel, rfl⟩
theorem aX6_logs_36 : At kX6_logs 36 (.iaload) 1 37 := ⟨by decide +kernel, rfl⟩
theorem aX6_logs_37 : At kX6_logs 37 (.iconst 1) 1 38 := ⟨by decide +kernel, rfl⟩
theorem aX6_logs_38 : At kX6_logs 38 (.iadd) 1 39 := ⟨by decide +kernel, rfl⟩
theorem aX6_logs_39 : At kX6_logs 39 (.iastore) 1 40 := ⟨by decide +kernel, rfl⟩
theorem aX6_logs_40 : At kX6_logs 40 (.aload_n 0) 1 41 := ⟨by decide +kernel, rfl⟩
theorem aX6_logs_41 : At kX6_logs 41 (.getfield 32) 3 44 := ⟨by decide +kernel, rfl⟩
theorem aX6_logs_44 : At kX6_logs 44 (.iconst 0) 1 45 := ⟨by decide +kernel, rfl⟩
theorem aX6_logs_45 : At kX6_logs 45 (.iaload) 1 46 := ⟨by decide +kernel, rfl⟩
theorem aX6_logs_46 : At kX6_logs 46 (.istore_n 2) 1 47 := ⟨by decide +kernel, rfl⟩
theorem aX6_logs_47 : At kX6_logs 47 (.iconst 0) 1 48 := ⟨by decide +kernel, rfl⟩
theorem aX6_logs_48 : At kX6_logs 48 (.istore_n 3) 1 49 := ⟨by decide +kernel, rfl⟩
theorem aX6_logs_49 : At kX6_logs 49 (.iload_n 3) 1 50 := ⟨by decide +kernel, rfl⟩
theorem aX6_logs_50 : At kX6_logs 50 (.bipush 17) 2 52 := ⟨by decide +kernel, rfl⟩
theorem aX6_logs_52 : At kX6_logs 52 (.if_icmp .ge 27) 3 55 := ⟨by decide +kernel, rfl⟩
theorem aX6_logs_55 : At kX6_logs 55 (.aload_n 0) 1 56 := ⟨by decide +kernel, rfl⟩
theorem aX6_logs_56 : At kX6_logs 56 (.getfield 7) 3 59 := ⟨by decide +kernel, rfl⟩
theorem aX6_logs_59 : At kX6_logs 59 (.aload_n 0) 1 60 := ⟨by decide +kernel, rfl⟩
theorem aX6_logs_60 : At kX6_logs 60 (.iload_n 1) 1 61 := ⟨by decide +kernel, rfl⟩
theorem aX6_logs_61 : At kX6_logs 61 (.invokevirtual 55) 3 64 := ⟨by decide +kernel, rfl⟩
theorem aX6_logs_64 : At kX6_logs 64 (.iload_n 3) 1 65 := ⟨by decide +kernel, rfl⟩
theorem aX6_logs_65 : At kX6_logs 65 (.iadd) 1 66 := ⟨by decide +kernel, rfl⟩
theorem aX6_logs_66 : At kX6_logs 66 (.aload_n 0) 1 67 := ⟨by decide +kernel, rfl⟩
theorem aX6_logs_67 : At kX6_logs 67 (.getfield 32) 3 70 := ⟨by decide +kernel, rfl⟩
theorem aX6_logs_70 : At kX6_logs 70 (.iload_n 3) 1 71 := ⟨by decide +kernel, rfl⟩
theorem aX6_logs_71 : At kX6_logs 71 (.iaload) 1 72 := ⟨by decide +kernel, rfl⟩
theorem aX6_logs_72 : At kX6_logs 72 (.iastore) 1 73 := ⟨by decide +kernel, rfl⟩
theorem aX6_logs_73 : At kX6_logs 73 (.iinc 3 1) 3 76 := ⟨by decide +kernel, rfl⟩
theorem aX6_logs_76 : At kX6_logs 76 (.goto (-27)) 3 79 := ⟨by decide +kernel, rfl⟩
theorem aX6_logs_79 : At kX6_logs 79 (.iconst 0) 1 80 := ⟨by decide +kernel, rfl⟩
theorem aX6_logs_80 : At kX6_logs 80 (.istore_n 3) 1 81 := ⟨by decide +kernel, rfl⟩
theorem aX6_logs_81 : At kX6_logs 81 (.iload_n 3) 1 82 := ⟨by decide +kernel, rfl⟩
theorem aX6_logs_82 : At kX6_logs 82 (.bipush 12) 2 84 := ⟨by decide +kernel, rfl⟩
theorem aX6_logs_84 : At kX6_logs 84 (.if_icmp .ge 29) 3 87 := ⟨by decide +kernel, rfl⟩
theorem aX6_logs_87 : At kX6_logs 87 (.aload_n 0) 1 88 := ⟨by decide +kernel, rfl⟩
theorem aX6_logs_88 : At kX6_logs 88 (.getfield 7) 3 91 := ⟨by decide +kernel, rfl⟩
theorem aX6_logs_91 : At kX6_logs 91 (.bipush 8) 2 93 := ⟨by decide +kernel, rfl⟩
theorem aX6_logs_93 : At kX6_logs 93 (.bipush 12) 2 95 := ⟨by decide +kernel, rfl⟩
theorem aX6_logs_95 : At kX6_logs 95 (.iload_n 2) 1 96 := ⟨by decide +kernel, rfl⟩
theorem aX6_logs_96 : At kX6_logs 96 (.imul) 1 97 := ⟨by decide +kernel, rfl⟩
theorem aX6_logs_97 : At kX6_logs 97 (.iadd) 1 98 := ⟨by decide +kernel, rfl⟩
theorem aX6_logs_98 : At kX6_logs 98 (.iload_n 3) 1 99 := ⟨by decide +kernel, rfl⟩
theorem aX6_logs_99 : At kX6_logs 99 (.iadd) 1 100 := ⟨by decide +kernel, rfl⟩
theorem aX6_logs_100 : At kX6_logs 100 (.aload_n 0) 1 101 := ⟨by decide +kernel, rfl⟩
theorem aX6_logs_101 : At kX6_logs 101 (.getfield 26) 3 104 := ⟨by decide +kernel, rfl⟩
theorem aX6_logs_104 : At kX6_logs 104 (.iload_n 3) 1 105 := ⟨by decide +kernel, rfl⟩
theorem aX6_logs_105 : At kX6_logs 105 (.iaload) 1 106 := ⟨by decide +kernel, rfl⟩
theorem aX6_logs_106 : At kX6_logs 106 (.iastore) 1 107 := ⟨by decide +kernel, rfl⟩
theorem aX6_logs_107 : At kX6_logs 107 (.iinc 3 1) 3 110 := ⟨by decide +kernel, rfl⟩
theorem aX6_logs_110 : At kX6_logs 110 (.goto (-29)) 3 113 := ⟨by decide +kernel, rfl⟩
theorem aX6_logs_113 : At kX6_logs 113 (.aload_n 0) 1 114 := ⟨by decide +kernel, rfl⟩
theorem aX6_logs_114 : At kX6_logs 114 (.getfield 32) 3 117 := ⟨by decide +kernel, rfl⟩
theorem aX6_logs_117 : At kX6_logs 117 (.iconst 1) 1 118 := ⟨by decide +kernel, rfl⟩
theorem aX6_logs_118 : At kX6_logs 118 (.iaload) 1 119 := ⟨by decide +kernel, rfl⟩
theorem aX6_logs_119 : At kX6_logs 119 (.ifCond .ne 7) 3 122 := ⟨by decide +kernel, rfl⟩
theorem aX6_logs_122 : At kX6_logs 122 (.iconst 1) 1 123 := ⟨by decide +kernel, rfl⟩
theorem aX6_logs_123 : At kX6_logs 123 (.goto 4) 3 126 := ⟨by decide +kernel, rfl⟩
theorem aX6_logs_126 : At kX6_logs 126 (.iconst 0) 1 127 := ⟨by decide +kernel, rfl⟩
theorem aX6_logs_127 : At kX6_logs 127 (.istore_n 3) 1 128 := ⟨by decide +kernel, rfl⟩
theorem aX6_logs_128 : At kX6_logs 128 (.aload_n 0) 1 129 := ⟨by decide +kernel, rfl⟩
theorem aX6_logs_129 : At kX6_logs 129 (.getfield 7) 3 132 := ⟨by decide +kernel, rfl⟩
theorem aX6_logs_132 : At kX6_logs 132 (.sipush 158) 3 135 := ⟨by decide +kernel, rfl⟩
theorem aX6_logs_135 : At kX6_logs 135 (.iload_n 2) 1 136 := ⟨by decide +kernel, rfl⟩
theorem aX6_logs_136 : At kX6_logs 136 (.iadd) 1 137 := ⟨by decide +kernel, rfl⟩
theorem aX6_logs_137 : At kX6_logs 137 (.iload_n 3) 1 138 := ⟨by decide +kernel, rfl⟩
theorem aX6_logs_138 : At kX6_logs 138 (.ifCond .eq 7) 3 141 := ⟨by decide +kernel, rfl⟩
theorem aX6_logs_141 : At kX6_logs 141 (.iconst 0) 1 142 := ⟨by decide +kernel, rfl⟩
theorem aX6_logs_142 : At kX6_logs 142 (.goto 13) 3 145 := ⟨by decide +kernel, rfl⟩
theorem aX6_logs_145 : At kX6_logs 145 (.aload_n 0) 1 146 := ⟨by decide +kernel, rfl⟩
theorem aX6_logs_146 : At kX6_logs 146 (.getfield 7) 3 149 := ⟨by decide +kernel, rfl⟩
theorem aX6_logs_149 : At kX6_logs 149 (.sipush 158) 3 152 := ⟨by decide +kernel, rfl⟩
theorem aX6_logs_152 : At kX6_logs 152 (.iload_n 2) 1 153 := ⟨by decide +kernel, rfl⟩
theorem aX6_logs_153 : At kX6_logs 153 (.iadd) 1 154 := ⟨by decide +kernel, rfl⟩
theorem aX6_logs_154 : At kX6_logs 154 (.iaload) 1 155 := ⟨by decide +kernel, rfl⟩
theorem aX6_logs_155 : At kX6_logs 155 (.iastore) 1 156 := ⟨by decide +kernel, rfl⟩
theorem aX6_logs_156 : At kX6_logs 156 (.aload_n 0) 1 157 := ⟨by decide +kernel, rfl⟩
theorem aX6_logs_157 : At kX6_logs 157 (.getfield 7) 3 160 := ⟨by decide +kernel, rfl⟩
theorem aX6_logs_160 : At kX6_logs 160 (.iload_n 3) 1 161 := ⟨by decide +kernel, rfl⟩
theorem aX6_logs_161 : At kX6_logs 161 (.ifCond .eq 7) 3 164 := ⟨by decide +kernel, rfl⟩
theorem aX6_logs_164 : At kX6_logs 164 (.iconst 5) 1 165 := ⟨by decide +kernel, rfl⟩
theorem aX6_logs_165 : At kX6_logs 165 (.goto 5) 3 168 := ⟨by decide +kernel, rfl⟩
theorem aX6_logs_168 : At kX6_logs 168 (.bipush 6) 2 170 := ⟨by decide +kernel, rfl⟩
theorem aX6_logs_170 : At kX6_logs 170 (.dup2) 1 171 := ⟨by decide +kernel, rfl⟩
theorem aX6_logs_171 : At kX6_logs 171 (.iaload) 1 172 := ⟨by decide +kernel, rfl⟩
theorem aX6_logs_172 : At kX6_logs 172 (.iconst 1) 1 173 := ⟨by decide +kernel, rfl⟩
theorem aX6_logs_173 : At kX6_logs 173 (.iadd) 1 174 := ⟨by decide +kernel, rfl⟩
theorem aX6_logs_174 : At kX6_logs 174 (.iastore) 1 175 := ⟨by decide +kernel, rfl⟩
theorem aX6_logs_175 : At kX6_logs 175 (.return_) 1 176 := ⟨by decide +kernel, rfl⟩
theorem aX6_acts_0 : At kX6_acts 0 (.aload_n 0) 1 1 := ⟨by decide +kernel, rfl⟩
theorem aX6_acts_1 : At kX6_acts 1 (.invokevirtual 115) 3 4 := ⟨by decide +kernel, rfl⟩
theorem aX6_acts_4 : At kX6_acts 4 (.aload_n 0) 1 5 := ⟨by decide +kernel, rfl⟩
theorem aX6_acts_5 : At kX6_acts 5 (.invokevirtual 118) 3 8 := ⟨by decide +kernel, rfl⟩
theorem aX6_acts_8 : At kX6_acts 8 (.ifCond .ne 6) 3 11 := ⟨by decide +kernel, rfl⟩
theorem aX6_acts_11 : At kX6_acts 11 (.bipush (-3)) 2 13 := ⟨by decide +kernel, rfl⟩
theorem aX6_acts_13 : At kX6_acts 13 (.ireturn) 1 14 := ⟨by decide +kernel, rfl⟩
theorem aX6_acts_14 : At kX6_acts 14 (.aload_n 0) 1 15 := ⟨by decide +kernel, rfl⟩
theorem aX6_acts_15 : At kX6_acts 15 (.aload_n 0) 1 16 := ⟨by decide +kernel, rfl⟩
theorem aX6_acts_16 : At kX6_acts 16 (.getfield 7) 3 19 := ⟨by decide +kernel, rfl⟩
theorem aX6_acts_19 : At kX6_acts 19 (.invokevirtual 51) 3 22 := ⟨by decide +kernel, rfl⟩
theorem aX6_acts_22 : At kX6_acts 22 (.aload_n 0) 1 23 := ⟨by decide +kernel, rfl⟩
theorem aX6_acts_23 : At kX6_acts 23 (.invokevirtual 122) 3 26 := ⟨by decide +kernel, rfl⟩
theorem aX6_acts_26 : At kX6_acts 26 (.aload_n 0) 1 27 := ⟨by decide +kernel, rfl⟩
theorem aX6_acts_27 : At kX6_acts 27 (.getfield 32) 3 30 := ⟨by decide +kernel, rfl⟩
theorem aX6_acts_30 : At kX6_acts 30 (.iconst 1) 1 31 := ⟨by decide +kernel, rfl⟩
theorem aX6_acts_31 : At kX6_acts 31 (.iaload) 1 32 := ⟨by decide +kernel, rfl⟩
theorem aX6_acts_32 : At kX6_acts 32 (.ireturn) 1 33 := ⟨by decide +kernel, rfl⟩
theorem aX6_fill_0 : At kX6_fill 0 (.iload_n 1) 1 1 := ⟨by decide +kernel, rfl⟩
theorem aX6_fill_1 : At kX6_fill 1 (.invokestatic 125) 3 4 := ⟨by decide +kernel, rfl⟩
theorem aX6_fill_4 : At kX6_fill 4 (.ifCond .eq 17) 3 7 := ⟨by decide +kernel, rfl⟩
theorem aX6_fill_7 : At kX6_fill 7 (.iload_n 2) 1 8 := ⟨by decide +kernel, rfl⟩
theorem aX6_fill_8 : At kX6_fill 8 (.invokestatic 128) 3 11 := ⟨by decide +kernel, rfl⟩
theorem aX6_fill_11 : At kX6_fill 11 (.ifCond .eq 10) 3 14 := ⟨by decide +kernel, rfl⟩
theorem aX6_fill_14 : At kX6_fill 14 (.iload_n 3) 1 15 := ⟨by decide +kernel, rfl⟩
theorem aX6_fill_15 : At kX6_fill 15 (.invokestatic 128) 3 18 := ⟨by decide +kernel, rfl⟩
theorem aX6_fill_18 : At kX6_fill 18 (.ifCond .ne 5) 3 21 := ⟨by decide +kernel, rfl⟩
theorem aX6_fill_21 : At kX6_fill 21 (.iconst (-1)) 1 22 := ⟨by decide +kernel, rfl⟩
theorem aX6_fill_22 : At kX6_fill 22 (.ireturn) 1 23 := ⟨by decide +kernel, rfl⟩
theorem aX6_fill_23 : At kX6_fill 23 (.iload_n 3) 1 24 := ⟨by decide +kernel, rfl⟩
theorem aX6_fill_24 : At kX6_fill 24 (.iload_n 2) 1 25 := ⟨by decide +kernel, rfl⟩
theorem aX6_fill_25 : At kX6_fill 25 (.if_icmp .lt 14) 3 28 := ⟨by decide +kernel, rfl⟩
theorem aX6_fill_28 : At kX6_fill 28 (.iload 4) 2 30 := ⟨by decide +kernel, rfl⟩
theorem aX6_fill_30 : At kX6_fill 30 (.iconst 0) 1 31 := ⟨by decide +kernel, rfl⟩
theorem aX6_fill_31 : At kX6_fill 31 (.bipush 9) 2 33 := ⟨by decide +kernel, rfl⟩
theorem aX6_fill_33 : At kX6_fill 33 (.invokestatic 35) 3 36 := ⟨by decide +kernel, rfl⟩
theorem aX6_fill_36 : At kX6_fill 36 (.ifCond .ne 6) 3 39 := ⟨by decide +kernel, rfl⟩
theorem aX6_fill_39 : At kX6_fill 39 (.bipush (-2)) 2 41 := ⟨by decide +kernel, rfl⟩
theorem aX6_fill_41 : At kX6_fill 41 (.ireturn) 1 42 := ⟨by decide +kernel, rfl⟩
theorem aX6_fill_42 : At kX6_fill 42 (.aload_n 0) 1 43 := ⟨by decide +kernel, rfl⟩
theorem aX6_fill_43 : At kX6_fill 43 (.iload_n 1) 1 44 := ⟨by decide +kernel, rfl⟩
theorem aX6_fill_44 : At kX6_fill 44 (.iconst 1) 1 45 := ⟨by decide +kernel, rfl⟩
theorem aX6_fill_45 : At kX6_fill 45 (.iload_n 2) 1 46 := ⟨by decide +kernel, rfl⟩
theorem aX6_fill_46 : At kX6_fill 46 (.iload_n 3) 1 47 := ⟨by decide +kernel, rfl⟩
theorem aX6_fill_47 : At kX6_fill 47 (.iload_n 2) 1 48 := ⟨by decide +kernel, rfl⟩
theorem aX6_fill_48 : At kX6_fill 48 (.isub) 1 49 := ⟨by decide +kernel, rfl⟩
theorem aX6_fill_49 : At kX6_fill 49 (.iconst 1) 1 50 := ⟨by decide +kernel, rfl⟩
theorem aX6_fill_50 : At kX6_fill 50 (.iadd) 1 51 := ⟨by decide +kernel, rfl⟩
theorem aX6_fill_51 : At kX6_fill 51 (.iload 4) 2 53 := ⟨by decide +kernel, rfl⟩
theorem aX6_fill_53 : At kX6_fill 53 (.invokevirtual 102) 3 56 := ⟨by decide +kernel, rfl⟩
theorem aX6_fill_56 : At kX6_fill 56 (.aload_n 0) 1 57 := ⟨by decide +kernel, rfl⟩
theorem aX6_fill_57 : At kX6_fill 57 (.invokevirtual 131) 3 60 := ⟨by decide +kernel, rfl⟩
theorem aX6_fill_60 : At kX6_fill 60 (.ireturn) 1 61 := ⟨by decide +kernel, rfl⟩
theorem aX6_add_0 : At kX6_add 0 (.iload_n 1) 1 1 := ⟨by decide +kernel, rfl⟩
theorem aX6_add_1 : At kX6_add 1 (.invokestatic 125) 3 4 := ⟨by decide +kernel, rfl⟩
theorem aX6_add_4 : At kX6_add 4 (.ifCond .eq 17) 3 7 := ⟨by decide +kernel, rfl⟩
theorem aX6_add_7 : At kX6_add 7 (.iload_n 2) 1 8 := ⟨by decide +kernel, rfl⟩
theorem aX6_add_8 : At kX6_add 8 (.invokestatic 128) 3 11 := ⟨by decide +kernel, rfl⟩
theorem aX6_add_11 : At kX6_add 11 (.ifCond .eq 10) 3 14 := ⟨by decide +kernel, rfl⟩
theorem aX6_add_14 : At kX6_add 14 (.iload_n 3) 1 15 := ⟨by decide +kernel, rfl⟩
theorem aX6_add_15 : At kX6_add 15 (.invokestatic 128) 3 18 := ⟨by decide +kernel, rfl⟩
theorem aX6_add_18 : At kX6_add 18 (.ifCond .ne 5) 3 21 := ⟨by decide +kernel, rfl⟩
theorem aX6_add_21 : At kX6_add 21 (.iconst (-1)) 1 22 := ⟨by decide +kernel, rfl⟩
theorem aX6_add_22 : At kX6_add 22 (.ireturn) 1 23 := ⟨by decide +kernel, rfl⟩
theorem aX6_add_23 : At kX6_add 23 (.iload_n 3) 1 24 := ⟨by decide +kernel, rfl⟩
theorem aX6_add_24 : At kX6_add 24 (.iload_n 2) 1 25 := ⟨by decide +kernel, rfl⟩
theorem aX6_add_25 : At kX6_add 25 (.if_icmp .lt 14) 3 28 := ⟨by decide +kernel, rfl⟩
theorem aX6_add_28 : At kX6_add 28 (.iload 4) 2 30 := ⟨by decide +kernel, rfl⟩
theorem aX6_add_30 : At kX6_add 30 (.iconst 1) 1 31 := ⟨by decide +kernel, rfl⟩
theorem aX6_add_31 : At kX6_add 31 (.bipush 9) 2 33 := ⟨by decide +kernel, rfl⟩
theorem aX6_add_33 : At kX6_add 33 (.invokestatic 35) 3 36 := ⟨by decide +kernel, rfl⟩
theorem aX6_add_36 : At kX6_add 36 (.ifCond .ne 6) 3 39 := ⟨by decide +kernel, rfl⟩
theorem aX6_add_39 : At kX6_add 39 (.bipush (-2)) 2 41 := ⟨by decide +kernel, rfl⟩
theorem aX6_add_41 : At kX6_add 41 (.ireturn) 1 42 := ⟨by decide +kernel, rfl⟩
theorem aX6_add_42 : At kX6_add 42 (.aload_n 0) 1 43 := ⟨by decide +kernel, rfl⟩
theorem aX6_add_43 : At kX6_add 43 (.iload_n 1) 1 44 := ⟨by decide +kernel, rfl⟩
theorem aX6_add_44 : At kX6_add 44 (.iconst 2) 1 45 := ⟨by decide +kernel, rfl⟩
theorem aX6_add_45 : At kX6_add 45 (.iload_n 2) 1 46 := ⟨by decide +kernel, rfl⟩
theorem aX6_add_46 : At kX6_add 46 (.iload_n 3) 1 47 := ⟨by decide +kernel, rfl⟩
theorem aX6_add_47 : At kX6_add 47 (.iload_n 2) 1 48 := ⟨by decide +kernel, rfl⟩
theorem aX6_add_48 : At kX6_add 48 (.isub) 1 49 := ⟨by decide +kernel, rfl⟩
theorem aX6_add_49 : At kX6_add 49 (.iconst 1) 1 50 := ⟨by decide +kernel, rfl⟩
theorem aX6_add_50 : At kX6_add 50 (.iadd) 1 51 := ⟨by decide +kernel, rfl⟩
theorem aX6_add_51 : At kX6_add 51 (.iload 4) 2 53 := ⟨by decide +kernel, rfl⟩
theorem aX6_add_53 : At kX6_add 53 (.invokevirtual 102) 3 56 := ⟨by decide +kernel, rfl⟩
theorem aX6_add_56 : At kX6_add 56 (.aload_n 0) 1 57 := ⟨by decide +kernel, rfl⟩
theorem aX6_add_57 : At kX6_add 57 (.invokevirtual 131) 3 60 := ⟨by decide +kernel, rfl⟩
theorem aX6_add_60 : At kX6_add 60 (.ireturn) 1 61 := ⟨by decide +kernel, rfl⟩
theorem aX6_turn_0 : At kX6_turn 0 (.iload_n 1) 1 1 := ⟨by decide +kernel, rfl⟩
theorem aX6_turn_1 : At kX6_turn 1 (.invokestatic 125) 3 4 := ⟨by decide +kernel, rfl⟩
theorem aX6_turn_4 : At kX6_turn 4 (.ifCond .ne 5) 3 7 := ⟨by decide +kernel, rfl⟩
theorem aX6_turn_7 : At kX6_turn 7 (.iconst (-1)) 1 8 := ⟨by decide +kernel, rfl⟩
theorem aX6_turn_8 : At kX6_turn 8 (.ireturn) 1 9 := ⟨by decide +kernel, rfl⟩
theorem aX6_turn_9 : At kX6_turn 9 (.iload_n 2) 1 10 := ⟨by decide +kernel, rfl⟩
theorem aX6_turn_10 : At kX6_turn 10 (.iconst 1) 1 11 := ⟨by decide +kernel, rfl⟩
theorem aX6_turn_11 : At kX6_turn 11 (.bipush 11) 2 13 := ⟨by decide +kernel, rfl⟩
theorem aX6_turn_13 : At kX6_turn 13 (.invokestatic 35) 3 16 := ⟨by decide +kernel, rfl⟩
theorem aX6_turn_16 : At kX6_turn 16 (.ifCond .ne 6) 3 19 := ⟨by decide +kernel, rfl⟩
theorem aX6_turn_19 : At kX6_turn 19 (.bipush (-2)) 2 21 := ⟨by decide +kernel, rfl⟩
theorem aX6_turn_21 : At kX6_turn 21 (.ireturn) 1 22 := ⟨by decide +kernel, rfl⟩
theorem aX6_turn_22 : At kX6_turn 22 (.aload_n 0) 1 23 := ⟨by decide +kernel, rfl⟩
theorem aX6_turn_23 : At kX6_turn 23 (.iload_n 1) 1 24 := ⟨by decide +kernel, rfl⟩
theorem aX6_turn_24 : At kX6_turn 24 (.iconst 3) 1 25 := ⟨by decide +kernel, rfl⟩
theorem aX6_turn_25 : At kX6_turn 25 (.iconst 0) 1 26 := ⟨by decide +kernel, rfl⟩
theorem aX6_turn_26 : At kX6_turn 26 (.bipush 12) 2 28 := ⟨by decide +kernel, rfl⟩
theorem aX6_turn_28 : At kX6_turn 28 (.iload_n 2) 1 29 := ⟨by decide +kernel, rfl⟩
theorem aX6_turn_29 : At kX6_turn 29 (.invokevirtual 102) 3 32 := ⟨by decide +kernel, rfl⟩
theorem aX6_turn_32 : At kX6_turn 32 (.aload_n 0) 1 33 := ⟨by decide +kernel, rfl⟩
theorem aX6_turn_33 : At kX6_turn 33 (.invokevirtual 131) 3 36 := ⟨by decide +kernel, rfl⟩
theorem aX6_turn_36 : At kX6_turn 36 (.ireturn) 1 37 := ⟨by decide +kernel, rfl⟩
theorem aX6_renew_0 : At kX6_renew 0 (.iload_n 1) 1 1 := ⟨by decide +kernel, rfl⟩
theorem aX6_renew_1 : At kX6_renew 1 (.invokestatic 125) 3 4 := ⟨by decide +kernel, rfl⟩
theorem aX6_renew_4 : At kX6_renew 4 (.ifCond .ne 5) 3 7 := ⟨by decide +kernel, rfl⟩
theorem aX6_renew_7 : At kX6_renew 7 (.iconst (-1)) 1 8 := ⟨by decide +kernel, rfl⟩
theorem aX6_renew_8 : At kX6_renew 8 (.ireturn) 1 9 := ⟨by decide +kernel, rfl⟩
theorem aX6_renew_9 : At kX6_renew 9 (.aload_n 0) 1 10 := ⟨by decide +kernel, rfl⟩
theorem aX6_renew_10 : At kX6_renew 10 (.bipush 8) 2 12 := ⟨by decide +kernel, rfl⟩
theorem aX6_renew_12 : At kX6_renew 12 (.iload_n 1) 1 13 := ⟨by decide +kernel, rfl⟩
theorem aX6_renew_13 : At kX6_renew 13 (.invokevirtual 83) 3 16 := ⟨by decide +kernel, rfl⟩
theorem aX6_renew_16 : At kX6_renew 16 (.aload_n 0) 1 17 := ⟨by decide +kernel, rfl⟩
theorem aX6_renew_17 : At kX6_renew 17 (.iload_n 1) 1 18 := ⟨by decide +kernel, rfl⟩
theorem aX6_renew_18 : At kX6_renew 18 (.invokevirtual 98) 3 21 := ⟨by decide +kernel, rfl⟩
theorem aX6_renew_21 : At kX6_renew 21 (.aload_n 0) 1 22 := ⟨by decide +kernel, rfl⟩
theorem aX6_renew_22 : At kX6_renew 22 (.invokevirtual 118) 3 25 := ⟨by decide +kernel, rfl⟩
theorem aX6_renew_25 : At kX6_renew 25 (.ifCond .ne 6) 3 28 := ⟨by decide +kernel, rfl⟩
theorem aX6_renew_28 : At kX6_renew 28 (.bipush (-3)) 2 30 := ⟨by decide +kernel, rfl⟩
theorem aX6_renew_30 : At kX6_renew 30 (.ireturn) 1 31 := ⟨by decide +kernel, rfl⟩
theorem aX6_renew_31 : At kX6_renew 31 (.aload_n 0) 1 32 := ⟨by decide +kernel, rfl⟩
theorem aX6_renew_32 : At kX6_renew 32 (.aload_n 0) 1 33 := ⟨by decide +kernel, rfl⟩
theorem aX6_renew_33 : At kX6_renew 33 (.getfield 7) 3 36 := ⟨by decide +kernel, rfl⟩
theorem aX6_renew_36 : At kX6_renew 36 (.invokevirtual 51) 3 39 := ⟨by decide +kernel, rfl⟩
theorem aX6_renew_39 : At kX6_renew 39 (.aload_n 0) 1 40 := ⟨by decide +kernel, rfl⟩
theorem aX6_renew_40 : At kX6_renew 40 (.invokevirtual 122) 3 43 := ⟨by decide +kernel, rfl⟩
theorem aX6_renew_43 : At kX6_renew 43 (.aload_n 0) 1 44 := ⟨by decide +kernel, rfl⟩
theorem aX6_renew_44 : At kX6_renew 44 (.getfield 7) 3 47 := ⟨by decide +kernel, rfl⟩
theorem aX6_renew_47 : At kX6_renew 47 (.iconst 3) 1 48 := ⟨by decide +kernel, rfl⟩
theorem aX6_renew_48 : At kX6_renew 48 (.iaload) 1 49 := ⟨by decide +kernel, rfl⟩
theorem aX6_renew_49 : At kX6_renew 49 (.iconst 1) 1 50 := ⟨by decide +kernel, rfl⟩
theorem aX6_renew_50 : At kX6_renew 50 (.isub) 1 51 := ⟨by decide +kernel, rfl⟩
theorem aX6_renew_51 : At kX6_renew 51 (.ireturn) 1 52 := ⟨by decide +kernel, rfl⟩
theorem aX6_type_0 : At kX6_type 0 (.aload_n 0) 1 1 := ⟨by decide +kernel, rfl⟩
theorem aX6_type_1 : At kX6_type 1 (.getfield 134) 3 4 := ⟨by decide +kernel, rfl⟩
theorem aX6_type_4 : At kX6_type 4 (.bipush 60) 2 6 := ⟨by decide +kernel, rfl⟩
theorem aX6_type_6 : At kX6_type 6 (.if_icmp .ne 6) 3 9 := ⟨by decide +kernel, rfl⟩
theorem aX6_type_9 : At kX6_type 9 (.bipush (-3)) 2 11 := ⟨by decide +kernel, rfl⟩
theorem aX6_type_11 : At kX6_type 11 (.ireturn) 1 12 := ⟨by decide +kernel, rfl⟩
theorem aX6_type_12 : At kX6_type 12 (.aload_n 0) 1 13 := ⟨by decide +kernel, rfl⟩
theorem aX6_type_13 : At kX6_type 13 (.getfield 22) 3 16 := ⟨by decide +kernel, rfl⟩
theorem aX6_type_16 : At kX6_type 16 (.aload_n 0) 1 17 := ⟨by decide +kernel, rfl⟩
theorem aX6_type_17 : At kX6_type 17 (.getfield 134) 3 20 := ⟨by decide +kernel, rfl⟩
theorem aX6_type_20 : At kX6_type 20 (.iload_n 1) 1 21 := ⟨by decide +kernel, rfl⟩
theorem aX6_type_21 : At kX6_type 21 (.castore) 1 22 := ⟨by decide +kernel, rfl⟩
theorem aX6_type_22 : At kX6_type 22 (.aload_n 0) 1 23 := ⟨by decide +kernel, rfl⟩
theorem aX6_type_23 : At kX6_type 23 (.dup) 1 24 := ⟨by decide +kernel, rfl⟩
theorem aX6_type_24 : At kX6_type 24 (.getfield 134) 3 27 := ⟨by decide +kernel, rfl⟩
theorem aX6_type_27 : At kX6_type 27 (.iconst 1) 1 28 := ⟨by decide +kernel, rfl⟩
theorem aX6_type_28 : At kX6_type 28 (.iadd) 1 29 := ⟨by decide +kernel, rfl⟩
theorem aX6_type_29 : At kX6_type 29 (.putfield 134) 3 32 := ⟨by decide +kernel, rfl⟩
theorem aX6_type_32 : At kX6_type 32 (.aload_n 0) 1 33 := ⟨by decide +kernel, rfl⟩
theorem aX6_type_33 : At kX6_type 33 (.getfield 134) 3 36 := ⟨by decide +kernel, rfl⟩
theorem aX6_type_36 : At kX6_type 36 (.ireturn) 1 37 := ⟨by decide +kernel, rfl⟩
theorem aX6_clearText_0 : At kX6_clearText 0 (.aload_n 0) 1 1 := ⟨by decide +kernel, rfl⟩
theorem aX6_clearText_1 : At kX6_clearText 1 (.getfield 134) 3 4 := ⟨by decide +kernel, rfl⟩
theorem aX6_clearText_4 : At kX6_clearText 4 (.istore_n 1) 1 5 := ⟨by decide +kernel, rfl⟩
theorem aX6_clearText_5 : At kX6_clearText 5 (.aload_n 0) 1 6 := ⟨by decide +kernel, rfl⟩
theorem aX6_clearText_6 : At kX6_clearText 6 (.iconst 0) 1 7 := ⟨by decide +kernel, rfl⟩
theorem aX6_clearText_7 : At kX6_clearText 7 (.putfield 134) 3 10 := ⟨by decide +kernel, rfl⟩
theorem aX6_clearText_10 : At kX6_clearText 10 (.iload_n 1) 1 11 := ⟨by decide +kernel, rfl⟩
theorem aX6_clearText_11 : At kX6_clearText 11 (.ireturn) 1 12 := ⟨by decide +kernel, rfl⟩
theorem aX6_sees_0 : At kX6_sees 0 (.aload_n 0) 1 1 := ⟨by decide +kernel, rfl⟩
theorem aX6_sees_1 : At kX6_sees 1 (.getfield 137) 3 4 := ⟨by decide +kernel, rfl⟩
theorem aX6_sees_4 : At kX6_sees 4 (.aload_n 0) 1 5 := ⟨by decide +kernel, rfl⟩
theorem aX6_sees_5 : At kX6_sees 5 (.getfield 134) 3 8 := ⟨by decide +kernel, rfl⟩
theorem aX6_sees_8 : At kX6_sees 8 (.if_icmp .ge 24) 3 11 := ⟨by decide +kernel, rfl⟩
theorem aX6_sees_11 : At kX6_sees 11 (.aload_n 0) 1 12 := ⟨by decide +kernel, rfl⟩
theorem aX6_sees_12 : At kX6_sees 12 (.getfield 22) 3 15 := ⟨by decide +kernel, rfl⟩
theorem aX6_sees_15 : At kX6_sees 15 (.aload_n 0) 1 16 := ⟨by decide +kernel, rfl⟩
theorem aX6_sees_16 : At kX6_sees 16 (.getfield 137) 3 19 := ⟨by decide +kernel, rfl⟩
theorem aX6_sees_19 : At kX6_sees 19 (.caload) 1 20 := ⟨by decide +kernel, rfl⟩
theorem aX6_sees_20 : At kX6_sees 20 (.iload_n 1) 1 21 := ⟨by decide +kernel, rfl⟩
theorem aX6_sees_21 : At kX6_sees 21 (.iload_n 2) 1 22 := ⟨by decide +kernel, rfl⟩
theorem aX6_sees_22 : At kX6_sees 22 (.invokestatic 35) 3 25 := ⟨by decide +kernel, rfl⟩
theorem aX6_sees_25 : At kX6_sees 25 (.ifCond .eq 7) 3 28 := ⟨by decide +kernel, rfl⟩
theorem aX6_sees_28 : At kX6_sees 28 (.iconst 1) 1 29 := ⟨by decide +kernel, rfl⟩
theorem aX6_sees_29 : At kX6_sees 29 (.goto 4) 3 32 := ⟨by decide +kernel, rfl⟩
theorem aX6_sees_32 : At kX6_sees 32 (.iconst 0) 1 33 := ⟨by decide +kernel, rfl⟩
theorem aX6_sees_33 : At kX6_sees 33 (.ireturn) 1 34 := ⟨by decide +kernel, rfl⟩
theorem aX6_takes_0 : At kX6_takes 0 (.aload_n 0) 1 1 := ⟨by decide +kernel, rfl⟩
theorem aX6_takes_1 : At kX6_takes 1 (.iload_n 1) 1 2 := ⟨by decide +kernel, rfl⟩
theorem aX6_takes_2 : At kX6_takes 2 (.iload_n 1) 1 3 := ⟨by decide +kernel, rfl⟩
theorem aX6_takes_3 : At kX6_takes 3 (.invokevirtual 140) 3 6 := ⟨by decide +kernel, rfl⟩
theorem aX6_takes_6 : At kX6_takes 6 (.istore_n 2) 1 7 := ⟨by decide +kernel, rfl⟩
theorem aX6_takes_7 : At kX6_takes 7 (.aload_n 0) 1 8 := ⟨by decide +kernel, rfl⟩
theorem aX6_takes_8 : At kX6_takes 8 (.dup) 1 9 := ⟨by decide +kernel, rfl⟩
theorem aX6_takes_9 : At kX6_takes 9 (.getfield 137) 3 12 := ⟨by decide +kernel, rfl⟩
theorem aX6_takes_12 : At kX6_takes 12 (.iload_n 2) 1 13 := ⟨by decide +kernel, rfl⟩
theorem aX6_takes_13 : At kX6_takes 13 (.ifCond .eq 7) 3 16 := ⟨by decide +kernel, rfl⟩
theorem aX6_takes_16 : At kX6_takes 16 (.iconst 1) 1 17 := ⟨by decide +kernel, rfl⟩
theorem aX6_takes_17 : At kX6_takes 17 (.goto 4) 3 20 := ⟨by decide +kernel, rfl⟩
theorem aX6_takes_20 : At kX6_takes 20 (.iconst 0) 1 21 := ⟨by decide +kernel, rfl⟩
theorem aX6_takes_21 : At kX6_takes 21 (.iadd) 1 22 := ⟨by decide +kernel, rfl⟩
theorem aX6_takes_22 : At kX6_takes 22 (.putfield 137) 3 25 := ⟨by decide +kernel, rfl⟩
theorem aX6_takes_25 : At kX6_takes 25 (.iload_n 2) 1 26 := ⟨by decide +kernel, rfl⟩
theorem aX6_takes_26 : At kX6_takes 26 (.ireturn) 1 27 := ⟨by decide +kernel, rfl⟩
theorem aX6_number_0 : At kX6_number 0 (.aload_n 0) 1 1 := ⟨by decide +kernel, rfl⟩
theorem aX6_number_1 : At kX6_number 1 (.iload_n 1) 1 2 := ⟨by decide +kernel, rfl⟩
theorem aX6_number_2 : At kX6_number 2 (.bipush 57) 2 4 := ⟨by decide +kernel, rfl⟩
theorem aX6_number_4 : At kX6_number 4 (.invokevirtual 140) 3 7 := ⟨by decide +kernel, rfl⟩
theorem aX6_number_7 : At kX6_number 7 (.ifCond .ne 6) 3 10 := ⟨by decide +kernel, rfl⟩
theorem aX6_number_10 : At kX6_number 10 (.bipush (-5)) 2 12 := ⟨by decide +kernel, rfl⟩
theorem aX6_number_12 : At kX6_number 12 (.ireturn) 1 13 := ⟨by decide +kernel, rfl⟩
theorem aX6_number_13 : At kX6_number 13 (.aload_n 0) 1 14 := ⟨by decide +kernel, rfl⟩
theorem aX6_number_14 : At kX6_number 14 (.getfield 22) 3 17 := ⟨by decide +kernel, rfl⟩
theorem aX6_number_17 : At kX6_number 17 (.aload_n 0) 1 18 := ⟨by decide +kernel, rfl⟩
theorem aX6_number_18 : At kX6_number 18 (.getfield 137) 3 21 := ⟨by decide +kernel, rfl⟩
theorem aX6_number_21 : At kX6_number 21 (.caload) 1 22 := ⟨by decide +kernel, rfl⟩
theorem aX6_number_22 : At kX6_number 22 (.bipush 48) 2 24 := ⟨by decide +kernel, rfl⟩
theorem aX6_number_24 : At kX6_number 24 (.isub) 1 25 := ⟨by decide +kernel, rfl⟩
theorem aX6_number_25 : At kX6_number 25 (.istore_n 2) 1 26 := ⟨by decide +kernel, rfl⟩
theorem aX6_number_26 : At kX6_number 26 (.aload_n 0) 1 27 := ⟨by decide +kernel, rfl⟩
theorem aX6_number_27 : At kX6_number 27 (.dup) 1 28 := ⟨by decide +kernel, rfl⟩
theorem aX6_number_28 : At kX6_number 28 (.getfield 137) 3 31 := ⟨by decide +kernel, rfl⟩
theorem aX6_number_31 : At kX6_number 31 (.iconst 1) 1 32 := ⟨by decide +kernel, rfl⟩
theorem aX6_number_32 : At kX6_number 32 (.iadd) 1 33 := ⟨by decide +kernel, rfl⟩
theorem aX6_number_33 : At kX6_number 33 (.putfield 137) 3 36 := ⟨by decide +kernel, rfl⟩
theorem aX6_number_36 : At kX6_number 36 (.iload_n 2) 1 37 := ⟨by decide +kernel, rfl⟩
theorem aX6_number_37 : At kX6_number 37 (.iconst 1) 1 38 := ⟨by decide +kernel, rfl⟩
theorem aX6_number_38 : At kX6_number 38 (.if_icmp .ne 40) 3 41 := ⟨by decide +kernel, rfl⟩
theorem aX6_number_41 : At kX6_number 41 (.aload_n 0) 1 42 := ⟨by decide +kernel, rfl⟩
theorem aX6_number_42 : At kX6_number 42 (.bipush 48) 2 44 := ⟨by decide +kernel, rfl⟩
theorem aX6_number_44 : At kX6_number 44 (.bipush 49) 2 46 := ⟨by decide +kernel, rfl⟩
theorem aX6_number_46 : At kX6_number 46 (.invokevirtual 140) 3 49 := ⟨by decide +kernel, rfl⟩
theorem aX6_number_49 : At kX6_number 49 (.ifCond .eq 29) 3 52 := ⟨by decide +kernel, rfl⟩
theorem aX6_number_52 : At kX6_number 52 (.bipush 10) 2 54 := ⟨by decide +kernel, rfl⟩
theorem aX6_number_54 : At kX6_number 54 (.aload_n 0) 1 55 := ⟨by decide +kernel, rfl⟩
theorem aX6_number_55 : At kX6_number 55 (.getfield 22) 3 58 := ⟨by decide +kernel, rfl⟩
theorem aX6_number_58 : At kX6_number 58 (.aload_n 0) 1 59 := ⟨by decide +kernel, rfl⟩
theorem aX6_number_59 : At kX6_number 59 (.getfield 137) 3 62 := ⟨by decide +kernel, rfl⟩
theorem aX6_number_62 : At kX6_number 62 (.caload) 1 63 := ⟨by decide +kernel, rfl⟩
theorem aX6_number_63 : At kX6_number 63 (.iadd) 1 64 := ⟨by decide +kernel, rfl⟩
theorem aX6_number_64 : At kX6_number 64 (.bipush 48) 2 66 := ⟨by decide +kernel, rfl⟩
theorem aX6_number_66 : At kX6_number 66 (.isub) 1 67 := ⟨by decide +kernel, rfl⟩
theorem aX6_number_67 : At kX6_number 67 (.istore_n 2) 1 68 := ⟨by decide +kernel, rfl⟩
theorem aX6_number_68 : At kX6_number 68 (.aload_n 0) 1 69 := ⟨by decide +kernel, rfl⟩
theorem aX6_number_69 : At kX6_number 69 (.dup) 1 70 := ⟨by decide +kernel, rfl⟩
theorem aX6_number_70 : At kX6_number 70 (.getfield 137) 3 73 := ⟨by decide +kernel, rfl⟩
theorem aX6_number_73 : At kX6_number 73 (.iconst 1) 1 74 := ⟨by decide +kernel, rfl⟩
theorem aX6_number_74 : At kX6_number 74 (.iadd) 1 75 := ⟨by decide +kernel, rfl⟩
theorem aX6_number_75 : At kX6_number 75 (.putfield 137) 3 78 := ⟨by decide +kernel, rfl⟩
theorem aX6_number_78 : At kX6_number 78 (.iload_n 2) 1 79 := ⟨by decide +kernel, rfl⟩
theorem aX6_number_79 : At kX6_number 79 (.ireturn) 1 80 := ⟨by decide +kernel, rfl⟩
theorem aX6_digit_0 : At kX6_digit 0 (.aload_n 0) 1 1 := ⟨by decide +kernel, rfl⟩
theorem aX6_digit_1 : At kX6_digit 1 (.iload_n 1) 1 2 := ⟨by decide +kernel, rfl⟩
theorem aX6_digit_2 : At kX6_digit 2 (.bipush 57) 2 4 := ⟨by decide +kernel, rfl⟩
theorem aX6_digit_4 : At kX6_digit 4 (.invokevirtual 140) 3 7 := ⟨by decide +kernel, rfl⟩
theorem aX6_digit_7 : At kX6_digit 7 (.ifCond .ne 6) 3 10 := ⟨by decide +kernel, rfl⟩
theorem aX6_digit_10 : At kX6_digit 10 (.bipush (-5)) 2 12 := ⟨by decide +kernel, rfl⟩
theorem aX6_digit_12 : At kX6_digit 12 (.ireturn) 1 13 := ⟨by decide +kernel, rfl⟩
theorem aX6_digit_13 : At kX6_digit 13 (.aload_n 0) 1 14 := ⟨by decide +kernel, rfl⟩
theorem aX6_digit_14 : At kX6_digit 14 (.dup) 1 15 := ⟨by decide +kernel, rfl⟩
theorem aX6_digit_15 : At kX6_digit 15 (.getfield 137) 3 18 := ⟨by decide +kernel, rfl⟩
theorem aX6_digit_18 : At kX6_digit 18 (.iconst 1) 1 19 := ⟨by decide +kernel, rfl⟩
theorem aX6_digit_19 : At kX6_digit 19 (.iadd) 1 20 := ⟨by decide +kernel, rfl⟩
theorem aX6_digit_20 : At kX6_digit 20 (.putfield 137) 3 23 := ⟨by decide +kernel, rfl⟩
theorem aX6_digit_23 : At kX6_digit 23 (.aload_n 0) 1 24 := ⟨by decide +kernel, rfl⟩
theorem aX6_digit_24 : At kX6_digit 24 (.getfield 22) 3 27 := ⟨by decide +kernel, rfl⟩
theorem aX6_digit_27 : At kX6_digit 27 (.aload_n 0) 1 28 := ⟨by decide +kernel, rfl⟩
theorem aX6_digit_28 : At kX6_digit 28 (.getfield 137) 3 31 := ⟨by decide +kernel, rfl⟩
theorem aX6_digit_31 : At kX6_digit 31 (.iconst 1) 1 32 := ⟨by decide +kernel, rfl⟩
theorem aX6_digit_32 : At kX6_digit 32 (.isub) 1 33 := ⟨by decide +kernel, rfl⟩
theorem aX6_digit_33 : At kX6_digit 33 (.caload) 1 34 := ⟨by decide +kernel, rfl⟩
theorem aX6_digit_34 : At kX6_digit 34 (.bipush 48) 2 36 := ⟨by decide +kernel, rfl⟩
theorem aX6_digit_36 : At kX6_digit 36 (.isub) 1 37 := ⟨by decide +kernel, rfl⟩
theorem aX6_digit_37 : At kX6_digit 37 (.ireturn) 1 38 := ⟨by decide +kernel, rfl⟩
theorem aX6_readsCells_0 : At kX6_readsCells 0 (.aload_n 0) 1 1 := ⟨by decide +kernel, rfl⟩
theorem aX6_readsCells_1 : At kX6_readsCells 1 (.bipush 48) 2 3 := ⟨by decide +kernel, rfl⟩
theorem aX6_readsCells_3 : At kX6_readsCells 3 (.invokevirtual 144) 3 6 := ⟨by decide +kernel, rfl⟩
theorem aX6_readsCells_6 : At kX6_readsCells 6 (.istore 5) 2 8 := ⟨by decide +kernel, rfl⟩
theorem aX6_readsCells_8 : At kX6_readsCells 8 (.iload 5) 2 10 := ⟨by decide +kernel, rfl⟩
theorem aX6_readsCells_10 : At kX6_readsCells 10 (.ifCond .lt 12) 3 13 := ⟨by decide +kernel, rfl⟩
theorem aX6_readsCells_13 : At kX6_readsCells 13 (.aload_n 0) 1 14 := ⟨by decide +kernel, rfl⟩
theorem aX6_readsCells_14 : At kX6_readsCells 14 (.bipush 45) 2 16 := ⟨by decide +kernel, rfl⟩
theorem aX6_readsCells_16 : At kX6_readsCells 16 (.invokevirtual 148) 3 19 := ⟨by decide +kernel, rfl⟩
theorem aX6_readsCells_19 : At kX6_readsCells 19 (.ifCond .ne 5) 3 22 := ⟨by decide +kernel, rfl⟩
theorem aX6_readsCells_22 : At kX6_readsCells 22 (.iconst 0) 1 23 := ⟨by decide +kernel, rfl⟩
theorem aX6_readsCells_23 : At kX6_readsCells 23 (.ireturn) 1 24 := ⟨by decide +kernel, rfl⟩
theorem aX6_readsCells_24 : At kX6_readsCells 24 (.aload_n 0) 1 25 := ⟨by decide +kernel, rfl⟩
theorem aX6_readsCells_25 : At kX6_readsCells 25 (.bipush 48) 2 27 := ⟨by decide +kernel, rfl⟩
theorem aX6_readsCells_27 : At kX6_readsCells 27 (.invokevirtual 144) 3 30 := ⟨by decide +kernel, rfl⟩
theorem aX6_readsCells_30 : At kX6_readsCells 30 (.istore 6) 2 32 := ⟨by decide +kernel, rfl⟩
theorem aX6_readsCells_32 : At kX6_readsCells 32 (.iload 6) 2 34 := ⟨by decide +kernel, rfl⟩
theorem aX6_readsCells_34 : At kX6_readsCells 34 (.ifCond .ge 5) 3 37 := ⟨by decide +kernel, rfl⟩
theorem aX6_readsCells_37 : At kX6_readsCells 37 (.iconst 0) 1 38 := ⟨by decide +kernel, rfl⟩
theorem aX6_readsCells_38 : At kX6_readsCells 38 (.ireturn) 1 39 := ⟨by decide +kernel, rfl⟩
theorem aX6_readsCells_39 : At kX6_readsCells 39 (.iload 6) 2 41 := ⟨by decide +kernel, rfl⟩
theorem aX6_readsCells_41 : At kX6_readsCells 41 (.iload 5) 2 43 := ⟨by decide +kernel, rfl⟩
theorem aX6_readsCells_43 : At kX6_readsCells 43 (.if_icmp .ge 15) 3 46 := ⟨by decide +kernel, rfl⟩
theorem aX6_readsCells_46 : At kX6_readsCells 46 (.aload_n 0) 1 47 := ⟨by decide +kernel, rfl⟩
theorem aX6_readsCells_47 : At kX6_readsCells 47 (.dup) 1 48 := ⟨by decide +kernel, rfl⟩
theorem aX6_readsCells_48 : At kX6_readsCells 48 (.getfield 137) 3 51 := ⟨by decide +kernel, rfl⟩
theorem aX6_readsCells_51 : At kX6_readsCells 51 (.iconst 1) 1 52 := ⟨by decide +kernel, rfl⟩
theorem aX6_readsCells_52 : At kX6_readsCells 52 (.isub) 1 53 := ⟨by decide +kernel, rfl⟩
theorem aX6_readsCells_53 : At kX6_readsCells 53 (.putfield 137) 3 56 := ⟨by decide +kernel, rfl⟩
theorem aX6_readsCells_56 : At kX6_readsCells 56 (.iconst 0) 1 57 := ⟨by decide +kernel, rfl⟩
theorem aX6_readsCells_57 : At kX6_readsCells 57 (.ireturn) 1 58 := ⟨by decide +kernel, rfl⟩
theorem aX6_readsCells_58 : At kX6_readsCells 58 (.aload_n 0) 1 59 := ⟨by decide +kernel, rfl⟩
theorem aX6_readsCells_59 : At kX6_readsCells 59 (.iload_n 3) 1 60 := ⟨by decide +kernel, rfl⟩
theorem aX6_readsCells_60 : At kX6_readsCells 60 (.invokevirtual 148) 3 63 := ⟨by decide +kernel, rfl⟩
theorem aX6_readsCells_63 : At kX6_readsCells 63 (.ifCond .eq 12) 3 66 := ⟨by decide +kernel, rfl⟩
theorem aX6_readsCells_66 : At kX6_readsCells 66 (.aload_n 0) 1 67 := ⟨by decide +kernel, rfl⟩
theorem aX6_readsCells_67 : At kX6_readsCells 67 (.iload 4) 2 69 := ⟨by decide +kernel, rfl⟩
theorem aX6_readsCells_69 : At kX6_readsCells 69 (.invokevirtual 152) 3 72 := ⟨by decide +kernel, rfl⟩
theorem aX6_readsCells_72 : At kX6_readsCells 72 (.goto 5) 3 75 := ⟨by decide +kernel, rfl⟩
theorem aX6_readsCells_75 : At kX6_readsCells 75 (.bipush (-5)) 2 77 := ⟨by decide +kernel, rfl⟩
theorem aX6_readsCells_77 : At kX6_readsCells 77 (.istore 7) 2 79 := ⟨by decide +kernel, rfl⟩
theorem aX6_readsCells_79 : At kX6_readsCells 79 (.aload_n 0) 1 80 := ⟨by decide +kernel, rfl⟩
theorem aX6_readsCells_80 : At kX6_readsCells 80 (.iload_n 1) 1 81 := ⟨by decide +kernel, rfl⟩
theorem aX6_readsCells_81 : At kX6_readsCells 81 (.iload_n 2) 1 82 := ⟨by decide +kernel, rfl⟩
theorem aX6_readsCells_82 : At kX6_readsCells 82 (.iload 5) 2 84 := ⟨by decide +kernel, rfl⟩
theorem aX6_readsCells_84 : At kX6_readsCells 84 (.iload 6) 2 86 := ⟨by decide +kernel, rfl⟩
theorem aX6_readsCells_86 : At kX6_readsCells 86 (.iload 5) 2 88 := ⟨by decide +kernel, rfl⟩
theorem aX6_readsCells_88 : At kX6_readsCells 88 (.isub) 1 89 := ⟨by decide +kernel, rfl⟩
theorem aX6_readsCells_89 : At kX6_readsCells 89 (.iconst 1) 1 90 := ⟨by decide +kernel, rfl⟩
theorem aX6_readsCells_90 : At kX6_readsCells 90 (.iadd) 1 91 := ⟨by decide +kernel, rfl⟩
theorem aX6_readsCells_91 : At kX6_readsCells 91 (.iload 7) 2 93 := ⟨by decide +kernel, rfl⟩
theorem aX6_readsCells_93 : At kX6_readsCells 93 (.invokevirtual 102) 3 96 := ⟨by decide +kernel, rfl⟩
theorem aX6_readsCells_96 : At kX6_readsCells 96 (.iload 7) 2 98 := ⟨by decide +kernel, rfl⟩
theorem aX6_readsCells_98 : At kX6_readsCells 98 (.ifCond .lt 7) 3 101 := ⟨by decide +kernel, rfl⟩
theorem aX6_readsCells_101 : At kX6_readsCells 101 (.iconst 1) 1 102 := ⟨by decide +kernel, rfl⟩
theorem aX6_readsCells_102 : At kX6_readsCells 102 (.goto 4) 3 105 := ⟨by decide +kernel, rfl⟩
theorem aX6_readsCells_105 : At kX6_readsCells 105 (.iconst 0) 1 106 := ⟨by decide +kernel, rfl⟩
theorem aX6_readsCells_106 : At kX6_readsCells 106 (.ireturn) 1 107 := ⟨by decide +kernel, rfl⟩
theorem aX6_readsRow_0 : At kX6_readsRow 0 (.aload_n 0) 1 1 := ⟨by decide +kernel, rfl⟩
theorem aX6_readsRow_1 : At kX6_readsRow 1 (.bipush 48) 2 3 := ⟨by decide +kernel, rfl⟩
theorem aX6_readsRow_3 : At kX6_readsRow 3 (.invokevirtual 144) 3 6 := ⟨by decide +kernel, rfl⟩
theorem aX6_readsRow_6 : At kX6_readsRow 6 (.istore_n 2) 1 7 := ⟨by decide +kernel, rfl⟩
theorem aX6_readsRow_7 : At kX6_readsRow 7 (.iload_n 2) 1 8 := ⟨by decide +kernel, rfl⟩
theorem aX6_readsRow_8 : At kX6_readsRow 8 (.ifCond .lt 12) 3 11 := ⟨by decide +kernel, rfl⟩
theorem aX6_readsRow_11 : At kX6_readsRow 11 (.aload_n 0) 1 12 := ⟨by decide +kernel, rfl⟩
theorem aX6_readsRow_12 : At kX6_readsRow 12 (.bipush 61) 2 14 := ⟨by decide +kernel, rfl⟩
theorem aX6_readsRow_14 : At kX6_readsRow 14 (.invokevirtual 148) 3 17 := ⟨by decide +kernel, rfl⟩
theorem aX6_readsRow_17 : At kX6_readsRow 17 (.ifCond .ne 5) 3 20 := ⟨by decide +kernel, rfl⟩
theorem aX6_readsRow_20 : At kX6_readsRow 20 (.iconst 0) 1 21 := ⟨by decide +kernel, rfl⟩
theorem aX6_readsRow_21 : At kX6_readsRow 21 (.ireturn) 1 22 := ⟨by decide +kernel, rfl⟩
theorem aX6_readsRow_22 : At kX6_readsRow 22 (.aload_n 0) 1 23 := ⟨by decide +kernel, rfl⟩
theorem aX6_readsRow_23 : At kX6_readsRow 23 (.iload_n 1) 1 24 := ⟨by decide +kernel, rfl⟩
theorem aX6_readsRow_24 : At kX6_readsRow 24 (.iconst 4) 1 25 := ⟨by decide +kernel, rfl⟩
theorem aX6_readsRow_25 : At kX6_readsRow 25 (.iload_n 2) 1 26 := ⟨by decide +kernel, rfl⟩
theorem aX6_readsRow_26 : At kX6_readsRow 26 (.iconst 0) 1 27 := ⟨by decide +kernel, rfl⟩
theorem aX6_readsRow_27 : At kX6_readsRow 27 (.iconst 0) 1 28 := ⟨by decide +kernel, rfl⟩
theorem aX6_readsRow_28 : At kX6_readsRow 28 (.invokevirtual 102) 3 31 := ⟨by decide +kernel, rfl⟩
theorem aX6_readsRow_31 : At kX6_readsRow 31 (.aload_n 0) 1 32 := ⟨by decide +kernel, rfl⟩
theorem aX6_readsRow_32 : At kX6_readsRow 32 (.getfield 32) 3 35 := ⟨by decide +kernel, rfl⟩
theorem aX6_readsRow_35 : At kX6_readsRow 35 (.iconst 3) 1 36 := ⟨by decide +kernel, rfl⟩
theorem aX6_readsRow_36 : At kX6_readsRow 36 (.iaload) 1 37 := ⟨by decide +kernel, rfl⟩
theorem aX6_readsRow_37 : At kX6_readsRow 37 (.bipush 12) 2 39 := ⟨by decide +kernel, rfl⟩
theorem aX6_readsRow_39 : At kX6_readsRow 39 (.iload_n 2) 1 40 := ⟨by decide +kernel, rfl⟩
theorem aX6_readsRow_40 : At kX6_readsRow 40 (.isub) 1 41 := ⟨by decide +kernel, rfl⟩
theorem aX6_readsRow_41 : At kX6_readsRow 41 (.if_icmp .ge 46) 3 44 := ⟨by decide +kernel, rfl⟩
theorem aX6_readsRow_44 : At kX6_readsRow 44 (.aload_n 0) 1 45 := ⟨by decide +kernel, rfl⟩
theorem aX6_readsRow_45 : At kX6_readsRow 45 (.bipush 48) 2 47 := ⟨by decide +kernel, rfl⟩
theorem aX6_readsRow_47 : At kX6_readsRow 47 (.bipush 57) 2 49 := ⟨by decide +kernel, rfl⟩
theorem aX6_readsRow_49 : At kX6_readsRow 49 (.invokevirtual 140) 3 52 := ⟨by decide +kernel, rfl⟩
theorem aX6_readsRow_52 : At kX6_readsRow 52 (.ifCond .eq 35) 3 55 := ⟨by decide +kernel, rfl⟩
theorem aX6_readsRow_55 : At kX6_readsRow 55 (.aload_n 0) 1 56 := ⟨by decide +kernel, rfl⟩
theorem aX6_readsRow_56 : At kX6_readsRow 56 (.getfield 32) 3 59 := ⟨by decide +kernel, rfl⟩
theorem aX6_readsRow_59 : At kX6_readsRow 59 (.iconst 5) 1 60 := ⟨by decide +kernel, rfl⟩
theorem aX6_readsRow_60 : At kX6_readsRow 60 (.aload_n 0) 1 61 := ⟨by decide +kernel, rfl⟩
theorem aX6_readsRow_61 : At kX6_readsRow 61 (.getfield 32) 3 64 := ⟨by decide +kernel, rfl⟩
theorem aX6_readsRow_64 : At kX6_readsRow 64 (.iconst 3) 1 65 := ⟨by decide +kernel, rfl⟩
theorem aX6_readsRow_65 : At kX6_readsRow 65 (.iaload) 1 66 := ⟨by decide +kernel, rfl⟩
theorem aX6_readsRow_66 : At kX6_readsRow 66 (.iadd) 1 67 := ⟨by decide +kernel, rfl⟩
theorem aX6_readsRow_67 : At kX6_readsRow 67 (.aload_n 0) 1 68 := ⟨by decide +kernel, rfl⟩
theorem aX6_readsRow_68 : At kX6_readsRow 68 (.bipush 48) 2 70 := ⟨by decide +kernel, rfl⟩
theorem aX6_readsRow_70 : At kX6_readsRow 70 (.invokevirtual 152) 3 73 := ⟨by decide +kernel, rfl⟩
theorem aX6_readsRow_73 : At kX6_readsRow 73 (.iastore) 1 74 := ⟨by decide +kernel, rfl⟩
theorem aX6_readsRow_74 : At kX6_readsRow 74 (.aload_n 0) 1 75 := ⟨by decide +kernel, rfl⟩
theorem aX6_readsRow_75 : At kX6_readsRow 75 (.getfield 32) 3 78 := ⟨by decide +kernel, rfl⟩
theorem aX6_readsRow_78 : At kX6_readsRow 78 (.iconst 3) 1 79 := ⟨by decide +kernel, rfl⟩
theorem aX6_readsRow_79 : At kX6_readsRow 79 (.dup2) 1 80 := ⟨by decide +kernel, rfl⟩
theorem aX6_readsRow_80 : At kX6_readsRow 80 (.iaload) 1 81 := ⟨by decide +kernel, rfl⟩
theorem aX6_readsRow_81 : At kX6_readsRow 81 (.iconst 1) 1 82 := ⟨by decide +kernel, rfl⟩
theorem aX6_readsRow_82 : At kX6_readsRow 82 (.iadd) 1 83 := ⟨by decide +kernel, rfl⟩
theorem aX6_readsRow_83 : At kX6_readsRow 83 (.iastore) 1 84 := ⟨by decide +kernel, rfl⟩
theorem aX6_readsRow_84 : At kX6_readsRow 84 (.goto (-53)) 3 87 := ⟨by decide +kernel, rfl⟩
theorem aX6_readsRow_87 : At kX6_readsRow 87 (.aload_n 0) 1 88 := ⟨by decide +kernel, rfl⟩
theorem aX6_readsRow_88 : At kX6_readsRow 88 (.getfield 32) 3 91 := ⟨by decide +kernel, rfl⟩
theorem aX6_readsRow_91 : At kX6_readsRow 91 (.iconst 3) 1 92 := ⟨by decide +kernel, rfl⟩
theorem aX6_readsRow_92 : At kX6_readsRow 92 (.iaload) 1 93 := ⟨by decide +kernel, rfl⟩
theorem aX6_readsRow_93 : At kX6_readsRow 93 (.ifCond .le 7) 3 96 := ⟨by decide +kernel, rfl⟩
theorem aX6_readsRow_96 : At kX6_readsRow 96 (.iconst 1) 1 97 := ⟨by decide +kernel, rfl⟩
theorem aX6_readsRow_97 : At kX6_readsRow 97 (.goto 4) 3 100 := ⟨by decide +kernel, rfl⟩
theorem aX6_readsRow_100 : At kX6_readsRow 100 (.iconst 0) 1 101 := ⟨by decide +kernel, rfl⟩
theorem aX6_readsRow_101 : At kX6_readsRow 101 (.ireturn) 1 102 := ⟨by decide +kernel, rfl⟩
theorem aX6_readsOrder_0 : At kX6_readsOrder 0 (.aload_n 0) 1 1 := ⟨by decide +kernel, rfl⟩
theorem aX6_readsOrder_1 : At kX6_readsOrder 1 (.bipush 48) 2 3 := ⟨by decide +kernel, rfl⟩
theorem aX6_readsOrder_3 : At kX6_readsOrder 3 (.bipush 53) 2 5 := ⟨by decide +kernel, rfl⟩
theorem aX6_readsOrder_5 : At kX6_readsOrder 5 (.invokevirtual 140) 3 8 := ⟨by decide +kernel, rfl⟩
theorem aX6_readsOrder_8 : At kX6_readsOrder 8 (.ifCond .ne 5) 3 11 := ⟨by decide +kernel, rfl⟩
theorem aX6_readsOrder_11 : At kX6_readsOrder 11 (.iconst 0) 1 12 := ⟨by decide +kernel, rfl⟩
theorem aX6_readsOrder_12 : At kX6_readsOrder 12 (.ireturn) 1 13 := ⟨by decide +kernel, rfl⟩
theorem aX6_readsOrder_13 : At kX6_readsOrder 13 (.aload_n 0) 1 14 := ⟨by decide +kernel, rfl⟩
theorem aX6_readsOrder_14 : At kX6_readsOrder 14 (.bipush 48) 2 16 := ⟨by decide +kernel, rfl⟩
theorem aX6_readsOrder_16 : At kX6_readsOrder 16 (.invokevirtual 152) 3 19 := ⟨by decide +kernel, rfl⟩
theorem aX6_readsOrder_19 : At kX6_readsOrder 19 (.istore_n 1) 1 20 := ⟨by decide +kernel, rfl⟩
theorem aX6_readsOrder_20 : At kX6_readsOrder 20 (.aload_n 0) 1 21 := ⟨by decide +kernel, rfl⟩
theorem aX6_readsOrder_21 : At kX6_readsOrder 21 (.bipush 102) 2 23 := ⟨by decide +kernel, rfl⟩
theorem aX6_readsOrder_23 : At kX6_readsOrder 23 (.invokevirtual 148) 3 26 := ⟨by decide +kernel, rfl⟩
theorem aX6_readsOrder_26 : At kX6_readsOrder 26 (.ifCond .eq 14) 3 29 := ⟨by decide +kernel, rfl⟩
theorem aX6_readsOrder_29 : At kX6_readsOrder 29 (.aload_n 0) 1 30 := ⟨by decide +kernel, rfl⟩
theorem aX6_readsOrder_30 : At kX6_readsOrder 30 (.iload_n 1) 1 31 := ⟨by decide +kernel, rfl⟩
theorem aX6_readsOrder_31 : At kX6_readsOrder 31 (.iconst 1) 1 32 := ⟨by decide +kernel, rfl⟩
theorem aX6_readsOrder_32 : At kX6_readsOrder 32 (.bipush 61) 2 34 := ⟨by decide +kernel, rfl⟩
theorem aX6_readsOrder_34 : At kX6_readsOrder 34 (.bipush 48) 2 36 := ⟨by decide +kernel, rfl⟩
theorem aX6_readsOrder_36 : At kX6_readsOrder 36 (.invokevirtual 155) 3 39 := ⟨by decide +kernel, rfl⟩
theorem aX6_readsOrder_39 : At kX6_readsOrder 39 (.ireturn) 1 40 := ⟨by decide +kernel, rfl⟩
theorem aX6_readsOrder_40 : At kX6_readsOrder 40 (.aload_n 0) 1 41 := ⟨by decide +kernel, rfl⟩
theorem aX6_readsOrder_41 : At kX6_readsOrder 41 (.bipush 97) 2 43 := ⟨by decide +kernel, rfl⟩
theorem aX6_readsOrder_43 : At kX6_readsOrder 43 (.invokevirtual 148) 3 46 := ⟨by decide +kernel, rfl⟩
theorem aX6_readsOrder_46 : At kX6_readsOrder 46 (.ifCond .eq 14) 3 49 := ⟨by decide +kernel, rfl⟩
theorem aX6_readsOrder_49 : At kX6_readsOrder 49 (.aload_n 0) 1 50 := ⟨by decide +kernel, rfl⟩
theorem aX6_readsOrder_50 : At kX6_readsOrder 50 (.iload_n 1) 1 51 := ⟨by decide +kernel, rfl⟩
theorem aX6_readsOrder_51 : At kX6_readsOrder 51 (.iconst 2) 1 52 := ⟨by decide +kernel, rfl⟩
theorem aX6_readsOrder_52 : At kX6_readsOrder 52 (.bipush 43) 2 54 := ⟨by decide +kernel, rfl⟩
theorem aX6_readsOrder_54 : At kX6_readsOrder 54 (.bipush 49) 2 56 := ⟨by decide +kernel, rfl⟩
theorem aX6_readsOrder_56 : At kX6_readsOrder 56 (.invokevirtual 155) 3 59 := ⟨by decide +kernel, rfl⟩
theorem aX6_readsOrder_59 : At kX6_readsOrder 59 (.ireturn) 1 60 := ⟨by decide +kernel, rfl⟩
theorem aX6_readsOrder_60 : At kX6_readsOrder 60 (.aload_n 0) 1 61 := ⟨by decide +kernel, rfl⟩
theorem aX6_readsOrder_61 : At kX6_readsOrder 61 (.bipush 116) 2 63 := ⟨by decide +kernel, rfl⟩
theorem aX6_readsOrder_63 : At kX6_readsOrder 63 (.invokevirtual 148) 3 66 := ⟨by decide +kernel, rfl⟩
theorem aX6_readsOrder_66 : At kX6_readsOrder 66 (.ifCond .eq 30) 3 69 := ⟨by decide +kernel, rfl⟩
theorem aX6_readsOrder_69 : At kX6_readsOrder 69 (.aload_n 0) 1 70 := ⟨by decide +kernel, rfl⟩
theorem aX6_readsOrder_70 : At kX6_readsOrder 70 (.bipush 49) 2 72 := ⟨by decide +kernel, rfl⟩
theorem aX6_readsOrder_72 : At kX6_readsOrder 72 (.invokevirtual 144) 3 75 := ⟨by decide +kernel, rfl⟩
theorem aX6_readsOrder_75 : At kX6_readsOrder 75 (.istore_n 2) 1 76 := ⟨by decide +kernel, rfl⟩
theorem aX6_readsOrder_76 : At kX6_readsOrder 76 (.aload_n 0) 1 77 := ⟨by decide +kernel, rfl⟩
theorem aX6_readsOrder_77 : At kX6_readsOrder 77 (.iload_n 1) 1 78 := ⟨by decide +kernel, rfl⟩
theorem aX6_readsOrder_78 : At kX6_readsOrder 78 (.iconst 3) 1 79 := ⟨by decide +kernel, rfl⟩
theorem aX6_readsOrder_79 : At kX6_readsOrder 79 (.iconst 0) 1 80 := ⟨by decide +kernel, rfl⟩
theorem aX6_readsOrder_80 : At kX6_readsOrder 80 (.bipush 12) 2 82 := ⟨by decide +kernel, rfl⟩
theorem aX6_readsOrder_82 : At kX6_readsOrder 82 (.iload_n 2) 1 83 := ⟨by decide +kernel, rfl⟩
theorem aX6_readsOrder_83 : At kX6_readsOrder 83 (.invokevirtual 102) 3 86 := ⟨by decide +kernel, rfl⟩
theorem aX6_readsOrder_86 : At kX6_readsOrder 86 (.iload_n 2) 1 87 := ⟨by decide +kernel, rfl⟩
theorem aX6_readsOrder_87 : At kX6_readsOrder 87 (.ifCond .le 7) 3 90 := ⟨by decide +kernel, rfl⟩
theorem aX6_readsOrder_90 : At kX6_readsOrder 90 (.iconst 1) 1 91 := ⟨by decide +kernel, rfl⟩
theorem aX6_readsOrder_91 : At kX6_readsOrder 91 (.goto 4) 3 94 := ⟨by decide +kernel, rfl⟩
theorem aX6_readsOrder_94 : At kX6_readsOrder 94 (.iconst 0) 1 95 := ⟨by decide +kernel, rfl⟩
theorem aX6_readsOrder_95 : At kX6_readsOrder 95 (.ireturn) 1 96 := ⟨by decide +kernel, rfl⟩
theorem aX6_readsOrder_96 : At kX6_readsOrder 96 (.aload_n 0) 1 97 := ⟨by decide +kernel, rfl⟩
theorem aX6_readsOrder_97 : At kX6_readsOrder 97 (.iload_n 1) 1 98 := ⟨by decide +kernel, rfl⟩
theorem aX6_readsOrder_98 : At kX6_readsOrder 98 (.iconst 0) 1 99 := ⟨by decide +kernel, rfl⟩
theorem aX6_readsOrder_99 : At kX6_readsOrder 99 (.iconst 0) 1 100 := ⟨by decide +kernel, rfl⟩
theorem aX6_readsOrder_100 : At kX6_readsOrder 100 (.bipush 12) 2 102 := ⟨by decide +kernel, rfl⟩
theorem aX6_readsOrder_102 : At kX6_readsOrder 102 (.iconst 0) 1 103 := ⟨by decide +kernel, rfl⟩
theorem aX6_readsOrder_103 : At kX6_readsOrder 103 (.invokevirtual 102) 3 106 := ⟨by decide +kernel, rfl⟩
theorem aX6_readsOrder_106 : At kX6_readsOrder 106 (.aload_n 0) 1 107 := ⟨by decide +kernel, rfl⟩
theorem aX6_readsOrder_107 : At kX6_readsOrder 107 (.bipush 112) 2 109 := ⟨by decide +kernel, rfl⟩
theorem aX6_readsOrder_109 : At kX6_readsOrder 109 (.invokevirtual 148) 3 112 := ⟨by decide +kernel, rfl⟩
theorem aX6_readsOrder_112 : At kX6_readsOrder 112 (.ifCond .ne 20) 3 115 := ⟨by decide +kernel, rfl⟩
theorem aX6_readsOrder_115 : At kX6_readsOrder 115 (.aload_n 0) 1 116 := ⟨by decide +kernel, rfl⟩
theorem aX6_readsOrder_116 : At kX6_readsOrder 116 (.bipush 114) 2 118 := ⟨by decide +kernel, rfl⟩
theorem aX6_readsOrder_118 : At kX6_readsOrder 118 (.invokevirtual 148) 3 121 := ⟨by decide +kernel, rfl⟩
theorem aX6_readsOrder_121 : At kX6_readsOrder 121 (.ifCond .eq 15) 3 124 := ⟨by decide +kernel, rfl⟩
theorem aX6_readsOrder_124 : At kX6_readsOrder 124 (.aload_n 0) 1 125 := ⟨by decide +kernel, rfl⟩
theorem aX6_readsOrder_125 : At kX6_readsOrder 125 (.iload_n 1) 1 126 := ⟨by decide +kernel, rfl⟩
theorem aX6_readsOrder_126 : At kX6_readsOrder 126 (.invokevirtual 159) 3 129 := ⟨by decide +kernel, rfl⟩
theorem aX6_readsOrder_129 : At kX6_readsOrder 129 (.ifCond .eq 7) 3 132 := ⟨by decide +kernel, rfl⟩
theorem aX6_readsOrder_132 : At kX6_readsOrder 132 (.iconst 1) 1 133 := ⟨by decide +kernel, rfl⟩
theorem aX6_readsOrder_133 : At kX6_readsOrder 133 (.goto 4) 3 136 := ⟨by decide +kernel, rfl⟩
theorem aX6_readsOrder_136 : At kX6_readsOrder 136 (.iconst 0) 1 137 := ⟨by decide +kernel, rfl⟩
theorem aX6_readsOrder_137 : At kX6_readsOrder 137 (.ireturn) 1 138 := ⟨by decide +kernel, rfl⟩
theorem aX6_isText_0 : At kX6_isText 0 (.aload_n 0) 1 1 := ⟨by decide +kernel, rfl⟩
theorem aX6_isText_1 : At kX6_isText 1 (.iconst 0) 1 2 := ⟨by decide +kernel, rfl⟩
theorem aX6_isText_2 : At kX6_isText 2 (.putfield 137) 3 5 := ⟨by decide +kernel, rfl⟩
theorem aX6_isText_5 : At kX6_isText 5 (.iconst 1) 1 6 := ⟨by decide +kernel, rfl⟩
theorem aX6_isText_6 : At kX6_isText 6 (.istore_n 1) 1 7 := ⟨by decide +kernel, rfl⟩
theorem aX6_isText_7 : At kX6_isText 7 (.iload_n 1) 1 8 := ⟨by decide +kernel, rfl⟩
theorem aX6_isText_8 : At kX6_isText 8 (.ifCond .eq 22) 3 11 := ⟨by decide +kernel, rfl⟩
theorem aX6_isText_11 : At kX6_isText 11 (.aload_n 0) 1 12 := ⟨by decide +kernel, rfl⟩
theorem aX6_isText_12 : At kX6_isText 12 (.invokevirtual 162) 3 15 := ⟨by decide +kernel, rfl⟩
theorem aX6_isText_15 : At kX6_isText 15 (.ifCond .ne 5) 3 18 := ⟨by decide +kernel, rfl⟩
theorem aX6_isText_18 : At kX6_isText 18 (.iconst 0) 1 19 := ⟨by decide +kernel, rfl⟩
theorem aX6_isText_19 : At kX6_isText 19 (.ireturn) 1 20 := ⟨by decide +kernel, rfl⟩
theorem aX6_isText_20 : At kX6_isText 20 (.aload_n 0) 1 21 := ⟨by decide +kernel, rfl⟩
theorem aX6_isText_21 : At kX6_isText 21 (.bipush 59) 2 23 := ⟨by decide +kernel, rfl⟩
theorem aX6_isText_23 : At kX6_isText 23 (.invokevirtual 148) 3 26 := ⟨by decide +kernel, rfl⟩
theorem aX6_isText_26 : At kX6_isText 26 (.istore_n 1) 1 27 := ⟨by decide +kernel, rfl⟩
theorem aX6_isText_27 : At kX6_isText 27 (.goto (-20)) 3 30 := ⟨by decide +kernel, rfl⟩
theorem aX6_isText_30 : At kX6_isText 30 (.aload_n 0) 1 31 := ⟨by decide +kernel, rfl⟩
theorem aX6_isText_31 : At kX6_isText 31 (.getfield 137) 3 34 := ⟨by decide +kernel, rfl⟩
theorem aX6_isText_34 : At kX6_isText 34 (.aload_n 0) 1 35 := ⟨by decide +kernel, rfl⟩
theorem aX6_isText_35 : At kX6_isText 35 (.getfield 134) 3 38 := ⟨by decide +kernel, rfl⟩
theorem aX6_isText_38 : At kX6_isText 38 (.if_icmp .ne 7) 3 41 := ⟨by decide +kernel, rfl⟩
theorem aX6_isText_41 : At kX6_isText 41 (.iconst 1) 1 42 := ⟨by decide +kernel, rfl⟩
theorem aX6_isText_42 : At kX6_isText 42 (.goto 4) 3 45 := ⟨by decide +kernel, rfl⟩
theorem aX6_isText_45 : At kX6_isText 45 (.iconst 0) 1 46 := ⟨by decide +kernel, rfl⟩
theorem aX6_isText_46 : At kX6_isText 46 (.ireturn) 1 47 := ⟨by decide +kernel, rfl⟩
theorem aX6_does_0 : At kX6_does 0 (.aload_n 0) 1 1 := ⟨by decide +kernel, rfl⟩
theorem aX6_does_1 : At kX6_does 1 (.getfield 32) 3 4 := ⟨by decide +kernel, rfl⟩
theorem aX6_does_4 : At kX6_does 4 (.iconst 1) 1 5 := ⟨by decide +kernel, rfl⟩
theorem aX6_does_5 : At kX6_does 5 (.iaload) 1 6 := ⟨by decide +kernel, rfl⟩
theorem aX6_does_6 : At kX6_does 6 (.ifCond .ne 28) 3 9 := ⟨by decide +kernel, rfl⟩
theorem aX6_does_9 : At kX6_does 9 (.aload_n 0) 1 10 := ⟨by decide +kernel, rfl⟩
theorem aX6_does_10 : At kX6_does 10 (.bipush 8) 2 12 := ⟨by decide +kernel, rfl⟩
theorem aX6_does_12 : At kX6_does 12 (.aload_n 0) 1 13 := ⟨by decide +kernel, rfl⟩
theorem aX6_does_13 : At kX6_does 13 (.getfield 32) 3 16 := ⟨by decide +kernel, rfl⟩
theorem aX6_does_16 : At kX6_does 16 (.iconst 0) 1 17 := ⟨by decide +kernel, rfl⟩
theorem aX6_does_17 : At kX6_does 17 (.iaload) 1 18 := ⟨by decide +kernel, rfl⟩
theorem aX6_does_18 : At kX6_does 18 (.invokevirtual 83) 3 21 := ⟨by decide +kernel, rfl⟩
theorem aX6_does_21 : At kX6_does 21 (.aload_n 0) 1 22 := ⟨by decide +kernel, rfl⟩
theorem aX6_does_22 : At kX6_does 22 (.aload_n 0) 1 23 := ⟨by decide +kernel, rfl⟩
theorem aX6_does_23 : At kX6_does 23 (.getfield 32) 3 26 := ⟨by decide +kernel, rfl⟩
theorem aX6_does_26 : At kX6_does 26 (.iconst 0) 1 27 := ⟨by decide +kernel, rfl⟩
theorem aX6_does_27 : At kX6_does 27 (.iaload) 1 28 := ⟨by decide +kernel, rfl⟩
theorem aX6_does_28 : At kX6_does 28 (.invokevirtual 98) 3 31 := ⟨by decide +kernel, rfl⟩
theorem aX6_does_31 : At kX6_does 31 (.goto 7) 3 34 := ⟨by decide +kernel, rfl⟩
theorem aX6_does_34 : At kX6_does 34 (.aload_n 0) 1 35 := ⟨by decide +kernel, rfl⟩
theorem aX6_does_35 : At kX6_does 35 (.invokevirtual 115) 3 38 := ⟨by decide +kernel, rfl⟩
theorem aX6_does_38 : At kX6_does 38 (.aload_n 0) 1 39 := ⟨by decide +kernel, rfl⟩
theorem aX6_does_39 : At kX6_does 39 (.invokevirtual 118) 3 42 := ⟨by decide +kernel, rfl⟩
theorem aX6_does_42 : At kX6_does 42 (.istore_n 1) 1 43 := ⟨by decide +kernel, rfl⟩
theorem aX6_does_43 : At kX6_does 43 (.iload_n 1) 1 44 := ⟨by decide +kernel, rfl⟩
theorem aX6_does_44 : At kX6_does 44 (.ifCond .eq 7) 3 47 := ⟨by decide +kernel, rfl⟩
theorem aX6_does_47 : At kX6_does 47 (.aload_n 0) 1 48 := ⟨by decide +kernel, rfl⟩
theorem aX6_does_48 : At kX6_does 48 (.invokevirtual 122) 3 51 := ⟨by decide +kernel, rfl⟩
theorem aX6_does_51 : At kX6_does 51 (.iload_n 1) 1 52 := ⟨by decide +kernel, rfl⟩
theorem aX6_does_52 : At kX6_does 52 (.ireturn) 1 53 := ⟨by decide +kernel, rfl⟩
theorem aX6_readOrders_0 : At kX6_readOrders 0 (.aload_n 0) 1 1 := ⟨by decide +kernel, rfl⟩
theorem aX6_readOrders_1 : At kX6_readOrders 1 (.invokevirtual 165) 3 4 := ⟨by decide +kernel, rfl⟩
theorem aX6_readOrders_4 : At kX6_readOrders 4 (.ifCond .ne 11) 3 7 := ⟨by decide +kernel, rfl⟩
theorem aX6_readOrders_7 : At kX6_readOrders 7 (.bipush (-100)) 2 9 := ⟨by decide +kernel, rfl⟩
theorem aX6_readOrders_9 : At kX6_readOrders 9 (.aload_n 0) 1 10 := ⟨by decide +kernel, rfl⟩
theorem aX6_readOrders_10 : At kX6_readOrders 10 (.getfield 137) 3 13 := ⟨by decide +kernel, rfl⟩
theorem aX6_readOrders_13 : At kX6_readOrders 13 (.isub) 1 14 := ⟨by decide +kernel, rfl⟩
theorem aX6_readOrders_14 : At kX6_readOrders 14 (.ireturn) 1 15 := ⟨by decide +kernel, rfl⟩
theorem aX6_readOrders_15 : At kX6_readOrders 15 (.aload_n 0) 1 16 := ⟨by decide +kernel, rfl⟩
theorem aX6_readOrders_16 : At kX6_readOrders 16 (.getfield 7) 3 19 := ⟨by decide +kernel, rfl⟩
theorem aX6_readOrders_19 : At kX6_readOrders 19 (.iconst 0) 1 20 := ⟨by decide +kernel, rfl⟩
theorem aX6_readOrders_20 : At kX6_readOrders 20 (.aload_n 0) 1 21 := ⟨by decide +kernel, rfl⟩
theorem aX6_readOrders_21 : At kX6_readOrders 21 (.getfield 13) 3 24 := ⟨by decide +kernel, rfl⟩
theorem aX6_readOrders_24 : At kX6_readOrders 24 (.iconst 0) 1 25 := ⟨by decide +kernel, rfl⟩
theorem aX6_readOrders_25 : At kX6_readOrders 25 (.invokestatic 43) 3 28 := ⟨by decide +kernel, rfl⟩
theorem aX6_readOrders_28 : At kX6_readOrders 28 (.iconst 1) 1 29 := ⟨by decide +kernel, rfl⟩
theorem aX6_readOrders_29 : At kX6_readOrders 29 (.istore_n 1) 1 30 := ⟨by decide +kernel, rfl⟩
theorem aX6_readOrders_30 : At kX6_readOrders 30 (.aload_n 0) 1 31 := ⟨by decide +kernel, rfl⟩
theorem aX6_readOrders_31 : At kX6_readOrders 31 (.iconst 0) 1 32 := ⟨by decide +kernel, rfl⟩
theorem aX6_readOrders_32 : At kX6_readOrders 32 (.putfield 137) 3 35 := ⟨by decide +kernel, rfl⟩
theorem aX6_readOrders_35 : At kX6_readOrders 35 (.aload_n 0) 1 36 := ⟨by decide +kernel, rfl⟩
theorem aX6_readOrders_36 : At kX6_readOrders 36 (.getfield 137) 3 39 := ⟨by decide +kernel, rfl⟩
theorem aX6_readOrders_39 : At kX6_readOrders 39 (.aload_n 0) 1 40 := ⟨by decide +kernel, rfl⟩
theorem aX6_readOrders_40 : At kX6_readOrders 40 (.getfield 134) 3 43 := ⟨by decide +kernel, rfl⟩
theorem aX6_readOrders_43 : At kX6_readOrders 43 (.if_icmp .ge 60) 3 46 := ⟨by decide +kernel, rfl⟩
theorem aX6_readOrders_46 : At kX6_readOrders 46 (.iload_n 1) 1 47 := ⟨by decide +kernel, rfl⟩
theorem aX6_readOrders_47 : At kX6_readOrders 47 (.ifCond .eq 56) 3 50 := ⟨by decide +kernel, rfl⟩
theorem aX6_readOrders_50 : At kX6_readOrders 50 (.aload_n 0) 1 51 := ⟨by decide +kernel, rfl⟩
theorem aX6_readOrders_51 : At kX6_readOrders 51 (.invokevirtual 162) 3 54 := ⟨by decide +kernel, rfl⟩
theorem aX6_readOrders_54 : At kX6_readOrders 54 (.ifCond .eq 14) 3 57 := ⟨by decide +kernel, rfl⟩
theorem aX6_readOrders_57 : At kX6_readOrders 57 (.aload_n 0) 1 58 := ⟨by decide +kernel, rfl⟩
theorem aX6_readOrders_58 : At kX6_readOrders 58 (.invokevirtual 168) 3 61 := ⟨by decide +kernel, rfl⟩
theorem aX6_readOrders_61 : At kX6_readOrders 61 (.ifCond .eq 7) 3 64 := ⟨by decide +kernel, rfl⟩
theorem aX6_readOrders_64 : At kX6_readOrders 64 (.iconst 1) 1 65 := ⟨by decide +kernel, rfl⟩
theorem aX6_readOrders_65 : At kX6_readOrders 65 (.goto 4) 3 68 := ⟨by decide +kernel, rfl⟩
theorem aX6_readOrders_68 : At kX6_readOrders 68 (.iconst 0) 1 69 := ⟨by decide +kernel, rfl⟩
theorem aX6_readOrders_69 : At kX6_readOrders 69 (.istore_n 1) 1 70 := ⟨by decide +kernel, rfl⟩
theorem aX6_readOrders_70 : At kX6_readOrders 70 (.aload_n 0) 1 71 := ⟨by decide +kernel, rfl⟩
theorem aX6_readOrders_71 : At kX6_readOrders 71 (.bipush 59) 2 73 := ⟨by decide +kernel, rfl⟩
theorem aX6_readOrders_73 : At kX6_readOrders 73 (.invokevirtual 148) 3 76 := ⟨by decide +kernel, rfl⟩
theorem aX6_readOrders_76 : At kX6_readOrders 76 (.ifCond .ne 14) 3 79 := ⟨by decide +kernel, rfl⟩
theorem aX6_readOrders_79 : At kX6_readOrders 79 (.aload_n 0) 1 80 := ⟨by decide +kernel, rfl⟩
theorem aX6_readOrders_80 : At kX6_readOrders 80 (.getfield 137) 3 83 := ⟨by decide +kernel, rfl⟩
theorem aX6_readOrders_83 : At kX6_readOrders 83 (.aload_n 0) 1 84 := ⟨by decide +kernel, rfl⟩
theorem aX6_readOrders_84 : At kX6_readOrders 84 (.getfield 134) 3 87 := ⟨by decide +kernel, rfl⟩
theorem aX6_readOrders_87 : At kX6_readOrders 87 (.if_icmp .ne 11) 3 90 := ⟨by decide +kernel, rfl⟩
theorem aX6_readOrders_90 : At kX6_readOrders 90 (.iload_n 1) 1 91 := ⟨by decide +kernel, rfl⟩
theorem aX6_readOrders_91 : At kX6_readOrders 91 (.ifCond .eq 7) 3 94 := ⟨by decide +kernel, rfl⟩
theorem aX6_readOrders_94 : At kX6_readOrders 94 (.iconst 1) 1 95 := ⟨by decide +kernel, rfl⟩
theorem aX6_readOrders_95 : At kX6_readOrders 95 (.goto 4) 3 98 := ⟨by decide +kernel, rfl⟩
theorem aX6_readOrders_98 : At kX6_readOrders 98 (.iconst 0) 1 99 := ⟨by decide +kernel, rfl⟩
theorem aX6_readOrders_99 : At kX6_readOrders 99 (.istore_n 1) 1 100 := ⟨by decide +kernel, rfl⟩
theorem aX6_readOrders_100 : At kX6_readOrders 100 (.goto (-65)) 3 103 := ⟨by decide +kernel, rfl⟩
theorem aX6_readOrders_103 : At kX6_readOrders 103 (.iload_n 1) 1 104 := ⟨by decide +kernel, rfl⟩
theorem aX6_readOrders_104 : At kX6_readOrders 104 (.ifCond .ne 19) 3 107 := ⟨by decide +kernel, rfl⟩
theorem aX6_readOrders_107 : At kX6_readOrders 107 (.aload_n 0) 1 108 := ⟨by decide +kernel, rfl⟩
theorem aX6_readOrders_108 : At kX6_readOrders 108 (.getfield 13) 3 111 := ⟨by decide +kernel, rfl⟩
theorem aX6_readOrders_111 : At kX6_readOrders 111 (.iconst 0) 1 112 := ⟨by decide +kernel, rfl⟩
theorem aX6_readOrders_112 : At kX6_readOrders 112 (.aload_n 0) 1 113 := ⟨by decide +kernel, rfl⟩
theorem aX6_readOrders_113 : At kX6_readOrders 113 (.getfield 7) 3 116 := ⟨by decide +kernel, rfl⟩
theorem aX6_readOrders_116 : At kX6_readOrders 116 (.iconst 0) 1 117 := ⟨by decide +kernel, rfl⟩
theorem aX6_readOrders_117 : At kX6_readOrders 117 (.invokestatic 43) 3 120 := ⟨by decide +kernel, rfl⟩
theorem aX6_readOrders_120 : At kX6_readOrders 120 (.bipush (-3)) 2 122 := ⟨by decide +kernel, rfl⟩
theorem aX6_readOrders_122 : At kX6_readOrders 122 (.ireturn) 1 123 := ⟨by decide +kernel, rfl⟩
theorem aX6_readOrders_123 : At kX6_readOrders 123 (.aload_n 0) 1 124 := ⟨by decide +kernel, rfl⟩
theorem aX6_readOrders_124 : At kX6_readOrders 124 (.aload_n 0) 1 125 := ⟨by decide +kernel, rfl⟩
theorem aX6_readOrders_125 : At kX6_readOrders 125 (.getfield 13) 3 128 := ⟨by decide +kernel, rfl⟩
theorem aX6_readOrders_128 : At kX6_readOrders 128 (.invokevirtual 51) 3 131 := ⟨by decide +kernel, rfl⟩
theorem aX6_readOrders_131 : At kX6_readOrders 131 (.aload_n 0) 1 132 := ⟨by decide +kernel, rfl⟩
theorem aX6_readOrders_132 : At kX6_readOrders 132 (.getfield 7) 3 135 := ⟨by decide +kernel, rfl⟩
theorem aX6_readOrders_135 : At kX6_readOrders 135 (.iconst 5) 1 136 := ⟨by decide +kernel, rfl⟩
theorem aX6_readOrders_136 : At kX6_readOrders 136 (.iaload) 1 137 := ⟨by decide +kernel, rfl⟩
theorem aX6_readOrders_137 : At kX6_readOrders 137 (.aload_n 0) 1 138 := ⟨by decide +kernel, rfl⟩
theorem aX6_readOrders_138 : At kX6_readOrders 138 (.getfield 13) 3 141 := ⟨by decide +kernel, rfl⟩
theorem aX6_readOrders_141 : At kX6_readOrders 141 (.iconst 5) 1 142 := ⟨by decide +kernel, rfl⟩
theorem aX6_readOrders_142 : At kX6_readOrders 142 (.iaload) 1 143 := ⟨by decide +kernel, rfl⟩
theorem aX6_readOrders_143 : At kX6_readOrders 143 (.isub) 1 144 := ⟨by decide +kernel, rfl⟩
theorem aX6_readOrders_144 : At kX6_readOrders 144 (.ireturn) 1 145 := ⟨by decide +kernel, rfl⟩
theorem aX6_setWay_0 : At kX6_setWay 0 (.iload_n 1) 1 1 := ⟨by decide +kernel, rfl⟩
theorem aX6_setWay_1 : At kX6_setWay 1 (.iconst 0) 1 2 := ⟨by decide +kernel, rfl⟩
theorem aX6_setWay_2 : At kX6_setWay 2 (.iconst 2) 1 3 := ⟨by decide +kernel, rfl⟩
theorem aX6_setWay_3 : At kX6_setWay 3 (.invokestatic 35) 3 6 := ⟨by decide +kernel, rfl⟩
theorem aX6_setWay_6 : At kX6_setWay 6 (.ifCond .ne 6) 3 9 := ⟨by decide +kernel, rfl⟩
theorem aX6_setWay_9 : At kX6_setWay 9 (.bipush (-2)) 2 11 := ⟨by decide +kernel, rfl⟩
theorem aX6_setWay_11 : At kX6_setWay 11 (.ireturn) 1 12 := ⟨by decide +kernel, rfl⟩
theorem aX6_setWay_12 : At kX6_setWay 12 (.aload_n 0) 1 13 := ⟨by decide +kernel, rfl⟩
theorem aX6_setWay_13 : At kX6_setWay 13 (.getfield 7) 3 16 := ⟨by decide +kernel, rfl⟩
theorem aX6_setWay_16 : At kX6_setWay 16 (.iconst 0) 1 17 := ⟨by decide +kernel, rfl⟩
theorem aX6_setWay_17 : At kX6_setWay 17 (.iaload) 1 18 := ⟨by decide +kernel, rfl⟩
theorem aX6_setWay_18 : At kX6_setWay 18 (.istore_n 2) 1 19 := ⟨by decide +kernel, rfl⟩
theorem aX6_setWay_19 : At kX6_setWay 19 (.iload_n 2) 1 20 := ⟨by decide +kernel, rfl⟩
theorem aX6_setWay_20 : At kX6_setWay 20 (.iload_n 1) 1 21 := ⟨by decide +kernel, rfl⟩
theorem aX6_setWay_21 : At kX6_setWay 21 (.if_icmp .ne 6) 3 24 := ⟨by decide +kernel, rfl⟩
theorem aX6_setWay_24 : At kX6_setWay 24 (.bipush (-5)) 2 26 := ⟨by decide +kernel, rfl⟩
theorem aX6_setWay_26 : At kX6_setWay 26 (.ireturn) 1 27 := ⟨by decide +kernel, rfl⟩
theorem aX6_setWay_27 : At kX6_setWay 27 (.aload_n 0) 1 28 := ⟨by decide +kernel, rfl⟩
theorem aX6_setWay_28 : At kX6_setWay 28 (.aload_n 0) 1 29 := ⟨by decide +kernel, rfl⟩
theorem aX6_setWay_29 : At kX6_setWay 29 (.getfield 7) 3 32 := ⟨by decide +kernel, rfl⟩
theorem aX6_setWay_32 : At kX6_setWay 32 (.invokevirtual 51) 3 35 := ⟨by decide +kernel, rfl⟩
theorem aX6_setWay_35 : At kX6_setWay 35 (.aload_n 0) 1 36 := ⟨by decide +kernel, rfl⟩
theorem aX6_setWay_36 : At kX6_setWay 36 (.getfield 7) 3 39 := ⟨by decide +kernel, rfl⟩
theorem aX6_setWay_39 : At kX6_setWay 39 (.iconst 0) 1 40 := ⟨by decide +kernel, rfl⟩
theorem aX6_setWay_40 : At kX6_setWay 40 (.iload_n 1) 1 41 := ⟨by decide +kernel, rfl⟩
theorem aX6_setWay_41 : At kX6_setWay 41 (.iastore) 1 42 := ⟨by decide +kernel, rfl⟩
theorem aX6_setWay_42 : At kX6_setWay 42 (.iload_n 2) 1 43 := ⟨by decide +kernel, rfl⟩
theorem aX6_setWay_43 : At kX6_setWay 43 (.ireturn) 1 44 := ⟨by decide +kernel, rfl⟩
theorem aX6_setRoom_0 : At kX6_setRoom 0 (.iload_n 1) 1 1 := ⟨by decide +kernel, rfl⟩
theorem aX6_setRoom_1 : At kX6_setRoom 1 (.bipush 30) 2 3 := ⟨by decide +kernel, rfl⟩
theorem aX6_setRoom_3 : At kX6_setRoom 3 (.sipush 300) 3 6 := ⟨by decide +kernel, rfl⟩
theorem aX6_setRoom_6 : At kX6_setRoom 6 (.invokestatic 35) 3 9 := ⟨by decide +kernel, rfl⟩
theorem aX6_setRoom_9 : At kX6_setRoom 9 (.ifCond .ne 6) 3 12 := ⟨by decide +kernel, rfl⟩
theorem aX6_setRoom_12 : At kX6_setRoom 12 (.bipush (-2)) 2 14 := ⟨by decide +kernel, rfl⟩
theorem aX6_setRoom_14 : At kX6_setRoom 14 (.ireturn) 1 15 := ⟨by decide +kernel, rfl⟩
theorem aX6_setRoom_15 : At kX6_setRoom 15 (.aload_n 0) 1 16 := ⟨by decide +kernel, rfl⟩
theorem aX6_setRoom_16 : At kX6_setRoom 16 (.iload_n 1) 1 17 := ⟨by decide +kernel, rfl⟩
theorem aX6_setRoom_17 : At kX6_setRoom 17 (.invokevirtual 106) 3 20 := ⟨by decide +kernel, rfl⟩
theorem aX6_setRoom_20 : At kX6_setRoom 20 (.istore_n 2) 1 21 := ⟨by decide +kernel, rfl⟩
theorem aX6_setRoom_21 : At kX6_setRoom 21 (.aload_n 0) 1 22 := ⟨by decide +kernel, rfl⟩
theorem aX6_setRoom_22 : At kX6_setRoom 22 (.iload_n 2) 1 23 := ⟨by decide +kernel, rfl⟩
theorem aX6_setRoom_23 : At kX6_setRoom 23 (.invokevirtual 109) 3 26 := ⟨by decide +kernel, rfl⟩
theorem aX6_setRoom_26 : At kX6_setRoom 26 (.iload_n 1) 1 27 := ⟨by decide +kernel, rfl⟩
theorem aX6_setRoom_27 : At kX6_setRoom 27 (.if_icmp .le 6) 3 30 := ⟨by decide +kernel, rfl⟩
theorem aX6_setRoom_30 : At kX6_setRoom 30 (.bipush (-4)) 2 32 := ⟨by decide +kernel, rfl⟩
theorem aX6_setRoom_32 : At kX6_setRoom 32 (.ireturn) 1 33 := ⟨by decide +kernel, rfl⟩
theorem aX6_setRoom_33 : At kX6_setRoom 33 (.aload_n 0) 1 34 := ⟨by decide +kernel, rfl⟩
theorem aX6_setRoom_34 : At kX6_setRoom 34 (.getfield 7) 3 37 := ⟨by decide +kernel, rfl⟩
theorem aX6_setRoom_37 : At kX6_setRoom 37 (.iconst 1) 1 38 := ⟨by decide +kernel, rfl⟩
theorem aX6_setRoom_38 : At kX6_setRoom 38 (.iaload) 1 39 := ⟨by decide +kernel, rfl⟩
theorem aX6_setRoom_39 : At kX6_setRoom 39 (.istore_n 3) 1 40 := ⟨by decide +kernel, rfl⟩
theorem aX6_setRoom_40 : At kX6_setRoom 40 (.iload_n 3) 1 41 := ⟨by decide +kernel, rfl⟩
theorem aX6_setRoom_41 : At kX6_setRoom 41 (.iload_n 1) 1 42 := ⟨by decide +kernel, rfl⟩
theorem aX6_setRoom_42 : At kX6_setRoom 42 (.if_icmp .ne 6) 3 45 := ⟨by decide +kernel, rfl⟩
theorem aX6_setRoom_45 : At kX6_setRoom 45 (.bipush (-5)) 2 47 := ⟨by decide +kernel, rfl⟩
theorem aX6_setRoom_47 : At kX6_setRoom 47 (.ireturn) 1 48 := ⟨by decide +kernel, rfl⟩
theorem aX6_setRoom_48 : At kX6_setRoom 48 (.aload_n 0) 1 49 := ⟨by decide +kernel, rfl⟩
theorem aX6_setRoom_49 : At kX6_setRoom 49 (.aload_n 0) 1 50 := ⟨by decide +kernel, rfl⟩
theorem aX6_setRoom_50 : At kX6_setRoom 50 (.getfield 7) 3 53 := ⟨by decide +kernel, rfl⟩
theorem aX6_setRoom_53 : At kX6_setRoom 53 (.invokevirtual 51) 3 56 := ⟨by decide +kernel, rfl⟩
theorem aX6_setRoom_56 : At kX6_setRoom 56 (.aload_n 0) 1 57 := ⟨by decide +kernel, rfl⟩
theorem aX6_setRoom_57 : At kX6_setRoom 57 (.iload_n 2) 1 58 := ⟨by decide +kernel, rfl⟩
theorem aX6_setRoom_58 : At kX6_setRoom 58 (.invokevirtual 112) 3 61 := ⟨by decide +kernel, rfl⟩
theorem aX6_setRoom_61 : At kX6_setRoom 61 (.aload_n 0) 1 62 := ⟨by decide +kernel, rfl⟩
theorem aX6_setRoom_62 : At kX6_setRoom 62 (.getfield 7) 3 65 := ⟨by decide +kernel, rfl⟩
theorem aX6_setRoom_65 : At kX6_setRoom 65 (.iconst 1) 1 66 := ⟨by decide +kernel, rfl⟩
theorem aX6_setRoom_66 : At kX6_setRoom 66 (.iload_n 1) 1 67 := ⟨by decide +kernel, rfl⟩
theorem aX6_setRoom_67 : At kX6_setRoom 67 (.iastore) 1 68 := ⟨by decide +kernel, rfl⟩
theorem aX6_setRoom_68 : At kX6_setRoom 68 (.iload_n 3) 1 69 := ⟨by decide +kernel, rfl⟩
theorem aX6_setRoom_69 : At kX6_setRoom 69 (.ireturn) 1 70 := ⟨by decide +kernel, rfl⟩
theorem aX6_flush_0 : At kX6_flush 0 (.aload_n 0) 1 1 := ⟨by decide +kernel, rfl⟩
theorem aX6_flush_1 : At kX6_flush 1 (.getfield 7) 3 4 := ⟨by decide +kernel, rfl⟩
theorem aX6_flush_4 : At kX6_flush 4 (.iconst 3) 1 5 := ⟨by decide +kernel, rfl⟩
theorem aX6_flush_5 : At kX6_flush 5 (.iaload) 1 6 := ⟨by decide +kernel, rfl⟩
theorem aX6_flush_6 : At kX6_flush 6 (.aload_n 0) 1 7 := ⟨by decide +kernel, rfl⟩
theorem aX6_flush_7 : At kX6_flush 7 (.getfield 7) 3 10 := ⟨by decide +kernel, rfl⟩
theorem aX6_flush_10 : At kX6_flush 10 (.iconst 4) 1 11 := ⟨by decide +kernel, rfl⟩
theorem aX6_flush_11 : At kX6_flush 11 (.iaload) 1 12 := ⟨by decide +kernel, rfl⟩
theorem aX6_flush_12 : At kX6_flush 12 (.isub) 1 13 := ⟨by decide +kernel, rfl⟩
theorem aX6_flush_13 : At kX6_flush 13 (.istore_n 1) 1 14 := ⟨by decide +kernel, rfl⟩
theorem aX6_flush_14 : At kX6_flush 14 (.iload_n 1) 1 15 := ⟨by decide +kernel, rfl⟩
theorem aX6_flush_15 : At kX6_flush 15 (.ifCond .ne 6) 3 18 := ⟨by decide +kernel, rfl⟩
theorem aX6_flush_18 : At kX6_flush 18 (.bipush (-5)) 2 20 := ⟨by decide +kernel, rfl⟩
theorem aX6_flush_20 : At kX6_flush 20 (.ireturn) 1 21 := ⟨by decide +kernel, rfl⟩
theorem aX6_flush_21 : At kX6_flush 21 (.aload_n 0) 1 22 := ⟨by decide +kernel, rfl⟩
theorem aX6_flush_22 : At kX6_flush 22 (.aload_n 0) 1 23 := ⟨by decide +kernel, rfl⟩
theorem aX6_flush_23 : At kX6_flush 23 (.getfield 7) 3 26 := ⟨by decide +kernel, rfl⟩
theorem aX6_flush_26 : At kX6_flush 26 (.invokevirtual 51) 3 29 := ⟨by decide +kernel, rfl⟩
theorem aX6_flush_29 : At kX6_flush 29 (.aload_n 0) 1 30 := ⟨by decide +kernel, rfl⟩
theorem aX6_flush_30 : At kX6_flush 30 (.getfield 7) 3 33 := ⟨by decide +kernel, rfl⟩
theorem aX6_flush_33 : At kX6_flush 33 (.iconst 4) 1 34 := ⟨by decide +kernel, rfl⟩
theorem aX6_flush_34 : At kX6_flush 34 (.aload_n 0) 1 35 := ⟨by decide +kernel, rfl⟩
theorem aX6_flush_35 : At kX6_flush 35 (.getfield 7) 3 38 := ⟨by decide +kernel, rfl⟩
theorem aX6_flush_38 : At kX6_flush 38 (.iconst 3) 1 39 := ⟨by decide +kernel, rfl⟩
theorem aX6_flush_39 : At kX6_flush 39 (.iaload) 1 40 := ⟨by decide +kernel, rfl⟩
theorem aX6_flush_40 : At kX6_flush 40 (.iastore) 1 41 := ⟨by decide +kernel, rfl⟩
theorem aX6_flush_41 : At kX6_flush 41 (.iload_n 1) 1 42 := ⟨by decide +kernel, rfl⟩
theorem aX6_flush_42 : At kX6_flush 42 (.ireturn) 1 43 := ⟨by decide +kernel, rfl⟩
theorem aX6_store_0 : At kX6_store 0 (.iload_n 1) 1 1 := ⟨by decide +kernel, rfl⟩
theorem aX6_store_1 : At kX6_store 1 (.invokestatic 125) 3 4 := ⟨by decide +kernel, rfl⟩
theorem aX6_store_4 : At kX6_store 4 (.ifCond .ne 5) 3 7 := ⟨by decide +kernel, rfl⟩
theorem aX6_store_7 : At kX6_store 7 (.iconst (-1)) 1 8 := ⟨by decide +kernel, rfl⟩
theorem aX6_store_8 : At kX6_store 8 (.ireturn) 1 9 := ⟨by decide +kernel, rfl⟩
theorem aX6_store_9 : At kX6_store 9 (.aload_n 0) 1 10 := ⟨by decide +kernel, rfl⟩
theorem aX6_store_10 : At kX6_store 10 (.getfield 7) 3 13 := ⟨by decide +kernel, rfl⟩
theorem aX6_store_13 : At kX6_store 13 (.iconst 4) 1 14 := ⟨by decide +kernel, rfl⟩
theorem aX6_store_14 : At kX6_store 14 (.iaload) 1 15 := ⟨by decide +kernel, rfl⟩
theorem aX6_store_15 : At kX6_store 15 (.istore_n 2) 1 16 := ⟨by decide +kernel, rfl⟩
theorem aX6_store_16 : At kX6_store 16 (.iload_n 2) 1 17 := ⟨by decide +kernel, rfl⟩
theorem aX6_store_17 : At kX6_store 17 (.aload_n 0) 1 18 := ⟨by decide +kernel, rfl⟩
theorem aX6_store_18 : At kX6_store 18 (.getfield 7) 3 21 := ⟨by decide +kernel, rfl⟩
theorem aX6_store_21 : At kX6_store 21 (.iconst 3) 1 22 := ⟨by decide +kernel, rfl⟩
theorem aX6_store_22 : At kX6_store 22 (.iaload) 1 23 := ⟨by decide +kernel, rfl⟩
theorem aX6_store_23 : At kX6_store 23 (.if_icmp .ge 22) 3 26 := ⟨by decide +kernel, rfl⟩
theorem aX6_store_26 : At kX6_store 26 (.aload_n 0) 1 27 := ⟨by decide +kernel, rfl⟩
theorem aX6_store_27 : At kX6_store 27 (.iload_n 2) 1 28 := ⟨by decide +kernel, rfl⟩
theorem aX6_store_28 : At kX6_store 28 (.iconst 0) 1 29 := ⟨by decide +kernel, rfl⟩
theorem aX6_store_29 : At kX6_store 29 (.invokevirtual 66) 3 32 := ⟨by decide +kernel, rfl⟩
theorem aX6_store_32 : At kX6_store 32 (.iload_n 1) 1 33 := ⟨by decide +kernel, rfl⟩
theorem aX6_store_33 : At kX6_store 33 (.if_icmp .ne 6) 3 36 := ⟨by decide +kernel, rfl⟩
theorem aX6_store_36 : At kX6_store 36 (.bipush (-4)) 2 38 := ⟨by decide +kernel, rfl⟩
theorem aX6_store_38 : At kX6_store 38 (.ireturn) 1 39 := ⟨by decide +kernel, rfl⟩
theorem aX6_store_39 : At kX6_store 39 (.iinc 2 1) 3 42 := ⟨by decide +kernel, rfl⟩
theorem aX6_store_42 : At kX6_store 42 (.goto (-26)) 3 45 := ⟨by decide +kernel, rfl⟩
theorem aX6_store_45 : At kX6_store 45 (.aload_n 0) 1 46 := ⟨by decide +kernel, rfl⟩
theorem aX6_store_46 : At kX6_store 46 (.aload_n 0) 1 47 := ⟨by decide +kernel, rfl⟩
theorem aX6_store_47 : At kX6_store 47 (.getfield 7) 3 50 := ⟨by decide +kernel, rfl⟩
theorem aX6_store_50 : At kX6_store 50 (.invokevirtual 51) 3 53 := ⟨by decide +kernel, rfl⟩
theorem aX6_store_53 : At kX6_store 53 (.aload_n 0) 1 54 := ⟨by decide +kernel, rfl⟩
theorem aX6_store_54 : At kX6_store 54 (.invokevirtual 171) 3 57 := ⟨by decide +kernel, rfl⟩
theorem aX6_store_57 : At kX6_store 57 (.istore_n 2) 1 58 := ⟨by decide +kernel, rfl⟩
theorem aX6_store_58 : At kX6_store 58 (.iconst 0) 1 59 := ⟨by decide +kernel, rfl⟩
theorem aX6_store_59 : At kX6_store 59 (.istore_n 3) 1 60 := ⟨by decide +kernel, rfl⟩
theorem aX6_store_60 : At kX6_store 60 (.iload_n 3) 1 61 := ⟨by decide +kernel, rfl⟩
theorem aX6_store_61 : At kX6_store 61 (.bipush 12) 2 63 := ⟨by decide +kernel, rfl⟩
theorem aX6_store_63 : At kX6_store 63 (.if_icmp .ge 37) 3 66 := ⟨by decide +kernel, rfl⟩
theorem aX6_store_66 : At kX6_store 66 (.aload_n 0) 1 67 := ⟨by decide +kernel, rfl⟩
theorem aX6_store_67 : At kX6_store 67 (.getfield 7) 3 70 := ⟨by decide +kernel, rfl⟩
theorem aX6_store_70 : At kX6_store 70 (.bipush 80) 2 72 := ⟨by decide +kernel, rfl⟩
theorem aX6_store_72 : At kX6_store 72 (.bipush 12) 2 74 := ⟨by decide +kernel, rfl⟩
theorem aX6_store_74 : At kX6_store 74 (.iload_n 1) 1 75 := ⟨by decide +kernel, rfl⟩
theorem aX6_store_75 : At kX6_store 75 (.imul) 1 76 := ⟨by decide +kernel, rfl⟩
theorem aX6_store_76 : At kX6_store 76 (.iadd) 1 77 := ⟨by decide +kernel, rfl⟩
theorem aX6_store_77 : At kX6_store 77 (.iload_n 3) 1 78 := ⟨by decide +kernel, rfl⟩
theorem aX6_store_78 : At kX6_store 78 (.iadd) 1 79 := ⟨by decide +kernel, rfl⟩
theorem aX6_store_79 : At kX6_store 79 (.aload_n 0) 1 80 := ⟨by decide +kernel, rfl⟩
theorem aX6_store_80 : At kX6_store 80 (.getfield 7) 3 83 := ⟨by decide +kernel, rfl⟩
theorem aX6_store_83 : At kX6_store 83 (.bipush 8) 2 85 := ⟨by decide +kernel, rfl⟩
theorem aX6_store_85 : At kX6_store 85 (.bipush 12) 2 87 := ⟨by decide +kernel, rfl⟩
theorem aX6_store_87 : At kX6_store 87 (.iload_n 1) 1 88 := ⟨by decide +kernel, rfl⟩
theorem aX6_store_88 : At kX6_store 88 (.imul) 1 89 := ⟨by decide +kernel, rfl⟩
theorem aX6_store_89 : At kX6_store 89 (.iadd) 1 90 := ⟨by decide +kernel, rfl⟩
theorem aX6_store_90 : At kX6_store 90 (.iload_n 3) 1 91 := ⟨by decide +kernel, rfl⟩
theorem aX6_store_91 : At kX6_store 91 (.iadd) 1 92 := ⟨by decide +kernel, rfl⟩
theorem aX6_store_92 : At kX6_store 92 (.iaload) 1 93 := ⟨by decide +kernel, rfl⟩
theorem aX6_store_93 : At kX6_store 93 (.iastore) 1 94 := ⟨by decide +kernel, rfl⟩
theorem aX6_store_94 : At kX6_store 94 (.iinc 3 1) 3 97 := ⟨by decide +kernel, rfl⟩
theorem aX6_store_97 : At kX6_store 97 (.goto (-37)) 3 100 := ⟨by decide +kernel, rfl⟩
theorem aX6_store_100 : At kX6_store 100 (.aload_n 0) 1 101 := ⟨by decide +kernel, rfl⟩
theorem aX6_store_101 : At kX6_store 101 (.getfield 7) 3 104 := ⟨by decide +kernel, rfl⟩
theorem aX6_store_104 : At kX6_store 104 (.sipush 152) 3 107 := ⟨by decide +kernel, rfl⟩
theorem aX6_store_107 : At kX6_store 107 (.iload_n 1) 1 108 := ⟨by decide +kernel, rfl⟩
theorem aX6_store_108 : At kX6_store 108 (.iadd) 1 109 := ⟨by decide +kernel, rfl⟩
theorem aX6_store_109 : At kX6_store 109 (.aload_n 0) 1 110 := ⟨by decide +kernel, rfl⟩
theorem aX6_store_110 : At kX6_store 110 (.getfield 7) 3 113 := ⟨by decide +kernel, rfl⟩
theorem aX6_store_113 : At kX6_store 113 (.iconst 4) 1 114 := ⟨by decide +kernel, rfl⟩
theorem aX6_store_114 : At kX6_store 114 (.iaload) 1 115 := ⟨by decide +kernel, rfl⟩
theorem aX6_store_115 : At kX6_store 115 (.iastore) 1 116 := ⟨by decide +kernel, rfl⟩
theorem aX6_store_116 : At kX6_store 116 (.aload_n 0) 1 117 := ⟨by decide +kernel, rfl⟩
theorem aX6_store_117 : At kX6_store 117 (.getfield 7) 3 120 := ⟨by decide +kernel, rfl⟩
theorem aX6_store_120 : At kX6_store 120 (.sipush 158) 3 123 := ⟨by decide +kernel, rfl⟩
theorem aX6_store_123 : At kX6_store 123 (.iload_n 1) 1 124 := ⟨by decide +kernel, rfl⟩
theorem aX6_store_124 : At kX6_store 124 (.iadd) 1 125 := ⟨by decide +kernel, rfl⟩
theorem aX6_store_125 : At kX6_store 125 (.iconst 0) 1 126 := ⟨by decide +kernel, rfl⟩
theorem aX6_store_126 : At kX6_store 126 (.iastore) 1 127 := ⟨by decide +kernel, rfl⟩
theorem aX6_store_127 : At kX6_store 127 (.iload_n 2) 1 128 := ⟨by decide +kernel, rfl⟩
theorem aX6_store_128 : At kX6_store 128 (.aload_n 0) 1 129 := ⟨by decide +kernel, rfl⟩
theorem aX6_store_129 : At kX6_store 129 (.invokevirtual 171) 3 132 := ⟨by decide +kernel, rfl⟩
theorem aX6_store_132 : At kX6_store 132 (.isub) 1 133 := ⟨by decide +kernel, rfl⟩
theorem aX6_store_133 : At kX6_store 133 (.ireturn) 1 134 := ⟨by decide +kernel, rfl⟩
theorem aX6_trim_0 : At kX6_trim 0 (.aload_n 0) 1 1 := ⟨by decide +kernel, rfl⟩
theorem aX6_trim_1 : At kX6_trim 1 (.iconst 0) 1 2 := ⟨by decide +kernel, rfl⟩
theorem aX6_trim_2 : At kX6_trim 2 (.invokevirtual 106) 3 5 := ⟨by decide +kernel, rfl⟩
theorem aX6_trim_5 : At kX6_trim 5 (.istore_n 1) 1 6 := ⟨by decide +kernel, rfl⟩
theorem aX6_trim_6 : At kX6_trim 6 (.iload_n 1) 1 7 := ⟨by decide +kernel, rfl⟩
theorem aX6_trim_7 : At kX6_trim 7 (.ifCond .ne 6) 3 10 := ⟨by decide +kernel, rfl⟩
theorem aX6_trim_10 : At kX6_trim 10 (.bipush (-5)) 2 12 := ⟨by decide +kernel, rfl⟩
theorem aX6_trim_12 : At kX6_trim 12 (.ireturn) 1 13 := ⟨by decide +kernel, rfl⟩
theorem aX6_trim_13 : At kX6_trim 13 (.aload_n 0) 1 14 := ⟨by decide +kernel, rfl⟩
theorem aX6_trim_14 : At kX6_trim 14 (.aload_n 0) 1 15 := ⟨by decide +kernel, rfl⟩
theorem aX6_trim_15 : At kX6_trim 15 (.getfield 7) 3 18 := ⟨by decide +kernel, rfl⟩
theorem aX6_trim_18 : At kX6_trim 18 (.invokevirtual 51) 3 21 := ⟨by decide +kernel, rfl⟩
theorem aX6_trim_21 : At kX6_trim 21 (.aload_n 0) 1 22 := ⟨by decide +kernel, rfl⟩
theorem aX6_trim_22 : At kX6_trim 22 (.iload_n 1) 1 23 := ⟨by decide +kernel, rfl⟩
theorem aX6_trim_23 : At kX6_trim 23 (.invokevirtual 112) 3 26 := ⟨by decide +kernel, rfl⟩
theorem aX6_trim_26 : At kX6_trim 26 (.iload_n 1) 1 27 := ⟨by decide +kernel, rfl⟩
theorem aX6_trim_27 : At kX6_trim 27 (.ireturn) 1 28 := ⟨by decide +kernel, rfl⟩
theorem aX6_damage_0 : At kX6_damage 0 (.aload_n 0) 1 1 := ⟨by decide +kernel, rfl⟩
theorem aX6_damage_1 : At kX6_damage 1 (.iload_n 1) 1 2 := ⟨by decide +kernel, rfl⟩
theorem aX6_damage_2 : At kX6_damage 2 (.invokevirtual 174) 3 5 := ⟨by decide +kernel, rfl⟩
theorem aX6_damage_5 : At kX6_damage 5 (.ifCond .ne 5) 3 8 := ⟨by decide +kernel, rfl⟩
theorem aX6_damage_8 : At kX6_damage 8 (.iconst (-1)) 1 9 := ⟨by decide +kernel, rfl⟩
theorem aX6_damage_9 : At kX6_damage 9 (.ireturn) 1 10 := ⟨by decide +kernel, rfl⟩
theorem aX6_damage_10 : At kX6_damage 10 (.aload_n 0) 1 11 := ⟨by decide +kernel, rfl⟩
theorem aX6_damage_11 : At kX6_damage 11 (.iload_n 1) 1 12 := ⟨by decide +kernel, rfl⟩
theorem aX6_damage_12 : At kX6_damage 12 (.iconst 4) 1 13 := ⟨by decide +kernel, rfl⟩
theorem aX6_damage_13 : At kX6_damage 13 (.invokevirtual 66) 3 16 := ⟨by decide +kernel, rfl⟩
theorem aX6_damage_16 : At kX6_damage 16 (.iconst 1) 1 17 := ⟨by decide +kernel, rfl⟩
theorem aX6_damage_17 : At kX6_damage 17 (.if_icmp .ne 6) 3 20 := ⟨by decide +kernel, rfl⟩
theorem aX6_damage_20 : At kX6_damage 20 (.bipush (-5)) 2 22 := ⟨by decide +kernel, rfl⟩
theorem aX6_damage_22 : At kX6_damage 22 (.ireturn) 1 23 := ⟨by decide +kernel, rfl⟩
theorem aX6_damage_23 : At kX6_damage 23 (.aload_n 0) 1 24 := ⟨by decide +kernel, rfl⟩
theorem aX6_damage_24 : At kX6_damage 24 (.aload_n 0) 1 25 := ⟨by decide +kernel, rfl⟩
theorem aX6_damage_25 : At kX6_damage 25 (.getfield 7) 3 28 := ⟨by decide +kernel, rfl⟩
theorem aX6_damage_28 : At kX6_damage 28 (.invokevirtual 51) 3 31 := ⟨by decide +kernel, rfl⟩
theorem aX6_damage_31 : At kX6_damage 31 (.aload_n 0) 1 32 := ⟨by decide +kernel, rfl⟩
theorem aX6_damage_32 : At kX6_damage 32 (.getfield 7) 3 35 := ⟨by decide +kernel, rfl⟩
theorem aX6_damage_35 : At kX6_damage 35 (.aload_n 0) 1 36 := ⟨by decide +kernel, rfl⟩
theorem aX6_damage_36 : At kX6_damage 36 (.iload_n 1) 1 37 := ⟨by decide +kernel, rfl⟩
theorem aX6_damage_37 : At kX6_damage 37 (.invokevirtual 55) 3 40 := ⟨by decide +kernel, rfl⟩
theorem aX6_damage_40 : At kX6_damage 40 (.iconst 4) 1 41 := ⟨by decide +kernel, rfl⟩
theorem aX6_damage_41 : At kX6_damage 41 (.iadd) 1 42 := ⟨by decide +kernel, rfl⟩
theorem aX6_damage_42 : At kX6_damage 42 (.iconst 1) 1 43 := ⟨by decide +kernel, rfl⟩
theorem aX6_damage_43 : At kX6_damage 43 (.iastore) 1 44 := ⟨by decide +kernel, rfl⟩
theorem aX6_damage_44 : At kX6_damage 44 (.iconst 0) 1 45 := ⟨by decide +kernel, rfl⟩
theorem aX6_damage_45 : At kX6_damage 45 (.istore_n 2) 1 46 := ⟨by decide +kernel, rfl⟩
theorem aX6_damage_46 : At kX6_damage 46 (.iconst 0) 1 47 := ⟨by decide +kernel, rfl⟩
theorem aX6_damage_47 : At kX6_damage 47 (.istore_n 3) 1 48 := ⟨by decide +kernel, rfl⟩
theorem aX6_damage_48 : At kX6_damage 48 (.iload_n 3) 1 49 := ⟨by decide +kernel, rfl⟩
theorem aX6_damage_49 : At kX6_damage 49 (.bipush 6) 2 51 := ⟨by decide +kernel, rfl⟩
theorem aX6_damage_51 : At kX6_damage 51 (.if_icmp .ge 33) 3 54 := ⟨by decide +kernel, rfl⟩
theorem aX6_damage_54 : At kX6_damage 54 (.iload_n 2) 1 55 := ⟨by decide +kernel, rfl⟩
theorem aX6_damage_55 : At kX6_damage 55 (.aload_n 0) 1 56 := ⟨by decide +kernel, rfl⟩
theorem aX6_damage_56 : At kX6_damage 56 (.iload_n 3) 1 57 := ⟨by decide +kernel, rfl⟩
theorem aX6_damage_57 : At kX6_damage 57 (.aload_n 0) 1 58 := ⟨by decide +kernel, rfl⟩
theorem aX6_damage_58 : At kX6_damage 58 (.getfield 7) 3 61 := ⟨by decide +kernel, rfl⟩
theorem aX6_damage_61 : At kX6_damage 61 (.iconst 3) 1 62 := ⟨by decide +kernel, rfl⟩
theorem aX6_damage_62 : At kX6_damage 62 (.iaload) 1 63 := ⟨by decide +kernel, rfl⟩
theorem aX6_damage_63 : At kX6_damage 63 (.invokevirtual 177) 3 66 := ⟨by decide +kernel, rfl⟩
theorem aX6_damage_66 : At kX6_damage 66 (.bipush (-5)) 2 68 := ⟨by decide +kernel, rfl⟩
theorem aX6_damage_68 : At kX6_damage 68 (.if_icmp .ne 7) 3 71 := ⟨by decide +kernel, rfl⟩
theorem aX6_damage_71 : At kX6_damage 71 (.iconst 0) 1 72 := ⟨by decide +kernel, rfl⟩
theorem aX6_damage_72 : At kX6_damage 72 (.goto 4) 3 75 := ⟨by decide +kernel, rfl⟩
theorem aX6_damage_75 : At kX6_damage 75 (.iconst 1) 1 76 := ⟨by decide +kernel, rfl⟩
theorem aX6_damage_76 : At kX6_damage 76 (.iadd) 1 77 := ⟨by decide +kernel, rfl⟩
theorem aX6_damage_77 : At kX6_damage 77 (.istore_n 2) 1 78 := ⟨by decide +kernel, rfl⟩
theorem aX6_damage_78 : At kX6_damage 78 (.iinc 3 1) 3 81 := ⟨by decide +kernel, rfl⟩
theorem aX6_damage_81 : At kX6_damage 81 (.goto (-33)) 3 84 := ⟨by decide +kernel, rfl⟩
theorem aX6_damage_84 : At kX6_damage 84 (.iload_n 2) 1 85 := ⟨by decide +kernel, rfl⟩
theorem aX6_damage_85 : At kX6_damage 85 (.ireturn) 1 86 := ⟨by decide +kernel, rfl⟩
theorem aX6_comesBack_0 : At kX6_comesBack 0 (.aload_n 0) 1 1 := ⟨by decide +kernel, rfl⟩
theorem aX6_comesBack_1 : At kX6_comesBack 1 (.getfield 7) 3 4 := ⟨by decide +kernel, rfl⟩
theorem aX6_comesBack_4 : At kX6_comesBack 4 (.iconst 3) 1 5 := ⟨by decide +kernel, rfl⟩
theorem aX6_comesBack_5 : At kX6_comesBack 5 (.iaload) 1 6 := ⟨by decide +kernel, rfl⟩
theorem aX6_comesBack_6 : At kX6_comesBack 6 (.istore_n 2) 1 7 := ⟨by decide +kernel, rfl⟩
theorem aX6_comesBack_7 : At kX6_comesBack 7 (.aload_n 0) 1 8 := ⟨by decide +kernel, rfl⟩
theorem aX6_comesBack_8 : At kX6_comesBack 8 (.iload_n 1) 1 9 := ⟨by decide +kernel, rfl⟩
theorem aX6_comesBack_9 : At kX6_comesBack 9 (.iload_n 2) 1 10 := ⟨by decide +kernel, rfl⟩
theorem aX6_comesBack_10 : At kX6_comesBack 10 (.invokevirtual 177) 3 13 := ⟨by decide +kernel, rfl⟩
theorem aX6_comesBack_13 : At kX6_comesBack 13 (.istore_n 3) 1 14 := ⟨by decide +kernel, rfl⟩
theorem aX6_comesBack_14 : At kX6_comesBack 14 (.aload_n 0) 1 15 := ⟨by decide +kernel, rfl⟩
theorem aX6_comesBack_15 : At kX6_comesBack 15 (.getfield 7) 3 18 := ⟨by decide +kernel, rfl⟩
theorem aX6_comesBack_18 : At kX6_comesBack 18 (.sipush 158) 3 21 := ⟨by decide +kernel, rfl⟩
theorem aX6_comesBack_21 : At kX6_comesBack 21 (.iload_n 1) 1 22 := ⟨by decide +kernel, rfl⟩
theorem aX6_comesBack_22 : At kX6_comesBack 22 (.iadd) 1 23 := ⟨by decide +kernel, rfl⟩
theorem aX6_comesBack_23 : At kX6_comesBack 23 (.iload_n 3) 1 24 := ⟨by decide +kernel, rfl⟩
theorem aX6_comesBack_24 : At kX6_comesBack 24 (.bipush (-5)) 2 26 := ⟨by decide +kernel, rfl⟩
theorem aX6_comesBack_26 : At kX6_comesBack 26 (.if_icmp .ne 7) 3 29 := ⟨by decide +kernel, rfl⟩
theorem aX6_comesBack_29 : At kX6_comesBack 29 (.iconst 0) 1 30 := ⟨by decide +kernel, rfl⟩
theorem aX6_comesBack_30 : At kX6_comesBack 30 (.goto 4) 3 33 := ⟨by decide +kernel, rfl⟩
theorem aX6_comesBack_33 : At kX6_comesBack 33 (.iconst 1) 1 34 := ⟨by decide +kernel, rfl⟩
theorem aX6_comesBack_34 : At kX6_comesBack 34 (.iastore) 1 35 := ⟨by decide +kernel, rfl⟩
theorem aX6_comesBack_35 : At kX6_comesBack 35 (.iload_n 3) 1 36 := ⟨by decide +kernel, rfl⟩
theorem aX6_comesBack_36 : At kX6_comesBack 36 (.bipush (-5)) 2 38 := ⟨by decide +kernel, rfl⟩
theorem aX6_comesBack_38 : At kX6_comesBack 38 (.if_icmp .eq 15) 3 41 := ⟨by decide +kernel, rfl⟩
theorem aX6_comesBack_41 : At kX6_comesBack 41 (.iload_n 3) 1 42 := ⟨by decide +kernel, rfl⟩
theorem aX6_comesBack_42 : At kX6_comesBack 42 (.istore_n 2) 1 43 := ⟨by decide +kernel, rfl⟩
theorem aX6_comesBack_43 : At kX6_comesBack 43 (.aload_n 0) 1 44 := ⟨by decide +kernel, rfl⟩
theorem aX6_comesBack_44 : At kX6_comesBack 44 (.iload_n 1) 1 45 := ⟨by decide +kernel, rfl⟩
theorem aX6_comesBack_45 : At kX6_comesBack 45 (.iload_n 2) 1 46 := ⟨by decide +kernel, rfl⟩
theorem aX6_comesBack_46 : At kX6_comesBack 46 (.invokevirtual 177) 3 49 := ⟨by decide +kernel, rfl⟩
theorem aX6_comesBack_49 : At kX6_comesBack 49 (.istore_n 3) 1 50 := ⟨by decide +kernel, rfl⟩
theorem aX6_comesBack_50 : At kX6_comesBack 50 (.goto (-15)) 3 53 := ⟨by decide +kernel, rfl⟩
theorem aX6_comesBack_53 : At kX6_comesBack 53 (.aload_n 0) 1 54 := ⟨by decide +kernel, rfl⟩
theorem aX6_comesBack_54 : At kX6_comesBack 54 (.iload_n 1) 1 55 := ⟨by decide +kernel, rfl⟩
theorem aX6_comesBack_55 : At kX6_comesBack 55 (.iload_n 2) 1 56 := ⟨by decide +kernel, rfl⟩
theorem aX6_comesBack_56 : At kX6_comesBack 56 (.invokevirtual 180) 3 59 := ⟨by decide +kernel, rfl⟩
theorem aX6_comesBack_59 : At kX6_comesBack 59 (.iconst 0) 1 60 := ⟨by decide +kernel, rfl⟩
theorem aX6_comesBack_60 : At kX6_comesBack 60 (.istore 4) 2 62 := ⟨by decide +kernel, rfl⟩
theorem aX6_comesBack_62 : At kX6_comesBack 62 (.iload 4) 2 64 := ⟨by decide +kernel, rfl⟩
theorem aX6_comesBack_64 : At kX6_comesBack 64 (.bipush 12) 2 66 := ⟨by decide +kernel, rfl⟩
theorem aX6_comesBack_66 : At kX6_comesBack 66 (.if_icmp .ge 31) 3 69 := ⟨by decide +kernel, rfl⟩
theorem aX6_comesBack_69 : At kX6_comesBack 69 (.aload_n 0) 1 70 := ⟨by decide +kernel, rfl⟩
theorem aX6_comesBack_70 : At kX6_comesBack 70 (.getfield 7) 3 73 := ⟨by decide +kernel, rfl⟩
theorem aX6_comesBack_73 : At kX6_comesBack 73 (.bipush 8) 2 75 := ⟨by decide +kernel, rfl⟩
theorem aX6_comesBack_75 : At kX6_comesBack 75 (.bipush 12) 2 77 := ⟨by decide +kernel, rfl⟩
theorem aX6_comesBack_77 : At kX6_comesBack 77 (.iload_n 1) 1 78 := ⟨by decide +kernel, rfl⟩
theorem aX6_comesBack_78 : At kX6_comesBack 78 (.imul) 1 79 := ⟨by decide +kernel, rfl⟩
theorem aX6_comesBack_79 : At kX6_comesBack 79 (.iadd) 1 80 := ⟨by decide +kernel, rfl⟩
theorem aX6_comesBack_80 : At kX6_comesBack 80 (.iload 4) 2 82 := ⟨by decide +kernel, rfl⟩
theorem aX6_comesBack_82 : At kX6_comesBack 82 (.iadd) 1 83 := ⟨by decide +kernel, rfl⟩
theorem aX6_comesBack_83 : At kX6_comesBack 83 (.aload_n 0) 1 84 := ⟨by decide +kernel, rfl⟩
theorem aX6_comesBack_84 : At kX6_comesBack 84 (.getfield 26) 3 87 := ⟨by decide +kernel, rfl⟩
theorem aX6_comesBack_87 : At kX6_comesBack 87 (.iload 4) 2 89 := ⟨by decide +kernel, rfl⟩
theorem aX6_comesBack_89 : At kX6_comesBack 89 (.iaload) 1 90 := ⟨by decide +kernel, rfl⟩
theorem aX6_comesBack_90 : At kX6_comesBack 90 (.iastore) 1 91 := ⟨by decide +kernel, rfl⟩
theorem aX6_comesBack_91 : At kX6_comesBack 91 (.iinc 4 1) 3 94 := ⟨by decide +kernel, rfl⟩
theorem aX6_comesBack_94 : At kX6_comesBack 94 (.goto (-32)) 3 97 := ⟨by decide +kernel, rfl⟩
theorem aX6_comesBack_97 : At kX6_comesBack 97 (.return_) 1 98 := ⟨by decide +kernel, rfl⟩
theorem aX6_crash_0 : At kX6_crash 0 (.aload_n 0) 1 1 := ⟨by decide +kernel, rfl⟩
theorem aX6_crash_1 : At kX6_crash 1 (.aload_n 0) 1 2 := ⟨by decide +kernel, rfl⟩
theorem aX6_crash_2 : At kX6_crash 2 (.getfield 7) 3 5 := ⟨by decide +kernel, rfl⟩
theorem aX6_crash_5 : At kX6_crash 5 (.invokevirtual 51) 3 8 := ⟨by decide +kernel, rfl⟩
theorem aX6_crash_8 : At kX6_crash 8 (.aload_n 0) 1 9 := ⟨by decide +kernel, rfl⟩
theorem aX6_crash_9 : At kX6_crash 9 (.getfield 7) 3 12 := ⟨by decide +kernel, rfl⟩
theorem aX6_crash_12 : At kX6_crash 12 (.iconst 3) 1 13 := ⟨by decide +kernel, rfl⟩
theorem aX6_crash_13 : At kX6_crash 13 (.iaload) 1 14 := ⟨by decide +kernel, rfl⟩
theorem aX6_crash_14 : At kX6_crash 14 (.aload_n 0) 1 15 := ⟨by decide +kernel, rfl⟩
theorem aX6_crash_15 : At kX6_crash 15 (.getfield 7) 3 18 := ⟨by decide +kernel, rfl⟩
theorem aX6_crash_18 : At kX6_crash 18 (.iconst 4) 1 19 := ⟨by decide +kernel, rfl⟩
theorem aX6_crash_19 : At kX6_crash 19 (.iaload) 1 20 := ⟨by decide +kernel, rfl⟩
theorem aX6_crash_20 : At kX6_crash 20 (.isub) 1 21 := ⟨by decide +kernel, rfl⟩
theorem aX6_crash_21 : At kX6_crash 21 (.istore_n 1) 1 22 := ⟨by decide +kernel, rfl⟩
theorem aX6_crash_22 : At kX6_crash 22 (.aload_n 0) 1 23 := ⟨by decide +kernel, rfl⟩
theorem aX6_crash_23 : At kX6_crash 23 (.getfield 7) 3 26 := ⟨by decide +kernel, rfl⟩
theorem aX6_crash_26 : At kX6_crash 26 (.iconst 3) 1 27 := ⟨by decide +kernel, rfl⟩
theorem aX6_crash_27 : At kX6_crash 27 (.aload_n 0) 1 28 := ⟨by decide +kernel, rfl⟩
theorem aX6_crash_28 : At kX6_crash 28 (.getfield 7) 3 31 := ⟨by decide +kernel, rfl⟩
theorem aX6_crash_31 : At kX6_crash 31 (.iconst 4) 1 32 := ⟨by decide +kernel, rfl⟩
theorem aX6_crash_32 : At kX6_crash 32 (.iaload) 1 33 := ⟨by decide +kernel, rfl⟩
theorem aX6_crash_33 : At kX6_crash 33 (.iastore) 1 34 := ⟨by decide +kernel, rfl⟩
theorem aX6_crash_34 : At kX6_crash 34 (.iconst 0) 1 35 := ⟨by decide +kernel, rfl⟩
theorem aX6_crash_35 : At kX6_crash 35 (.istore_n 2) 1 36 := ⟨by decide +kernel, rfl⟩
theorem aX6_crash_36 : At kX6_crash 36 (.iload_n 2) 1 37 := ⟨by decide +kernel, rfl⟩
theorem aX6_crash_37 : At kX6_crash 37 (.bipush 6) 2 39 := ⟨by decide +kernel, rfl⟩
theorem aX6_crash_39 : At kX6_crash 39 (.if_icmp .ge 14) 3 42 := ⟨by decide +kernel, rfl⟩
theorem aX6_crash_42 : At kX6_crash 42 (.aload_n 0) 1 43 := ⟨by decide +kernel, rfl⟩
theorem aX6_crash_43 : At kX6_crash 43 (.iload_n 2) 1 44 := ⟨by decide +kernel, rfl⟩
theorem aX6_crash_44 : At kX6_crash 44 (.invokevirtual 183) 3 47 := ⟨by decide +kernel, rfl⟩
theorem aX6_crash_47 : At kX6_crash 47 (.iinc 2 1) 3 50 := ⟨by decide +kernel, rfl⟩
theorem aX6_crash_50 : At kX6_crash 50 (.goto (-14)) 3 53 := ⟨by decide +kernel, rfl⟩
theorem aX6_crash_53 : At kX6_crash 53 (.aload_n 0) 1 54 := ⟨by decide +kernel, rfl⟩
theorem aX6_crash_54 : At kX6_crash 54 (.getfield 7) 3 57 := ⟨by decide +kernel, rfl⟩
theorem aX6_crash_57 : At kX6_crash 57 (.bipush 7) 2 59 := ⟨by decide +kernel, rfl⟩
theorem aX6_crash_59 : At kX6_crash 59 (.dup2) 1 60 := ⟨by decide +kernel, rfl⟩
theorem aX6_crash_60 : At kX6_crash 60 (.iaload) 1 61 := ⟨by decide +kernel, rfl⟩
theorem aX6_crash_61 : At kX6_crash 61 (.iconst 1) 1 62 := ⟨by decide +kernel, rfl⟩
theorem aX6_crash_62 : At kX6_crash 62 (.iadd) 1 63 := ⟨by decide +kernel, rfl⟩
theorem aX6_crash_63 : At kX6_crash 63 (.iastore) 1 64 := ⟨by decide +kernel, rfl⟩
theorem aX6_crash_64 : At kX6_crash 64 (.iload_n 1) 1 65 := ⟨by decide +kernel, rfl⟩
theorem aX6_crash_65 : At kX6_crash 65 (.ireturn) 1 66 := ⟨by decide +kernel, rfl⟩
theorem aX6_cell_0 : At kX6_cell 0 (.iload_n 1) 1 1 := ⟨by decide +kernel, rfl⟩
theorem aX6_cell_1 : At kX6_cell 1 (.invokestatic 125) 3 4 := ⟨by decide +kernel, rfl⟩
theorem aX6_cell_4 : At kX6_cell 4 (.ifCond .eq 27) 3 7 := ⟨by decide +kernel, rfl⟩
theorem aX6_cell_7 : At kX6_cell 7 (.iload_n 2) 1 8 := ⟨by decide +kernel, rfl⟩
theorem aX6_cell_8 : At kX6_cell 8 (.invokestatic 128) 3 11 := ⟨by decide +kernel, rfl⟩
theorem aX6_cell_11 : At kX6_cell 11 (.ifCond .eq 20) 3 14 := ⟨by decide +kernel, rfl⟩
theorem aX6_cell_14 : At kX6_cell 14 (.aload_n 0) 1 15 := ⟨by decide +kernel, rfl⟩
theorem aX6_cell_15 : At kX6_cell 15 (.getfield 7) 3 18 := ⟨by decide +kernel, rfl⟩
theorem aX6_cell_18 : At kX6_cell 18 (.bipush 8) 2 20 := ⟨by decide +kernel, rfl⟩
theorem aX6_cell_20 : At kX6_cell 20 (.bipush 12) 2 22 := ⟨by decide +kernel, rfl⟩
theorem aX6_cell_22 : At kX6_cell 22 (.iload_n 1) 1 23 := ⟨by decide +kernel, rfl⟩
theorem aX6_cell_23 : At kX6_cell 23 (.imul) 1 24 := ⟨by decide +kernel, rfl⟩
theorem aX6_cell_24 : At kX6_cell 24 (.iadd) 1 25 := ⟨by decide +kernel, rfl⟩
theorem aX6_cell_25 : At kX6_cell 25 (.iload_n 2) 1 26 := ⟨by decide +kernel, rfl⟩
theorem aX6_cell_26 : At kX6_cell 26 (.iadd) 1 27 := ⟨by decide +kernel, rfl⟩
theorem aX6_cell_27 : At kX6_cell 27 (.iaload) 1 28 := ⟨by decide +kernel, rfl⟩
theorem aX6_cell_28 : At kX6_cell 28 (.goto 4) 3 31 := ⟨by decide +kernel, rfl⟩
theorem aX6_cell_31 : At kX6_cell 31 (.iconst (-1)) 1 32 := ⟨by decide +kernel, rfl⟩
theorem aX6_cell_32 : At kX6_cell 32 (.ireturn) 1 33 := ⟨by decide +kernel, rfl⟩
theorem aX6_stored_0 : At kX6_stored 0 (.iload_n 1) 1 1 := ⟨by decide +kernel, rfl⟩
theorem aX6_stored_1 : At kX6_stored 1 (.invokestatic 125) 3 4 := ⟨by decide +kernel, rfl⟩
theorem aX6_stored_4 : At kX6_stored 4 (.ifCond .eq 27) 3 7 := ⟨by decide +kernel, rfl⟩
theorem aX6_stored_7 : At kX6_stored 7 (.iload_n 2) 1 8 := ⟨by decide +kernel, rfl⟩
theorem aX6_stored_8 : At kX6_stored 8 (.invokestatic 128) 3 11 := ⟨by decide +kernel, rfl⟩
theorem aX6_stored_11 : At kX6_stored 11 (.ifCond .eq 20) 3 14 := ⟨by decide +kernel, rfl⟩
theorem aX6_stored_14 : At kX6_stored 14 (.aload_n 0) 1 15 := ⟨by decide +kernel, rfl⟩
theorem aX6_stored_15 : At kX6_stored 15 (.getfield 7) 3 18 := ⟨by decide +kernel, rfl⟩
theorem aX6_stored_18 : At kX6_stored 18 (.bipush 80) 2 20 := ⟨by decide +kernel, rfl⟩
theorem aX6_stored_20 : At kX6_stored 20 (.bipush 12) 2 22 := ⟨by decide +kernel, rfl⟩
theorem aX6_stored_22 : At kX6_stored 22 (.iload_n 1) 1 23 := ⟨by decide +kernel, rfl⟩
theorem aX6_stored_23 : At kX6_stored 23 (.imul) 1 24 := ⟨by decide +kernel, rfl⟩
theorem aX6_stored_24 : At kX6_stored 24 (.iadd) 1 25 := ⟨by decide +kernel, rfl⟩
theorem aX6_stored_25 : At kX6_stored 25 (.iload_n 2) 1 26 := ⟨by decide +kernel, rfl⟩
theorem aX6_stored_26 : At kX6_stored 26 (.iadd) 1 27 := ⟨by decide +kernel, rfl⟩
theorem aX6_stored_27 : At kX6_stored 27 (.iaload) 1 28 := ⟨by decide +kernel, rfl⟩
theorem aX6_stored_28 : At kX6_stored 28 (.goto 4) 3 31 := ⟨by decide +kernel, rfl⟩
theorem aX6_stored_31 : At kX6_stored 31 (.iconst (-1)) 1 32 := ⟨by decide +kernel, rfl⟩
theorem aX6_stored_32 : At kX6_stored 32 (.ireturn) 1 33 := ⟨by decide +kernel, rfl⟩
theorem aX6_needsMany_0 : At kX6_needsMany 0 (.iconst 0) 1 1 := ⟨by decide +kernel, rfl⟩
theorem aX6_needsMany_1 : At kX6_needsMany 1 (.istore_n 2) 1 2 := ⟨by decide +kernel, rfl⟩
theorem aX6_needsMany_2 : At kX6_needsMany 2 (.aload_n 0) 1 3 := ⟨by decide +kernel, rfl⟩
theorem aX6_needsMany_3 : At kX6_needsMany 3 (.getfield 7) 3 6 := ⟨by decide +kernel, rfl⟩
theorem aX6_needsMany_6 : At kX6_needsMany 6 (.iconst 2) 1 7 := ⟨by decide +kernel, rfl⟩
theorem aX6_needsMany_7 : At kX6_needsMany 7 (.iaload) 1 8 := ⟨by decide +kernel, rfl⟩
theorem aX6_needsMany_8 : At kX6_needsMany 8 (.istore_n 3) 1 9 := ⟨by decide +kernel, rfl⟩
theorem aX6_needsMany_9 : At kX6_needsMany 9 (.iload_n 3) 1 10 := ⟨by decide +kernel, rfl⟩
theorem aX6_needsMany_10 : At kX6_needsMany 10 (.aload_n 0) 1 11 := ⟨by decide +kernel, rfl⟩
theorem aX6_needsMany_11 : At kX6_needsMany 11 (.getfield 7) 3 14 := ⟨by decide +kernel, rfl⟩
theorem aX6_needsMany_14 : At kX6_needsMany 14 (.iconst 3) 1 15 := ⟨by decide +kernel, rfl⟩
theorem aX6_needsMany_15 : At kX6_needsMany 15 (.iaload) 1 16 := ⟨by decide +kernel, rfl⟩
theorem aX6_needsMany_16 : At kX6_needsMany 16 (.if_icmp .ge 32) 3 19 := ⟨by decide +kernel, rfl⟩
theorem aX6_needsMany_19 : At kX6_needsMany 19 (.iload_n 2) 1 20 := ⟨by decide +kernel, rfl⟩
theorem aX6_needsMany_20 : At kX6_needsMany 20 (.aload_n 0) 1 21 := ⟨by decide +kernel, rfl⟩
theorem aX6_needsMany_21 : At kX6_needsMany 21 (.iload_n 1) 1 22 := ⟨by decide +kernel, rfl⟩
theorem aX6_needsMany_22 : At kX6_needsMany 22 (.iload_n 3) 1 23 := ⟨by decide +kernel, rfl⟩
theorem aX6_needsMany_23 : At kX6_needsMany 23 (.aload_n 0) 1 24 := ⟨by decide +kernel, rfl⟩
theorem aX6_needsMany_24 : At kX6_needsMany 24 (.getfield 7) 3 27 := ⟨by decide +kernel, rfl⟩
theorem aX6_needsMany_27 : At kX6_needsMany 27 (.iconst 3) 1 28 := ⟨by decide +kernel, rfl⟩
theorem aX6_needsMany_28 : At kX6_needsMany 28 (.iaload) 1 29 := ⟨by decide +kernel, rfl⟩
theorem aX6_needsMany_29 : At kX6_needsMany 29 (.invokevirtual 73) 3 32 := ⟨by decide +kernel, rfl⟩
theorem aX6_needsMany_32 : At kX6_needsMany 32 (.ifCond .eq 7) 3 35 := ⟨by decide +kernel, rfl⟩
theorem aX6_needsMany_35 : At kX6_needsMany 35 (.iconst 1) 1 36 := ⟨by decide +kernel, rfl⟩
theorem aX6_needsMany_36 : At kX6_needsMany 36 (.goto 4) 3 39 := ⟨by decide +kernel, rfl⟩
theorem aX6_needsMany_39 : At kX6_needsMany 39 (.iconst 0) 1 40 := ⟨by decide +kernel, rfl⟩
theorem aX6_needsMany_40 : At kX6_needsMany 40 (.iadd) 1 41 := ⟨by decide +kernel, rfl⟩
theorem aX6_needsMany_41 : At kX6_needsMany 41 (.istore_n 2) 1 42 := ⟨by decide +kernel, rfl⟩
theorem aX6_needsMany_42 : At kX6_needsMany 42 (.iinc 3 1) 3 45 := ⟨by decide +kernel, rfl⟩
theorem aX6_needsMany_45 : At kX6_needsMany 45 (.goto (-36)) 3 48 := ⟨by decide +kernel, rfl⟩
theorem aX6_needsMany_48 : At kX6_needsMany 48 (.iload_n 2) 1 49 := ⟨by decide +kernel, rfl⟩
theorem aX6_needsMany_49 : At kX6_needsMany 49 (.ireturn) 1 50 := ⟨by decide +kernel, rfl⟩
theorem aX6_firstNeeded_0 : At kX6_firstNeeded 0 (.aload_n 0) 1 1 := ⟨by decide +kernel, rfl⟩
theorem aX6_firstNeeded_1 : At kX6_firstNeeded 1 (.getfield 7) 3 4 := ⟨by decide +kernel, rfl⟩
theorem aX6_firstNeeded_4 : At kX6_firstNeeded 4 (.iconst 2) 1 5 := ⟨by decide +kernel, rfl⟩
theorem aX6_firstNeeded_5 : At kX6_firstNeeded 5 (.iaload) 1 6 := ⟨by decide +kernel, rfl⟩
theorem aX6_firstNeeded_6 : At kX6_firstNeeded 6 (.istore_n 2) 1 7 := ⟨by decide +kernel, rfl⟩
theorem aX6_firstNeeded_7 : At kX6_firstNeeded 7 (.iload_n 2) 1 8 := ⟨by decide +kernel, rfl⟩
theorem aX6_firstNeeded_8 : At kX6_firstNeeded 8 (.aload_n 0) 1 9 := ⟨by decide +kernel, rfl⟩
theorem aX6_firstNeeded_9 : At kX6_firstNeeded 9 (.getfield 7) 3 12 := ⟨by decide +kernel, rfl⟩
theorem aX6_firstNeeded_12 : At kX6_firstNeeded 12 (.iconst 3) 1 13 := ⟨by decide +kernel, rfl⟩
theorem aX6_firstNeeded_13 : At kX6_firstNeeded 13 (.iaload) 1 14 := ⟨by decide +kernel, rfl⟩
theorem aX6_firstNeeded_14 : At kX6_firstNeeded 14 (.if_icmp .ge 26) 3 17 := ⟨by decide +kernel, rfl⟩
theorem aX6_firstNeeded_17 : At kX6_firstNeeded 17 (.aload_n 0) 1 18 := ⟨by decide +kernel, rfl⟩
theorem aX6_firstNeeded_18 : At kX6_firstNeeded 18 (.iload_n 1) 1 19 := ⟨by decide +kernel, rfl⟩
theorem aX6_firstNeeded_19 : At kX6_firstNeeded 19 (.iload_n 2) 1 20 := ⟨by decide +kernel, rfl⟩
theorem aX6_firstNeeded_20 : At kX6_firstNeeded 20 (.aload_n 0) 1 21 := ⟨by decide +kernel, rfl⟩
theorem aX6_firstNeeded_21 : At kX6_firstNeeded 21 (.getfield 7) 3 24 := ⟨by decide +kernel, rfl⟩
theorem aX6_firstNeeded_24 : At kX6_firstNeeded 24 (.iconst 3) 1 25 := ⟨by decide +kernel, rfl⟩
theorem aX6_firstNeeded_25 : At kX6_firstNeeded 25 (.iaload) 1 26 := ⟨by decide +kernel, rfl⟩
theorem aX6_firstNeeded_26 : At kX6_firstNeeded 26 (.invokevirtual 73) 3 29 := ⟨by decide +kernel, rfl⟩
theorem aX6_firstNeeded_29 : At kX6_firstNeeded 29 (.ifCond .eq 5) 3 32 := ⟨by decide +kernel, rfl⟩
theorem aX6_firstNeeded_32 : At kX6_firstNeeded 32 (.iload_n 2) 1 33 := ⟨by decide +kernel, rfl⟩
theorem aX6_firstNeeded_33 : At kX6_firstNeeded 33 (.ireturn) 1 34 := ⟨by decide +kernel, rfl⟩
theorem aX6_firstNeeded_34 : At kX6_firstNeeded 34 (.iinc 2 1) 3 37 := ⟨by decide +kernel, rfl⟩
theorem aX6_firstNeeded_37 : At kX6_firstNeeded 37 (.goto (-30)) 3 40 := ⟨by decide +kernel, rfl⟩
theorem aX6_firstNeeded_40 : At kX6_firstNeeded 40 (.bipush (-5)) 2 42 := ⟨by decide +kernel, rfl⟩
theorem aX6_firstNeeded_42 : At kX6_firstNeeded 42 (.ireturn) 1 43 := ⟨by decide +kernel, rfl⟩
theorem aX6_page_0 : At kX6_page 0 (.iload_n 1) 1 1 := ⟨by decide +kernel, rfl⟩
theorem aX6_page_1 : At kX6_page 1 (.invokestatic 125) 3 4 := ⟨by decide +kernel, rfl⟩
theorem aX6_page_4 : At kX6_page 4 (.ifCond .ne 5) 3 7 := ⟨by decide +kernel, rfl⟩
theorem aX6_page_7 : At kX6_page 7 (.iconst (-1)) 1 8 := ⟨by decide +kernel, rfl⟩
theorem aX6_page_8 : At kX6_page 8 (.ireturn) 1 9 := ⟨by decide +kernel, rfl⟩
theorem aX6_page_9 : At kX6_page 9 (.iload_n 2) 1 10 := ⟨by decide +kernel, rfl⟩
theorem aX6_page_10 : At kX6_page 10 (.tableswitch 119 0 6 #[42, 48, 54, 60, 71, 82, 104]) 42 52 := ⟨by decide +kernel, rfl⟩
theorem aX6_page_52 : At kX6_page 52 (.aload_n 0) 1 53 := ⟨by decide +kernel, rfl⟩
theorem aX6_page_53 : At kX6_page 53 (.iload_n 1) 1 54 := ⟨by decide +kernel, rfl⟩
theorem aX6_page_54 : At kX6_page 54 (.invokevirtual 95) 3 57 := ⟨by decide +kernel, rfl⟩
theorem aX6_page_57 : At kX6_page 57 (.ireturn) 1 58 := ⟨by decide +kernel, rfl⟩
theorem aX6_page_58 : At kX6_page 58 (.aload_n 0) 1 59 := ⟨by decide +kernel, rfl⟩
theorem aX6_page_59 : At kX6_page 59 (.iload_n 1) 1 60 := ⟨by decide +kernel, rfl⟩
theorem aX6_page_60 : At kX6_page 60 (.invokevirtual 186) 3 63 := ⟨by decide +kernel, rfl⟩
theorem aX6_page_63 : At kX6_page 63 (.ireturn) 1 64 := ⟨by decide +kernel, rfl⟩
theorem aX6_page_64 : At kX6_page 64 (.aload_n 0) 1 65 := ⟨by decide +kernel, rfl⟩
theorem aX6_page_65 : At kX6_page 65 (.iload_n 1) 1 66 := ⟨by decide +kernel, rfl⟩
theorem aX6_page_66 : At kX6_page 66 (.invokevirtual 189) 3 69 := ⟨by decide +kernel, rfl⟩
theorem aX6_page_69 : At kX6_page 69 (.ireturn) 1 70 := ⟨by decide +kernel, rfl⟩
theorem aX6_page_70 : At kX6_page 70 (.aload_n 0) 1 71 := ⟨by decide +kernel, rfl⟩
theorem aX6_page_71 : At kX6_page 71 (.getfield 7) 3 74 := ⟨by decide +kernel, rfl⟩
theorem aX6_page_74 : At kX6_page 74 (.sipush 152) 3 77 := ⟨by decide +kernel, rfl⟩
theorem aX6_page_77 : At kX6_page 77 (.iload_n 1) 1 78 := ⟨by decide +kernel, rfl⟩
theorem aX6_page_78 : At kX6_page 78 (.iadd) 1 79 := ⟨by decide +kernel, rfl⟩
theorem aX6_page_79 : At kX6_page 79 (.iaload) 1 80 := ⟨by decide +kernel, rfl⟩
theorem aX6_page_80 : At kX6_page 80 (.ireturn) 1 81 := ⟨by decide +kernel, rfl⟩
theorem aX6_page_81 : At kX6_page 81 (.aload_n 0) 1 82 := ⟨by decide +kernel, rfl⟩
theorem aX6_page_82 : At kX6_page 82 (.getfield 7) 3 85 := ⟨by decide +kernel, rfl⟩
theorem aX6_page_85 : At kX6_page 85 (.sipush 158) 3 88 := ⟨by decide +kernel, rfl⟩
theorem aX6_page_88 : At kX6_page 88 (.iload_n 1) 1 89 := ⟨by decide +kernel, rfl⟩
theorem aX6_page_89 : At kX6_page 89 (.iadd) 1 90 := ⟨by decide +kernel, rfl⟩
theorem aX6_page_90 : At kX6_page 90 (.iaload) 1 91 := ⟨by decide +kernel, rfl⟩
theorem aX6_page_91 : At kX6_page 91 (.ireturn) 1 92 := ⟨by decide +kernel, rfl⟩
theorem aX6_page_92 : At kX6_page 92 (.aload_n 0) 1 93 := ⟨by decide +kernel, rfl⟩
theorem aX6_page_93 : At kX6_page 93 (.iload_n 1) 1 94 := ⟨by decide +kernel, rfl⟩
theorem aX6_page_94 : At kX6_page 94 (.aload_n 0) 1 95 := ⟨by decide +kernel, rfl⟩
theorem aX6_page_95 : At kX6_page 95 (.getfield 7) 3 98 := ⟨by decide +kernel, rfl⟩
theorem aX6_page_98 : At kX6_page 98 (.iconst 3) 1 99 := ⟨by decide +kernel, rfl⟩
theorem aX6_page_99 : At kX6_page 99 (.iaload) 1 100 := ⟨by decide +kernel, rfl⟩
theorem aX6_page_100 : At kX6_page 100 (.invokevirtual 177) 3 103 := ⟨by decide +kernel, rfl⟩
theorem aX6_page_103 : At kX6_page 103 (.bipush (-5)) 2 105 := ⟨by decide +kernel, rfl⟩
theorem aX6_page_105 : At kX6_page 105 (.if_icmp .ne 7) 3 108 := ⟨by decide +kernel, rfl⟩
theorem aX6_page_108 : At kX6_page 108 (.iconst 0) 1 109 := ⟨by decide +kernel, rfl⟩
theorem aX6_page_109 : At kX6_page 109 (.goto 4) 3 112 := ⟨by decide +kernel, rfl⟩
theorem aX6_page_112 : At kX6_page 112 (.iconst 1) 1 113 := ⟨by decide +kernel, rfl⟩
theorem aX6_page_113 : At kX6_page 113 (.ireturn) 1 114 := ⟨by decide +kernel, rfl⟩
theorem aX6_page_114 : At kX6_page 114 (.aload_n 0) 1 115 := ⟨by decide +kernel, rfl⟩
theorem aX6_page_115 : At kX6_page 115 (.getfield 7) 3 118 := ⟨by decide +kernel, rfl⟩
theorem aX6_page_118 : At kX6_page 118 (.bipush 8) 2 120 := ⟨by decide +kernel, rfl⟩
theorem aX6_page_120 : At kX6_page 120 (.bipush 12) 2 122 := ⟨by decide +kernel, rfl⟩
theorem aX6_page_122 : At kX6_page 122 (.iload_n 1) 1 123 := ⟨by decide +kernel, rfl⟩
theorem aX6_page_123 : At kX6_page 123 (.imul) 1 124 := ⟨by decide +kernel, rfl⟩
theorem aX6_page_124 : At kX6_page 124 (.iadd) 1 125 := ⟨by decide +kernel, rfl⟩
theorem aX6_page_125 : At kX6_page 125 (.invokestatic 59) 3 128 := ⟨by decide +kernel, rfl⟩
theorem aX6_page_128 : At kX6_page 128 (.ireturn) 1 129 := ⟨by decide +kernel, rfl⟩
theorem aX6_page_129 : At kX6_page 129 (.bipush (-2)) 2 131 := ⟨by decide +kernel, rfl⟩
theorem aX6_page_131 : At kX6_page 131 (.ireturn) 1 132 := ⟨by decide +kernel, rfl⟩
theorem aX6_entry_0 : At kX6_entry 0 (.aload_n 0) 1 1 := ⟨by decide +kernel, rfl⟩
theorem aX6_entry_1 : At kX6_entry 1 (.iload_n 1) 1 2 := ⟨by decide +kernel, rfl⟩
theorem aX6_entry_2 : At kX6_entry 2 (.invokevirtual 174) 3 5 := ⟨by decide +kernel, rfl⟩
theorem aX6_entry_5 : At kX6_entry 5 (.ifCond .ne 5) 3 8 := ⟨by decide +kernel, rfl⟩
theorem aX6_entry_8 : At kX6_entry 8 (.iconst (-1)) 1 9 := ⟨by decide +kernel, rfl⟩
theorem aX6_entry_9 : At kX6_entry 9 (.ireturn) 1 10 := ⟨by decide +kernel, rfl⟩
theorem aX6_entry_10 : At kX6_entry 10 (.iload_n 2) 1 11 := ⟨by decide +kernel, rfl⟩
theorem aX6_entry_11 : At kX6_entry 11 (.tableswitch 118 0 6 #[41, 48, 55, 68, 81, 95, 111]) 41 52 := ⟨by decide +kernel, rfl⟩
theorem aX6_entry_52 : At kX6_entry 52 (.aload_n 0) 1 53 := ⟨by decide +kernel, rfl⟩
theorem aX6_entry_53 : At kX6_entry 53 (.iload_n 1) 1 54 := ⟨by decide +kernel, rfl⟩
theorem aX6_entry_54 : At kX6_entry 54 (.iconst 0) 1 55 := ⟨by decide +kernel, rfl⟩
theorem aX6_entry_55 : At kX6_entry 55 (.invokevirtual 66) 3 58 := ⟨by decide +kernel, rfl⟩
theorem aX6_entry_58 : At kX6_entry 58 (.ireturn) 1 59 := ⟨by decide +kernel, rfl⟩
theorem aX6_entry_59 : At kX6_entry 59 (.aload_n 0) 1 60 := ⟨by decide +kernel, rfl⟩
theorem aX6_entry_60 : At kX6_entry 60 (.iload_n 1) 1 61 := ⟨by decide +kernel, rfl⟩
theorem aX6_entry_61 : At kX6_entry 61 (.iconst 1) 1 62 := ⟨by decide +kernel, rfl⟩
theorem aX6_entry_62 : At kX6_entry 62 (.invokevirtual 66) 3 65 := ⟨by decide +kernel, rfl⟩
theorem aX6_entry_65 : At kX6_entry 65 (.ireturn) 1 66 := ⟨by decide +kernel, rfl⟩
theorem aX6_entry_66 : At kX6_entry 66 (.aload_n 0) 1 67 := ⟨by decide +kernel, rfl⟩
theorem aX6_entry_67 : At kX6_entry 67 (.getfield 7) 3 70 := ⟨by decide +kernel, rfl⟩
theorem aX6_entry_70 : At kX6_entry 70 (.aload_n 0) 1 71 := ⟨by decide +kernel, rfl⟩
theorem aX6_entry_71 : At kX6_entry 71 (.iload_n 1) 1 72 := ⟨by decide +kernel, rfl⟩
theorem aX6_entry_72 : At kX6_entry 72 (.invokevirtual 55) 3 75 := ⟨by decide +kernel, rfl⟩
theorem aX6_entry_75 : At kX6_entry 75 (.invokestatic 63) 3 78 := ⟨by decide +kernel, rfl⟩
theorem aX6_entry_78 : At kX6_entry 78 (.ireturn) 1 79 := ⟨by decide +kernel, rfl⟩
theorem aX6_entry_79 : At kX6_entry 79 (.aload_n 0) 1 80 := ⟨by decide +kernel, rfl⟩
theorem aX6_entry_80 : At kX6_entry 80 (.getfield 7) 3 83 := ⟨by decide +kernel, rfl⟩
theorem aX6_entry_83 : At kX6_entry 83 (.aload_n 0) 1 84 := ⟨by decide +kernel, rfl⟩
theorem aX6_entry_84 : At kX6_entry 84 (.iload_n 1) 1 85 := ⟨by decide +kernel, rfl⟩
theorem aX6_entry_85 : At kX6_entry 85 (.invokevirtual 55) 3 88 := ⟨by decide +kernel, rfl⟩
theorem aX6_entry_88 : At kX6_entry 88 (.invokestatic 80) 3 91 := ⟨by decide +kernel, rfl⟩
theorem aX6_entry_91 : At kX6_entry 91 (.ireturn) 1 92 := ⟨by decide +kernel, rfl⟩
theorem aX6_entry_92 : At kX6_entry 92 (.aload_n 0) 1 93 := ⟨by decide +kernel, rfl⟩
theorem aX6_entry_93 : At kX6_entry 93 (.iload_n 1) 1 94 := ⟨by decide +kernel, rfl⟩
theorem aX6_entry_94 : At kX6_entry 94 (.invokevirtual 76) 3 97 := ⟨by decide +kernel, rfl⟩
theorem aX6_entry_97 : At kX6_entry 97 (.ifCond .eq 7) 3 100 := ⟨by decide +kernel, rfl⟩
theorem aX6_entry_100 : At kX6_entry 100 (.iconst 1) 1 101 := ⟨by decide +kernel, rfl⟩
theorem aX6_entry_101 : At kX6_entry 101 (.goto 4) 3 104 := ⟨by decide +kernel, rfl⟩
theorem aX6_entry_104 : At kX6_entry 104 (.iconst 0) 1 105 := ⟨by decide +kernel, rfl⟩
theorem aX6_entry_105 : At kX6_entry 105 (.ireturn) 1 106 := ⟨by decide +kernel, rfl⟩
theorem aX6_entry_106 : At kX6_entry 106 (.iload_n 1) 1 107 := ⟨by decide +kernel, rfl⟩
theorem aX6_entry_107 : At kX6_entry 107 (.aload_n 0) 1 108 := ⟨by decide +kernel, rfl⟩
theorem aX6_entry_108 : At kX6_entry 108 (.getfield 7) 3 111 := ⟨by decide +kernel, rfl⟩
theorem aX6_entry_111 : At kX6_entry 111 (.iconst 4) 1 112 := ⟨by decide +kernel, rfl⟩
theorem aX6_entry_112 : At kX6_entry 112 (.iaload) 1 113 := ⟨by decide +kernel, rfl⟩
theorem aX6_entry_113 : At kX6_entry 113 (.if_icmp .ge 7) 3 116 := ⟨by decide +kernel, rfl⟩
theorem aX6_entry_116 : At kX6_entry 116 (.iconst 1) 1 117 := ⟨by decide +kernel, rfl⟩
theorem aX6_entry_117 : At kX6_entry 117 (.goto 4) 3 120 := ⟨by decide +kernel, rfl⟩
theorem aX6_entry_120 : At kX6_entry 120 (.iconst 0) 1 121 := ⟨by decide +kernel, rfl⟩
theorem aX6_entry_121 : At kX6_entry 121 (.ireturn) 1 122 := ⟨by decide +kernel, rfl⟩
theorem aX6_entry_122 : At kX6_entry 122 (.aload_n 0) 1 123 := ⟨by decide +kernel, rfl⟩
theorem aX6_entry_123 : At kX6_entry 123 (.iload_n 1) 1 124 := ⟨by decide +kernel, rfl⟩
theorem aX6_entry_124 : At kX6_entry 124 (.iconst 4) 1 125 := ⟨by decide +kernel, rfl⟩
theorem aX6_entry_125 : At kX6_entry 125 (.invokevirtual 66) 3 128 := ⟨by decide +kernel, rfl⟩
theorem aX6_entry_128 : At kX6_entry 128 (.ireturn) 1 129 := ⟨by decide +kernel, rfl⟩
theorem aX6_entry_129 : At kX6_entry 129 (.bipush (-2)) 2 131 := ⟨by decide +kernel, rfl⟩
theorem aX6_entry_131 : At kX6_entry 131 (.ireturn) 1 132 := ⟨by decide +kernel, rfl⟩
theorem aX6_asOf_0 : At kX6_asOf 0 (.iload_n 1) 1 1 := ⟨by decide +kernel, rfl⟩
theorem aX6_asOf_1 : At kX6_asOf 1 (.invokestatic 125) 3 4 := ⟨by decide +kernel, rfl⟩
theorem aX6_asOf_4 : At kX6_asOf 4 (.ifCond .eq 18) 3 7 := ⟨by decide +kernel, rfl⟩
theorem aX6_asOf_7 : At kX6_asOf 7 (.aload_n 0) 1 8 := ⟨by decide +kernel, rfl⟩
theorem aX6_asOf_8 : At kX6_asOf 8 (.iload_n 2) 1 9 := ⟨by decide +kernel, rfl⟩
theorem aX6_asOf_9 : At kX6_asOf 9 (.invokevirtual 174) 3 12 := ⟨by decide +kernel, rfl⟩
theorem aX6_asOf_12 : At kX6_asOf 12 (.ifCond .eq 10) 3 15 := ⟨by decide +kernel, rfl⟩
theorem aX6_asOf_15 : At kX6_asOf 15 (.iload_n 3) 1 16 := ⟨by decide +kernel, rfl⟩
theorem aX6_asOf_16 : At kX6_asOf 16 (.invokestatic 128) 3 19 := ⟨by decide +kernel, rfl⟩
theorem aX6_asOf_19 : At kX6_asOf 19 (.ifCond .ne 5) 3 22 := ⟨by decide +kernel, rfl⟩
theorem aX6_asOf_22 : At kX6_asOf 22 (.iconst (-1)) 1 23 := ⟨by decide +kernel, rfl⟩
theorem aX6_asOf_23 : At kX6_asOf 23 (.ireturn) 1 24 := ⟨by decide +kernel, rfl⟩
theorem aX6_asOf_24 : At kX6_asOf 24 (.bipush (-5)) 2 26 := ⟨by decide +kernel, rfl⟩
theorem aX6_asOf_26 : At kX6_asOf 26 (.istore 4) 2 28 := ⟨by decide +kernel, rfl⟩
theorem aX6_asOf_28 : At kX6_asOf 28 (.aload_n 0) 1 29 := ⟨by decide +kernel, rfl⟩
theorem aX6_asOf_29 : At kX6_asOf 29 (.getfield 7) 3 32 := ⟨by decide +kernel, rfl⟩
theorem aX6_asOf_32 : At kX6_asOf 32 (.iconst 2) 1 33 := ⟨by decide +kernel, rfl⟩
theorem aX6_asOf_33 : At kX6_asOf 33 (.iaload) 1 34 := ⟨by decide +kernel, rfl⟩
theorem aX6_asOf_34 : At kX6_asOf 34 (.istore 5) 2 36 := ⟨by decide +kernel, rfl⟩
theorem aX6_asOf_36 : At kX6_asOf 36 (.iload 5) 2 38 := ⟨by decide +kernel, rfl⟩
theorem aX6_asOf_38 : At kX6_asOf 38 (.iload_n 2) 1 39 := ⟨by decide +kernel, rfl⟩
theorem aX6_asOf_39 : At kX6_asOf 39 (.if_icmp .gt 39) 3 42 := ⟨by decide +kernel, rfl⟩
theorem aX6_asOf_42 : At kX6_asOf 42 (.aload_n 0) 1 43 := ⟨by decide +kernel, rfl⟩
theorem aX6_asOf_43 : At kX6_asOf 43 (.iload 5) 2 45 := ⟨by decide +kernel, rfl⟩
theorem aX6_asOf_45 : At kX6_asOf 45 (.iconst 0) 1 46 := ⟨by decide +kernel, rfl⟩
theorem aX6_asOf_46 : At kX6_asOf 46 (.invokevirtual 66) 3 49 := ⟨by decide +kernel, rfl⟩
theorem aX6_asOf_49 : At kX6_asOf 49 (.iload_n 1) 1 50 := ⟨by decide +kernel, rfl⟩
theorem aX6_asOf_50 : At kX6_asOf 50 (.if_icmp .ne 18) 3 53 := ⟨by decide +kernel, rfl⟩
theorem aX6_asOf_53 : At kX6_asOf 53 (.aload_n 0) 1 54 := ⟨by decide +kernel, rfl⟩
theorem aX6_asOf_54 : At kX6_asOf 54 (.iload 5) 2 56 := ⟨by decide +kernel, rfl⟩
theorem aX6_asOf_56 : At kX6_asOf 56 (.iconst 1) 1 57 := ⟨by decide +kernel, rfl⟩
theorem aX6_asOf_57 : At kX6_asOf 57 (.invokevirtual 66) 3 60 := ⟨by decide +kernel, rfl⟩
theorem aX6_asOf_60 : At kX6_asOf 60 (.ifCond .ne 8) 3 63 := ⟨by decide +kernel, rfl⟩
theorem aX6_asOf_63 : At kX6_asOf 63 (.iload 5) 2 65 := ⟨by decide +kernel, rfl⟩
theorem aX6_asOf_65 : At kX6_asOf 65 (.goto 5) 3 68 := ⟨by decide +kernel, rfl⟩
theorem aX6_asOf_68 : At kX6_asOf 68 (.iload 4) 2 70 := ⟨by decide +kernel, rfl⟩
theorem aX6_asOf_70 : At kX6_asOf 70 (.istore 4) 2 72 := ⟨by decide +kernel, rfl⟩
theorem aX6_asOf_72 : At kX6_asOf 72 (.iinc 5 1) 3 75 := ⟨by decide +kernel, rfl⟩
theorem aX6_asOf_75 : At kX6_asOf 75 (.goto (-39)) 3 78 := ⟨by decide +kernel, rfl⟩
theorem aX6_asOf_78 : At kX6_asOf 78 (.aload_n 0) 1 79 := ⟨by decide +kernel, rfl⟩
theorem aX6_asOf_79 : At kX6_asOf 79 (.getfield 7) 3 82 := ⟨by decide +kernel, rfl⟩
theorem aX6_asOf_82 : At kX6_asOf 82 (.sipush 152) 3 85 := ⟨by decide +kernel, rfl⟩
theorem aX6_asOf_85 : At kX6_asOf 85 (.iload_n 1) 1 86 := ⟨by decide +kernel, rfl⟩
theorem aX6_asOf_86 : At kX6_asOf 86 (.iadd) 1 87 := ⟨by decide +kernel, rfl⟩
theorem aX6_asOf_87 : At kX6_asOf 87 (.iaload) 1 88 := ⟨by decide +kernel, rfl⟩
theorem aX6_asOf_88 : At kX6_asOf 88 (.istore 5) 2 90 := ⟨by decide +kernel, rfl⟩
theorem aX6_asOf_90 : At kX6_asOf 90 (.iload 4) 2 92 := ⟨by decide +kernel, rfl⟩
theorem aX6_asOf_92 : At kX6_asOf 92 (.bipush (-5)) 2 94 := ⟨by decide +kernel, rfl⟩
theorem aX6_asOf_94 : At kX6_asOf 94 (.if_icmp .ne 29) 3 97 := ⟨by decide +kernel, rfl⟩
theorem aX6_asOf_97 : At kX6_asOf 97 (.iload 5) 2 99 := ⟨by decide +kernel, rfl⟩
theorem aX6_asOf_99 : At kX6_asOf 99 (.iload_n 2) 1 100 := ⟨by decide +kernel, rfl⟩
theorem aX6_asOf_100 : At kX6_asOf 100 (.iconst 1) 1 101 := ⟨by decide +kernel, rfl⟩
theorem aX6_asOf_101 : At kX6_asOf 101 (.iadd) 1 102 := ⟨by decide +kernel, rfl⟩
theorem aX6_asOf_102 : At kX6_asOf 102 (.if_icmp .gt 18) 3 105 := ⟨by decide +kernel, rfl⟩
theorem aX6_asOf_105 : At kX6_asOf 105 (.aload_n 0) 1 106 := ⟨by decide +kernel, rfl⟩
theorem aX6_asOf_106 : At kX6_asOf 106 (.getfield 7) 3 109 := ⟨by decide +kernel, rfl⟩
theorem aX6_asOf_109 : At kX6_asOf 109 (.sipush 164) 3 112 := ⟨by decide +kernel, rfl⟩
theorem aX6_asOf_112 : At kX6_asOf 112 (.iload_n 1) 1 113 := ⟨by decide +kernel, rfl⟩
theorem aX6_asOf_113 : At kX6_asOf 113 (.iadd) 1 114 := ⟨by decide +kernel, rfl⟩
theorem aX6_asOf_114 : At kX6_asOf 114 (.iaload) 1 115 := ⟨by decide +kernel, rfl⟩
theorem aX6_asOf_115 : At kX6_asOf 115 (.iload 5) 2 117 := ⟨by decide +kernel, rfl⟩
theorem aX6_asOf_117 : At kX6_asOf 117 (.if_icmp .lt 6) 3 120 := ⟨by decide +kernel, rfl⟩
theorem aX6_asOf_120 : At kX6_asOf 120 (.bipush (-4)) 2 122 := ⟨by decide +kernel, rfl⟩
theorem aX6_asOf_122 : At kX6_asOf 122 (.ireturn) 1 123 := ⟨by decide +kernel, rfl⟩
theorem aX6_asOf_123 : At kX6_asOf 123 (.aload_n 0) 1 124 := ⟨by decide +kernel, rfl⟩
theorem aX6_asOf_124 : At kX6_asOf 124 (.bipush 80) 2 126 := ⟨by decide +kernel, rfl⟩
theorem aX6_asOf_126 : At kX6_asOf 126 (.iload_n 1) 1 127 := ⟨by decide +kernel, rfl⟩
theorem aX6_asOf_127 : At kX6_asOf 127 (.invokevirtual 83) 3 130 := ⟨by decide +kernel, rfl⟩
theorem aX6_asOf_130 : At kX6_asOf 130 (.iload 4) 2 132 := ⟨by decide +kernel, rfl⟩
theorem aX6_asOf_132 : At kX6_asOf 132 (.bipush (-5)) 2 134 := ⟨by decide +kernel, rfl⟩
theorem aX6_asOf_134 : At kX6_asOf 134 (.if_icmp .eq 8) 3 137 := ⟨by decide +kernel, rfl⟩
theorem aX6_asOf_137 : At kX6_asOf 137 (.iload 4) 2 139 := ⟨by decide +kernel, rfl⟩
theorem aX6_asOf_139 : At kX6_asOf 139 (.goto 25) 3 142 := ⟨by decide +kernel, rfl⟩
theorem aX6_asOf_142 : At kX6_asOf 142 (.iload 5) 2 144 := ⟨by decide +kernel, rfl⟩
theorem aX6_asOf_144 : At kX6_asOf 144 (.aload_n 0) 1 145 := ⟨by decide +kernel, rfl⟩
theorem aX6_asOf_145 : At kX6_asOf 145 (.getfield 7) 3 148 := ⟨by decide +kernel, rfl⟩
theorem aX6_asOf_148 : At kX6_asOf 148 (.iconst 2) 1 149 := ⟨by decide +kernel, rfl⟩
theorem aX6_asOf_149 : At kX6_asOf 149 (.iaload) 1 150 := ⟨by decide +kernel, rfl⟩
theorem aX6_asOf_150 : At kX6_asOf 150 (.if_icmp .le 8) 3 153 := ⟨by decide +kernel, rfl⟩
theorem aX6_asOf_153 : At kX6_asOf 153 (.iload 5) 2 155 := ⟨by decide +kernel, rfl⟩
theorem aX6_asOf_155 : At kX6_asOf 155 (.goto 9) 3 158 := ⟨by decide +kernel, rfl⟩
theorem aX6_asOf_158 : At kX6_asOf 158 (.aload_n 0) 1 159 := ⟨by decide +kernel, rfl⟩
theorem aX6_asOf_159 : At kX6_asOf 159 (.getfield 7) 3 162 := ⟨by decide +kernel, rfl⟩
theorem aX6_asOf_162 : At kX6_asOf 162 (.iconst 2) 1 163 := ⟨by decide +kernel, rfl⟩
theorem aX6_asOf_163 : At kX6_asOf 163 (.iaload) 1 164 := ⟨by decide +kernel, rfl⟩
theorem aX6_asOf_164 : At kX6_asOf 164 (.istore 6) 2 166 := ⟨by decide +kernel, rfl⟩
theorem aX6_asOf_166 : At kX6_asOf 166 (.iload 6) 2 168 := ⟨by decide +kernel, rfl⟩
theorem aX6_asOf_168 : At kX6_asOf 168 (.istore 7) 2 170 := ⟨by decide +kernel, rfl⟩
theorem aX6_asOf_170 : At kX6_asOf 170 (.iload 7) 2 172 := ⟨by decide +kernel, rfl⟩
theorem aX6_asOf_172 : At kX6_asOf 172 (.iload_n 2) 1 173 := ⟨by decide +kernel, rfl⟩
theorem aX6_asOf_173 : At kX6_asOf 173 (.if_icmp .gt 48) 3 176 := ⟨by decide +kernel, rfl⟩
theorem aX6_asOf_176 : At kX6_asOf 176 (.aload_n 0) 1 177 := ⟨by decide +kernel, rfl⟩
theorem aX6_asOf_177 : At kX6_asOf 177 (.iload 7) 2 179 := ⟨by decide +kernel, rfl⟩
theorem aX6_asOf_179 : At kX6_asOf 179 (.iconst 0) 1 180 := ⟨by decide +kernel, rfl⟩
theorem aX6_asOf_180 : At kX6_asOf 180 (.invokevirtual 66) 3 183 := ⟨by decide +kernel, rfl⟩
theorem aX6_asOf_183 : At kX6_asOf 183 (.iload_n 1) 1 184 := ⟨by decide +kernel, rfl⟩
theorem aX6_asOf_184 : At kX6_asOf 184 (.if_icmp .ne 31) 3 187 := ⟨by decide +kernel, rfl⟩
theorem aX6_asOf_187 : At kX6_asOf 187 (.aload_n 0) 1 188 := ⟨by decide +kernel, rfl⟩
theorem aX6_asOf_188 : At kX6_asOf 188 (.iload 7) 2 190 := ⟨by decide +kernel, rfl⟩
theorem aX6_asOf_190 : At kX6_asOf 190 (.iconst 4) 1 191 := ⟨by decide +kernel, rfl⟩
theorem aX6_asOf_191 : At kX6_asOf 191 (.invokevirtual 66) 3 194 := ⟨by decide +kernel, rfl⟩
theorem aX6_asOf_194 : At kX6_asOf 194 (.iconst 1) 1 195 := ⟨by decide +kernel, rfl⟩
theorem aX6_asOf_195 : At kX6_asOf 195 (.if_icmp .ne 6) 3 198 := ⟨by decide +kernel, rfl⟩
theorem aX6_asOf_198 : At kX6_asOf 198 (.bipush (-4)) 2 200 := ⟨by decide +kernel, rfl⟩
theorem aX6_asOf_200 : At kX6_asOf 200 (.ireturn) 1 201 := ⟨by decide +kernel, rfl⟩
theorem aX6_asOf_201 : At kX6_asOf 201 (.aload_n 0) 1 202 := ⟨by decide +kernel, rfl⟩
theorem aX6_asOf_202 : At kX6_asOf 202 (.aload_n 0) 1 203 := ⟨by decide +kernel, rfl⟩
theorem aX6_asOf_203 : At kX6_asOf 203 (.getfield 7) 3 206 := ⟨by decide +kernel, rfl⟩
theorem aX6_asOf_206 : At kX6_asOf 206 (.aload_n 0) 1 207 := ⟨by decide +kernel, rfl⟩
theorem aX6_asOf_207 : At kX6_asOf 207 (.iload 7) 2 209 := ⟨by decide +kernel, rfl⟩
theorem aX6_asOf_209 : At kX6_asOf 209 (.invokevirtual 55) 3 212 := ⟨by decide +kernel, rfl⟩
theorem aX6_asOf_212 : At kX6_asOf 212 (.invokevirtual 87) 3 215 := ⟨by decide +kernel, rfl⟩
theorem aX6_asOf_215 : At kX6_asOf 215 (.iinc 7 1) 3 218 := ⟨by decide +kernel, rfl⟩
theorem aX6_asOf_218 : At kX6_asOf 218 (.goto (-48)) 3 221 := ⟨by decide +kernel, rfl⟩
theorem aX6_asOf_221 : At kX6_asOf 221 (.aload_n 0) 1 222 := ⟨by decide +kernel, rfl⟩
theorem aX6_asOf_222 : At kX6_asOf 222 (.getfield 26) 3 225 := ⟨by decide +kernel, rfl⟩
theorem aX6_asOf_225 : At kX6_asOf 225 (.iload_n 3) 1 226 := ⟨by decide +kernel, rfl⟩
theorem aX6_asOf_226 : At kX6_asOf 226 (.iaload) 1 227 := ⟨by decide +kernel, rfl⟩
theorem aX6_asOf_227 : At kX6_asOf 227 (.ireturn) 1 228 := ⟨by decide +kernel, rfl⟩
theorem aX6_wouldLog_0 : At kX6_wouldLog 0 (.iload_n 1) 1 1 := ⟨by decide +kernel, rfl⟩
theorem aX6_wouldLog_1 : At kX6_wouldLog 1 (.invokestatic 125) 3 4 := ⟨by decide +kernel, rfl⟩
theorem aX6_wouldLog_4 : At kX6_wouldLog 4 (.ifCond .ne 5) 3 7 := ⟨by decide +kernel, rfl⟩
theorem aX6_wouldLog_7 : At kX6_wouldLog 7 (.iconst (-1)) 1 8 := ⟨by decide +kernel, rfl⟩
theorem aX6_wouldLog_8 : At kX6_wouldLog 8 (.ireturn) 1 9 := ⟨by decide +kernel, rfl⟩
theorem aX6_wouldLog_9 : At kX6_wouldLog 9 (.iload_n 2) 1 10 := ⟨by decide +kernel, rfl⟩
theorem aX6_wouldLog_10 : At kX6_wouldLog 10 (.iconst 0) 1 11 := ⟨by decide +kernel, rfl⟩
theorem aX6_wouldLog_11 : At kX6_wouldLog 11 (.bipush 9) 2 13 := ⟨by decide +kernel, rfl⟩
theorem aX6_wouldLog_13 : At kX6_wouldLog 13 (.invokestatic 35) 3 16 := ⟨by decide +kernel, rfl⟩
theorem aX6_wouldLog_16 : At kX6_wouldLog 16 (.ifCond .ne 6) 3 19 := ⟨by decide +kernel, rfl⟩
theorem aX6_wouldLog_19 : At kX6_wouldLog 19 (.bipush (-2)) 2 21 := ⟨by decide +kernel, rfl⟩
theorem aX6_wouldLog_21 : At kX6_wouldLog 21 (.ireturn) 1 22 := ⟨by decide +kernel, rfl⟩
theorem aX6_wouldLog_22 : At kX6_wouldLog 22 (.aload_n 0) 1 23 := ⟨by decide +kernel, rfl⟩
theorem aX6_wouldLog_23 : At kX6_wouldLog 23 (.iload_n 1) 1 24 := ⟨by decide +kernel, rfl⟩
theorem aX6_wouldLog_24 : At kX6_wouldLog 24 (.iconst 1) 1 25 := ⟨by decide +kernel, rfl⟩
theorem aX6_wouldLog_25 : At kX6_wouldLog 25 (.iconst 0) 1 26 := ⟨by decide +kernel, rfl⟩
theorem aX6_wouldLog_26 : At kX6_wouldLog 26 (.bipush 12) 2 28 := ⟨by decide +kernel, rfl⟩
theorem aX6_wouldLog_28 : At kX6_wouldLog 28 (.iload_n 2) 1 29 := ⟨by decide +kernel, rfl⟩
theorem aX6_wouldLog_29 : At kX6_wouldLog 29 (.invokevirtual 102) 3 32 := ⟨by decide +kernel, rfl⟩
theorem aX6_wouldLog_32 : At kX6_wouldLog 32 (.aload_n 0) 1 33 := ⟨by decide +kernel, rfl⟩
theorem aX6_wouldLog_33 : At kX6_wouldLog 33 (.invokevirtual 115) 3 36 := ⟨by decide +kernel, rfl⟩
theorem aX6_wouldLog_36 : At kX6_wouldLog 36 (.aload_n 0) 1 37 := ⟨by decide +kernel, rfl⟩
theorem aX6_wouldLog_37 : At kX6_wouldLog 37 (.getfield 32) 3 40 := ⟨by decide +kernel, rfl⟩
theorem aX6_wouldLog_40 : At kX6_wouldLog 40 (.iconst 1) 1 41 := ⟨by decide +kernel, rfl⟩
theorem aX6_wouldLog_41 : At kX6_wouldLog 41 (.iaload) 1 42 := ⟨by decide +kernel, rfl⟩
theorem aX6_wouldLog_42 : At kX6_wouldLog 42 (.ireturn) 1 43 := ⟨by decide +kernel, rfl⟩
theorem aX6_bestRenewed_0 : At kX6_bestRenewed 0 (.bipush (-5)) 2 2 := ⟨by decide +kernel, rfl⟩
theorem aX6_bestRenewed_2 : At kX6_bestRenewed 2 (.istore_n 1) 1 3 := ⟨by decide +kernel, rfl⟩
theorem aX6_bestRenewed_3 : At kX6_bestRenewed 3 (.iconst 0) 1 4 := ⟨by decide +kernel, rfl⟩
theorem aX6_bestRenewed_4 : At kX6_bestRenewed 4 (.istore_n 2) 1 5 := ⟨by decide +kernel, rfl⟩
theorem aX6_bestRenewed_5 : At kX6_bestRenewed 5 (.iconst 0) 1 6 := ⟨by decide +kernel, rfl⟩
theorem aX6_bestRenewed_6 : At kX6_bestRenewed 6 (.istore_n 3) 1 7 := ⟨by decide +kernel, rfl⟩
theorem aX6_bestRenewed_7 : At kX6_bestRenewed 7 (.iload_n 3) 1 8 := ⟨by decide +kernel, rfl⟩
theorem aX6_bestRenewed_8 : At kX6_bestRenewed 8 (.bipush 6) 2 10 := ⟨by decide +kernel, rfl⟩
theorem aX6_bestRenewed_10 : At kX6_bestRenewed 10 (.if_icmp .ge 56) 3 13 := ⟨by decide +kernel, rfl⟩
theorem aX6_bestRenewed_13 : At kX6_bestRenewed 13 (.aload_n 0) 1 14 := ⟨by decide +kernel, rfl⟩
theorem aX6_bestRenewed_14 : At kX6_bestRenewed 14 (.iload_n 3) 1 15 := ⟨by decide +kernel, rfl⟩
theorem aX6_bestRenewed_15 : At kX6_bestRenewed 15 (.invokevirtual 95) 3 18 := ⟨by decide +kernel, rfl⟩
theorem aX6_bestRenewed_18 : At kX6_bestRenewed 18 (.aload_n 0) 1 19 := ⟨by decide +kernel, rfl⟩
theorem aX6_bestRenewed_19 : At kX6_bestRenewed 19 (.getfield 7) 3 22 := ⟨by decide +kernel, rfl⟩
theorem aX6_bestRenewed_22 : At kX6_bestRenewed 22 (.bipush 8) 2 24 := ⟨by decide +kernel, rfl⟩
theorem aX6_bestRenewed_24 : At kX6_bestRenewed 24 (.bipush 12) 2 26 := ⟨by decide +kernel, rfl⟩
theorem aX6_bestRenewed_26 : At kX6_bestRenewed 26 (.iload_n 3) 1 27 := ⟨by decide +kernel, rfl⟩
theorem aX6_bestRenewed_27 : At kX6_bestRenewed 27 (.imul) 1 28 := ⟨by decide +kernel, rfl⟩
theorem aX6_bestRenewed_28 : At kX6_bestRenewed 28 (.iadd) 1 29 := ⟨by decide +kernel, rfl⟩
theorem aX6_bestRenewed_29 : At kX6_bestRenewed 29 (.invokestatic 59) 3 32 := ⟨by decide +kernel, rfl⟩
theorem aX6_bestRenewed_32 : At kX6_bestRenewed 32 (.isub) 1 33 := ⟨by decide +kernel, rfl⟩
theorem aX6_bestRenewed_33 : At kX6_bestRenewed 33 (.istore 4) 2 35 := ⟨by decide +kernel, rfl⟩
theorem aX6_bestRenewed_35 : At kX6_bestRenewed 35 (.iload 4) 2 37 := ⟨by decide +kernel, rfl⟩
theorem aX6_bestRenewed_37 : At kX6_bestRenewed 37 (.iload_n 2) 1 38 := ⟨by decide +kernel, rfl⟩
theorem aX6_bestRenewed_38 : At kX6_bestRenewed 38 (.if_icmp .le 7) 3 41 := ⟨by decide +kernel, rfl⟩
theorem aX6_bestRenewed_41 : At kX6_bestRenewed 41 (.iload_n 3) 1 42 := ⟨by decide +kernel, rfl⟩
theorem aX6_bestRenewed_42 : At kX6_bestRenewed 42 (.goto 4) 3 45 := ⟨by decide +kernel, rfl⟩
theorem aX6_bestRenewed_45 : At kX6_bestRenewed 45 (.iload_n 1) 1 46 := ⟨by decide +kernel, rfl⟩
theorem aX6_bestRenewed_46 : At kX6_bestRenewed 46 (.istore_n 1) 1 47 := ⟨by decide +kernel, rfl⟩
theorem aX6_bestRenewed_47 : At kX6_bestRenewed 47 (.iload 4) 2 49 := ⟨by decide +kernel, rfl⟩
theorem aX6_bestRenewed_49 : At kX6_bestRenewed 49 (.iload_n 2) 1 50 := ⟨by decide +kernel, rfl⟩
theorem aX6_bestRenewed_50 : At kX6_bestRenewed 50 (.if_icmp .le 8) 3 53 := ⟨by decide +kernel, rfl⟩
theorem aX6_bestRenewed_53 : At kX6_bestRenewed 53 (.iload 4) 2 55 := ⟨by decide +kernel, rfl⟩
theorem aX6_bestRenewed_55 : At kX6_bestRenewed 55 (.goto 4) 3 58 := ⟨by decide +kernel, rfl⟩
theorem aX6_bestRenewed_58 : At kX6_bestRenewed 58 (.iload_n 2) 1 59 := ⟨by decide +kernel, rfl⟩
theorem aX6_bestRenewed_59 : At kX6_bestRenewed 59 (.istore_n 2) 1 60 := ⟨by decide +kernel, rfl⟩
theorem aX6_bestRenewed_60 : At kX6_bestRenewed 60 (.iinc 3 1) 3 63 := ⟨by decide +kernel, rfl⟩
theorem aX6_bestRenewed_63 : At kX6_bestRenewed 63 (.goto (-56)) 3 66 := ⟨by decide +kernel, rfl⟩
theorem aX6_bestRenewed_66 : At kX6_bestRenewed 66 (.iload_n 1) 1 67 := ⟨by decide +kernel, rfl⟩
theorem aX6_bestRenewed_67 : At kX6_bestRenewed 67 (.ireturn) 1 68 := ⟨by decide +kernel, rfl⟩
theorem aX6_ofPages_0 : At kX6_ofPages 0 (.iconst 0) 1 1 := ⟨by decide +kernel, rfl⟩
theorem aX6_ofPages_1 : At kX6_ofPages 1 (.istore_n 2) 1 2 := ⟨by decide +kernel, rfl⟩
theorem aX6_ofPages_2 : At kX6_ofPages 2 (.iconst 0) 1 3 := ⟨by decide +kernel, rfl⟩
theorem aX6_ofPages_3 : At kX6_ofPages 3 (.istore_n 3) 1 4 := ⟨by decide +kernel, rfl⟩
theorem aX6_ofPages_4 : At kX6_ofPages 4 (.iload_n 3) 1 5 := ⟨by decide +kernel, rfl⟩
theorem aX6_ofPages_5 : At kX6_ofPages 5 (.bipush 6) 2 7 := ⟨by decide +kernel, rfl⟩
theorem aX6_ofPages_7 : At kX6_ofPages 7 (.if_icmp .ge 36) 3 10 := ⟨by decide +kernel, rfl⟩
theorem aX6_ofPages_10 : At kX6_ofPages 10 (.iload_n 2) 1 11 := ⟨by decide +kernel, rfl⟩
theorem aX6_ofPages_11 : At kX6_ofPages 11 (.iload_n 1) 1 12 := ⟨by decide +kernel, rfl⟩
theorem aX6_ofPages_12 : At kX6_ofPages 12 (.bipush 7) 2 14 := ⟨by decide +kernel, rfl⟩
theorem aX6_ofPages_14 : At kX6_ofPages 14 (.if_icmp .ne 11) 3 17 := ⟨by decide +kernel, rfl⟩
theorem aX6_ofPages_17 : At kX6_ofPages 17 (.aload_n 0) 1 18 := ⟨by decide +kernel, rfl⟩
theorem aX6_ofPages_18 : At kX6_ofPages 18 (.iload_n 3) 1 19 := ⟨by decide +kernel, rfl⟩
theorem aX6_ofPages_19 : At kX6_ofPages 19 (.invokevirtual 95) 3 22 := ⟨by decide +kernel, rfl⟩
theorem aX6_ofPages_22 : At kX6_ofPages 22 (.goto 13) 3 25 := ⟨by decide +kernel, rfl⟩
theorem aX6_ofPages_25 : At kX6_ofPages 25 (.aload_n 0) 1 26 := ⟨by decide +kernel, rfl⟩
theorem aX6_ofPages_26 : At kX6_ofPages 26 (.getfield 7) 3 29 := ⟨by decide +kernel, rfl⟩
theorem aX6_ofPages_29 : At kX6_ofPages 29 (.sipush 158) 3 32 := ⟨by decide +kernel, rfl⟩
theorem aX6_ofPages_32 : At kX6_ofPages 32 (.iload_n 3) 1 33 := ⟨by decide +kernel, rfl⟩
theorem aX6_ofPages_33 : At kX6_ofPages 33 (.iadd) 1 34 := ⟨by decide +kernel, rfl⟩
theorem aX6_ofPages_34 : At kX6_ofPages 34 (.iaload) 1 35 := ⟨by decide +kernel, rfl⟩
theorem aX6_ofPages_35 : At kX6_ofPages 35 (.iadd) 1 36 := ⟨by decide +kernel, rfl⟩
theorem aX6_ofPages_36 : At kX6_ofPages 36 (.istore_n 2) 1 37 := ⟨by decide +kernel, rfl⟩
theorem aX6_ofPages_37 : At kX6_ofPages 37 (.iinc 3 1) 3 40 := ⟨by decide +kernel, rfl⟩
theorem aX6_ofPages_40 : At kX6_ofPages 40 (.goto (-36)) 3 43 := ⟨by decide +kernel, rfl⟩
theorem aX6_ofPages_43 : At kX6_ofPages 43 (.iload_n 2) 1 44 := ⟨by decide +kernel, rfl⟩
theorem aX6_ofPages_44 : At kX6_ofPages 44 (.ireturn) 1 45 := ⟨by decide +kernel, rfl⟩
theorem aX6_count_0 : At kX6_count 0 (.iload_n 1) 1 1 := ⟨by decide +kernel, rfl⟩
theorem aX6_count_1 : At kX6_count 1 (.tableswitch 169 0 13 #[71, 78, 92, 97, 104, 111, 116, 130, 130, 136, 143, 151, 159, 164]) 71 72 := ⟨by decide +kernel, rfl⟩
theorem aX6_count_72 : At kX6_count 72 (.aload_n 0) 1 73 := ⟨by decide +kernel, rfl⟩
theorem aX6_count_73 : At kX6_count 73 (.getfield 7) 3 76 := ⟨by decide +kernel, rfl⟩
theorem aX6_count_76 : At kX6_count 76 (.iconst 3) 1 77 := ⟨by decide +kernel, rfl⟩
theorem aX6_count_77 : At kX6_count 77 (.iaload) 1 78 := ⟨by decide +kernel, rfl⟩
theorem aX6_count_78 : At kX6_count 78 (.ireturn) 1 79 := ⟨by decide +kernel, rfl⟩
theorem aX6_count_79 : At kX6_count 79 (.aload_n 0) 1 80 := ⟨by decide +kernel, rfl⟩
theorem aX6_count_80 : At kX6_count 80 (.getfield 7) 3 83 := ⟨by decide +kernel, rfl⟩
theorem aX6_count_83 : At kX6_count 83 (.iconst 3) 1 84 := ⟨by decide +kernel, rfl⟩
theorem aX6_count_84 : At kX6_count 84 (.iaload) 1 85 := ⟨by decide +kernel, rfl⟩
theorem aX6_count_85 : At kX6_count 85 (.aload_n 0) 1 86 := ⟨by decide +kernel, rfl⟩
theorem aX6_count_86 : At kX6_count 86 (.getfield 7) 3 89 := ⟨by decide +kernel, rfl⟩
theorem aX6_count_89 : At kX6_count 89 (.iconst 2) 1 90 := ⟨by decide +kernel, rfl⟩
theorem aX6_count_90 : At kX6_count 90 (.iaload) 1 91 := ⟨by decide +kernel, rfl⟩
theorem aX6_count_91 : At kX6_count 91 (.isub) 1 92 := ⟨by decide +kernel, rfl⟩
theorem aX6_count_92 : At kX6_count 92 (.ireturn) 1 93 := ⟨by decide +kernel, rfl⟩
theorem aX6_count_93 : At kX6_count 93 (.aload_n 0) 1 94 := ⟨by decide +kernel, rfl⟩
theorem aX6_count_94 : At kX6_count 94 (.invokevirtual 91) 3 97 := ⟨by decide +kernel, rfl⟩
theorem aX6_count_97 : At kX6_count 97 (.ireturn) 1 98 := ⟨by decide +kernel, rfl⟩
theorem aX6_count_98 : At kX6_count 98 (.aload_n 0) 1 99 := ⟨by decide +kernel, rfl⟩
theorem aX6_count_99 : At kX6_count 99 (.getfield 7) 3 102 := ⟨by decide +kernel, rfl⟩
theorem aX6_count_102 : At kX6_count 102 (.iconst 1) 1 103 := ⟨by decide +kernel, rfl⟩
theorem aX6_count_103 : At kX6_count 103 (.iaload) 1 104 := ⟨by decide +kernel, rfl⟩
theorem aX6_count_104 : At kX6_count 104 (.ireturn) 1 105 := ⟨by decide +kernel, rfl⟩
theorem aX6_count_105 : At kX6_count 105 (.aload_n 0) 1 106 := ⟨by decide +kernel, rfl⟩
theorem aX6_count_106 : At kX6_count 106 (.getfield 7) 3 109 := ⟨by decide +kernel, rfl⟩
theorem aX6_count_109 : At kX6_count 109 (.iconst 0) 1 110 := ⟨by decide +kernel, rfl⟩
theorem aX6_count_110 : At kX6_count 110 (.iaload) 1 111 := ⟨by decide +kernel, rfl⟩
theorem aX6_count_111 : At kX6_count 111 (.ireturn) 1 112 := ⟨by decide +kernel, rfl⟩
theorem aX6_count_112 : At kX6_count 112 (.aload_n 0) 1 113 := ⟨by decide +kernel, rfl⟩
theorem aX6_count_113 : At kX6_count 113 (.invokevirtual 171) 3 116 := ⟨by decide +kernel, rfl⟩
theorem aX6_count_116 : At kX6_count 116 (.ireturn) 1 117 := ⟨by decide +kernel, rfl⟩
theorem aX6_count_117 : At kX6_count 117 (.aload_n 0) 1 118 := ⟨by decide +kernel, rfl⟩
theorem aX6_count_118 : At kX6_count 118 (.getfield 7) 3 121 := ⟨by decide +kernel, rfl⟩
theorem aX6_count_121 : At kX6_count 121 (.iconst 3) 1 122 := ⟨by decide +kernel, rfl⟩
theorem aX6_count_122 : At kX6_count 122 (.iaload) 1 123 := ⟨by decide +kernel, rfl⟩
theorem aX6_count_123 : At kX6_count 123 (.aload_n 0) 1 124 := ⟨by decide +kernel, rfl⟩
theorem aX6_count_124 : At kX6_count 124 (.getfield 7) 3 127 := ⟨by decide +kernel, rfl⟩
theorem aX6_count_127 : At kX6_count 127 (.iconst 4) 1 128 := ⟨by decide +kernel, rfl⟩
theorem aX6_count_128 : At kX6_count 128 (.iaload) 1 129 := ⟨by decide +kernel, rfl⟩
theorem aX6_count_129 : At kX6_count 129 (.isub) 1 130 := ⟨by decide +kernel, rfl⟩
theorem aX6_count_130 : At kX6_count 130 (.ireturn) 1 131 := ⟨by decide +kernel, rfl⟩
theorem aX6_count_131 : At kX6_count 131 (.aload_n 0) 1 132 := ⟨by decide +kernel, rfl⟩
theorem aX6_count_132 : At kX6_count 132 (.iload_n 1) 1 133 := ⟨by decide +kernel, rfl⟩
theorem aX6_count_133 : At kX6_count 133 (.invokevirtual 192) 3 136 := ⟨by decide +kernel, rfl⟩
theorem aX6_count_136 : At kX6_count 136 (.ireturn) 1 137 := ⟨by decide +kernel, rfl⟩
theorem aX6_count_137 : At kX6_count 137 (.aload_n 0) 1 138 := ⟨by decide +kernel, rfl⟩
theorem aX6_count_138 : At kX6_count 138 (.getfield 7) 3 141 := ⟨by decide +kernel, rfl⟩
theorem aX6_count_141 : At kX6_count 141 (.iconst 5) 1 142 := ⟨by decide +kernel, rfl⟩
theorem aX6_count_142 : At kX6_count 142 (.iaload) 1 143 := ⟨by decide +kernel, rfl⟩
theorem aX6_count_143 : At kX6_count 143 (.ireturn) 1 144 := ⟨by decide +kernel, rfl⟩
theorem aX6_count_144 : At kX6_count 144 (.aload_n 0) 1 145 := ⟨by decide +kernel, rfl⟩
theorem aX6_count_145 : At kX6_count 145 (.getfield 7) 3 148 := ⟨by decide +kernel, rfl⟩
theorem aX6_count_148 : At kX6_count 148 (.bipush 6) 2 150 := ⟨by decide +kernel, rfl⟩
theorem aX6_count_150 : At kX6_count 150 (.iaload) 1 151 := ⟨by decide +kernel, rfl⟩
theorem aX6_count_151 : At kX6_count 151 (.ireturn) 1 152 := ⟨by decide +kernel, rfl⟩
theorem aX6_count_152 : At kX6_count 152 (.aload_n 0) 1 153 := ⟨by decide +kernel, rfl⟩
theorem aX6_count_153 : At kX6_count 153 (.getfield 7) 3 156 := ⟨by decide +kernel, rfl⟩
theorem aX6_count_156 : At kX6_count 156 (.bipush 7) 2 158 := ⟨by decide +kernel, rfl⟩
theorem aX6_count_158 : At kX6_count 158 (.iaload) 1 159 := ⟨by decide +kernel, rfl⟩
theorem aX6_count_159 : At kX6_count 159 (.ireturn) 1 160 := ⟨by decide +kernel, rfl⟩
theorem aX6_count_160 : At kX6_count 160 (.aload_n 0) 1 161 := ⟨by decide +kernel, rfl⟩
theorem aX6_count_161 : At kX6_count 161 (.getfield 39) 3 164 := ⟨by decide +kernel, rfl⟩
theorem aX6_count_164 : At kX6_count 164 (.ireturn) 1 165 := ⟨by decide +kernel, rfl⟩
theorem aX6_count_165 : At kX6_count 165 (.aload_n 0) 1 166 := ⟨by decide +kernel, rfl⟩
theorem aX6_count_166 : At kX6_count 166 (.getfield 134) 3 169 := ⟨by decide +kernel, rfl⟩
theorem aX6_count_169 : At kX6_count 169 (.ireturn) 1 170 := ⟨by decide +kernel, rfl⟩
theorem aX6_count_170 : At kX6_count 170 (.bipush (-2)) 2 172 := ⟨by decide +kernel, rfl⟩
theorem aX6_count_172 : At kX6_count 172 (.ireturn) 1 173 := ⟨by decide +kernel, rfl⟩
theorem aJ7_copyOf_59c91_0 : At kJ7_copyOf_59c91 0 (.iload_n 1) 1 1 := ⟨by decide +kernel, rfl⟩
theorem aJ7_copyOf_59c91_1 : At kJ7_copyOf_59c91 1 (.aload_n 0) 1 2 := ⟨by decide +kernel, rfl⟩
theorem aJ7_copyOf_59c91_2 : At kJ7_copyOf_59c91 2 (.arraylength) 1 3 := ⟨by decide +kernel, rfl⟩
theorem aJ7_copyOf_59c91_3 : At kJ7_copyOf_59c91 3 (.if_icmp .ne 11) 3 6 := ⟨by decide +kernel, rfl⟩
theorem aJ7_copyOf_59c91_6 : At kJ7_copyOf_59c91 6 (.aload_n 0) 1 7 := ⟨by decide +kernel, rfl⟩
theorem aJ7_copyOf_59c91_7 : At kJ7_copyOf_59c91 7 (.invokevirtual 316) 3 10 := ⟨by decide +kernel, rfl⟩
theorem aJ7_copyOf_59c91_10 : At kJ7_copyOf_59c91 10 (.checkcast 317) 3 13 := ⟨by decide +kernel, rfl⟩
theorem aJ7_copyOf_59c91_13 : At kJ7_copyOf_59c91 13 (.areturn) 1 14 := ⟨by decide +kernel, rfl⟩
theorem aJ7_copyOf_59c91_14 : At kJ7_copyOf_59c91 14 (.iload_n 1) 1 15 := ⟨by decide +kernel, rfl⟩
theorem aJ7_copyOf_59c91_15 : At kJ7_copyOf_59c91 15 (.newarray .int) 2 17 := ⟨by decide +kernel, rfl⟩
theorem aJ7_copyOf_59c91_17 : At kJ7_copyOf_59c91 17 (.astore_n 2) 1 18 := ⟨by decide +kernel, rfl⟩
theorem aJ7_copyOf_59c91_18 : At kJ7_copyOf_59c91 18 (.aload_n 0) 1 19 := ⟨by decide +kernel, rfl⟩
theorem aJ7_copyOf_59c91_19 : At kJ7_copyOf_59c91 19 (.iconst 0) 1 20 := ⟨by decide +kernel, rfl⟩
theorem aJ7_copyOf_59c91_20 : At kJ7_copyOf_59c91 20 (.aload_n 2) 1 21 := ⟨by decide +kernel, rfl⟩
theorem aJ7_copyOf_59c91_21 : At kJ7_copyOf_59c91 21 (.iconst 0) 1 22 := ⟨by decide +kernel, rfl⟩
theorem aJ7_copyOf_59c91_22 : At kJ7_copyOf_59c91 22 (.aload_n 0) 1 23 := ⟨by decide +kernel, rfl⟩
theorem aJ7_copyOf_59c91_23 : At kJ7_copyOf_59c91 23 (.arraylength) 1 24 := ⟨by decide +kernel, rfl⟩
theorem aJ7_copyOf_59c91_24 : At kJ7_copyOf_59c91 24 (.iload_n 1) 1 25 := ⟨by decide +kernel, rfl⟩
theorem aJ7_copyOf_59c91_25 : At kJ7_copyOf_59c91 25 (.invokestatic 304) 3 28 := ⟨by decide +kernel, rfl⟩
theorem aJ7_copyOf_59c91_28 : At kJ7_copyOf_59c91 28 (.invokestatic 150) 3 31 := ⟨by decide +kernel, rfl⟩
theorem aJ7_copyOf_59c91_31 : At kJ7_copyOf_59c91 31 (.aload_n 2) 1 32 := ⟨by decide +kernel, rfl⟩
theorem aJ7_copyOf_59c91_32 : At kJ7_copyOf_59c91 32 (.areturn) 1 33 := ⟨by decide +kernel, rfl⟩
theorem aL_law_0 : At kL_law 0 (.new 7) 3 3 := ⟨by decide +kernel, rfl⟩
theorem aL_law_3 : At kL_law 3 (.dup) 1 4 := ⟨by decide +kernel, rfl⟩
theorem aL_law_4 : At kL_law 4 (.invokespecial 9) 3 7 := ⟨by decide +kernel, rfl⟩
theorem aL_law_7 : At kL_law 7 (.astore_n 1) 1 8 := ⟨by decide +kernel, rfl⟩
theorem aL_law_8 : At kL_law 8 (.new 10) 3 11 := ⟨by decide +kernel, rfl⟩
theorem aL_law_11 : At kL_law 11 (.dup) 1 12 := ⟨by decide +kernel, rfl⟩
theorem aL_law_12 : At kL_law 12 (.invokespecial 12) 3 15 := ⟨by decide +kernel, rfl⟩
theorem aL_law_15 : At kL_law 15 (.astore_n 2) 1 16 := ⟨by decide +kernel, rfl⟩
theorem aL_law_16 : At kL_law 16 (.iconst 0) 1 17 := ⟨by decide +kernel, rfl⟩
theorem aL_law_17 : At kL_law 17 (.istore_n 3) 1 18 := ⟨by decide +kernel, rfl⟩
theorem aL_law_18 : At kL_law 18 (.iload_n 3) 1 19 := ⟨by decide +kernel, rfl⟩
theorem aL_law_19 : At kL_law 19 (.aload_n 0) 1 20 := ⟨by decide +kernel, rfl⟩
theorem aL_law_20 : At kL_law 20 (.arraylength) 1 21 := ⟨by decide +kernel, rfl⟩
theorem aL_law_21 : At kL_law 21 (.iconst 5) 1 22 := ⟨by decide +kernel, rfl⟩
theorem aL_law_22 : At kL_law 22 (.isub) 1 23 := ⟨by decide +kernel, rfl⟩
theorem aL_law_23 : At kL_law 23 (.if_icmp .gt 758) 3 26 := ⟨by decide +kernel, rfl⟩
theorem aL_law_26 : At kL_law 26 (.aload_n 0) 1 27 := ⟨by decide +kernel, rfl⟩
theorem aL_law_27 : At kL_law 27 (.iload_n 3) 1 28 := ⟨by decide +kernel, rfl⟩
theorem aL_law_28 : At kL_law 28 (.iaload) 1 29 := ⟨by decide +kernel, rfl⟩
theorem aL_law_29 : At kL_law 29 (.bipush 31) 2 31 := ⟨by decide +kernel, rfl⟩
theorem aL_law_31 : At kL_law 31 (.iand) 1 32 := ⟨by decide +kernel, rfl⟩
theorem aL_law_32 : At kL_law 32 (.tableswitch 743 0 24 #[116, 169, 222, 255, 278, 291, 314, 337, 350, 373, 386, 409, 422, 447, 460, 473, 486, 499, 532, 565, 598, 631, 674, 707, 720]) 116 148 := ⟨by decide +kernel, rfl⟩
theorem aL_law_148 : At kL_law 148 (.aload_n 1) 1 149 := ⟨by decide +kernel, rfl⟩
theorem aL_law_149 : At kL_law 149 (.aload_n 0) 1 150 := ⟨by decide +kernel, rfl⟩
theorem aL_law_150 : At kL_law 150 (.iload_n 3) 1 151 := ⟨by decide +kernel, rfl⟩
theorem aL_law_151 : At kL_law 151 (.iconst 1) 1 152 := ⟨by decide +kernel, rfl⟩
theorem aL_law_152 : At kL_law 152 (.iadd) 1 153 := ⟨by decide +kernel, rfl⟩
theorem aL_law_153 : At kL_law 153 (.iaload) 1 154 := ⟨by decide +kernel, rfl⟩
theorem aL_law_154 : At kL_law 154 (.aload_n 0) 1 155 := ⟨by decide +kernel, rfl⟩
theorem aL_law_155 : At kL_law 155 (.iload_n 3) 1 156 := ⟨by decide +kernel, rfl⟩
theorem aL_law_156 : At kL_law 156 (.iconst 2) 1 157 := ⟨by decide +kernel, rfl⟩
theorem aL_law_157 : At kL_law 157 (.iadd) 1 158 := ⟨by decide +kernel, rfl⟩
theorem aL_law_158 : At kL_law 158 (.iaload) 1 159 := ⟨by decide +kernel, rfl⟩
theorem aL_law_159 : At kL_law 159 (.aload_n 0) 1 160 := ⟨by decide +kernel, rfl⟩
theorem aL_law_160 : At kL_law 160 (.iload_n 3) 1 161 := ⟨by decide +kernel, rfl⟩
theorem aL_law_161 : At kL_law 161 (.iconst 3) 1 162 := ⟨by decide +kernel, rfl⟩
theorem aL_law_162 : At kL_law 162 (.iadd) 1 163 := ⟨by decide +kernel, rfl⟩
theorem aL_law_163 : At kL_law 163 (.iaload) 1 164 := ⟨by decide +kernel, rfl⟩
theorem aL_law_164 : At kL_law 164 (.aload_n 0) 1 165 := ⟨by decide +kernel, rfl⟩
theorem aL_law_165 : At kL_law 165 (.iload_n 3) 1 166 := ⟨by decide +kernel, rfl⟩
theorem aL_law_166 : At kL_law 166 (.iconst 4) 1 167 := ⟨by decide +kernel, rfl⟩
theorem aL_law_167 : At kL_law 167 (.iadd) 1 168 := ⟨by decide +kernel, rfl⟩
theorem aL_law_168 : At kL_law 168 (.iaload) 1 169 := ⟨by decide +kernel, rfl⟩
theorem aL_law_169 : At kL_law 169 (.invokevirtual 13) 3 172 := ⟨by decide +kernel, rfl⟩
theorem aL_law_172 : At kL_law 172 (.aload_n 2) 1 173 := ⟨by decide +kernel, rfl⟩
theorem aL_law_173 : At kL_law 173 (.aload_n 0) 1 174 := ⟨by decide +kernel, rfl⟩
theorem aL_law_174 : At kL_law 174 (.iload_n 3) 1 175 := ⟨by decide +kernel, rfl⟩
theorem aL_law_175 : At kL_law 175 (.iconst 1) 1 176 := ⟨by decide +kernel, rfl⟩
theorem aL_law_176 : At kL_law 176 (.iadd) 1 177 := ⟨by decide +kernel, rfl⟩
theorem aL_law_177 : At kL_law 177 (.iaload) 1 178 := ⟨by decide +kernel, rfl⟩
theorem aL_law_178 : At kL_law 178 (.aload_n 0) 1 179 := ⟨by decide +kernel, rfl⟩
theorem aL_law_179 : At kL_law 179 (.iload_n 3) 1 180 := ⟨by decide +kernel, rfl⟩
theorem aL_law_180 : At kL_law 180 (.iconst 2) 1 181 := ⟨by decide +kernel, rfl⟩
theorem aL_law_181 : At kL_law 181 (.iadd) 1 182 := ⟨by decide +kernel, rfl⟩
theorem aL_law_182 : At kL_law 182 (.iaload) 1 183 := ⟨by decide +kernel, rfl⟩
theorem aL_law_183 : At kL_law 183 (.aload_n 0) 1 184 := ⟨by decide +kernel, rfl⟩
theorem aL_law_184 : At kL_law 184 (.iload_n 3) 1 185 := ⟨by decide +kernel, rfl⟩
theorem aL_law_185 : At kL_law 185 (.iconst 3) 1 186 := ⟨by decide +kernel, rfl⟩
theorem aL_law_186 : At kL_law 186 (.iadd) 1 187 := ⟨by decide +kernel, rfl⟩
theorem aL_law_187 : At kL_law 187 (.iaload) 1 188 := ⟨by decide +kernel, rfl⟩
theorem aL_law_188 : At kL_law 188 (.aload_n 0) 1 189 := ⟨by decide +kernel, rfl⟩
theorem aL_law_189 : At kL_law 189 (.iload_n 3) 1 190 := ⟨by decide +kernel, rfl⟩
theorem aL_law_190 : At kL_law 190 (.iconst 4) 1 191 := ⟨by decide +kernel, rfl⟩
theorem aL_law_191 : At kL_law 191 (.iadd) 1 192 := ⟨by decide +kernel, rfl⟩
theorem aL_law_192 : At kL_law 192 (.iaload) 1 193 := ⟨by decide +kernel, rfl⟩
theorem aL_law_193 : At kL_law 193 (.invokevirtual 17) 3 196 := ⟨by decide +kernel, rfl⟩
theorem aL_law_196 : At kL_law 196 (.if_icmp .eq 579) 3 199 := ⟨by decide +kernel, rfl⟩
theorem aL_law_199 : At kL_law 199 (.iconst 0) 1 200 := ⟨by decide +kernel, rfl⟩
theorem aL_law_200 : At kL_law 200 (.ireturn) 1 201 := ⟨by decide +kernel, rfl⟩
theorem aL_law_201 : At kL_law 201 (.aload_n 1) 1 202 := ⟨by decide +kernel, rfl⟩
theorem aL_law_202 : At kL_law 202 (.aload_n 0) 1 203 := ⟨by decide +kernel, rfl⟩
theorem aL_law_203 : At kL_law 203 (.iload_n 3) 1 204 := ⟨by decide +kernel, rfl⟩
theorem aL_law_204 : At kL_law 204 (.iconst 1) 1 205 := ⟨by decide +kernel, rfl⟩
theorem aL_law_205 : At kL_law 205 (.iadd) 1 206 := ⟨by decide +kernel, rfl⟩
theorem aL_law_206 : At kL_law 206 (.iaload) 1 207 := ⟨by decide +kernel, rfl⟩
theorem aL_law_207 : At kL_law 207 (.aload_n 0) 1 208 := ⟨by decide +kernel, rfl⟩
theorem aL_law_208 : At kL_law 208 (.iload_n 3) 1 209 := ⟨by decide +kernel, rfl⟩
theorem aL_law_209 : At kL_law 209 (.iconst 2) 1 210 := ⟨by decide +kernel, rfl⟩
theorem aL_law_210 : At kL_law 210 (.iadd) 1 211 := ⟨by decide +kernel, rfl⟩
theorem aL_law_211 : At kL_law 211 (.iaload) 1 212 := ⟨by decide +kernel, rfl⟩
theorem aL_law_212 : At kL_law 212 (.aload_n 0) 1 213 := ⟨by decide +kernel, rfl⟩
theorem aL_law_213 : At kL_law 213 (.iload_n 3) 1 214 := ⟨by decide +kernel, rfl⟩
theorem aL_law_214 : At kL_law 214 (.iconst 3) 1 215 := ⟨by decide +kernel, rfl⟩
theorem aL_law_215 : At kL_law 215 (.iadd) 1 216 := ⟨by decide +kernel, rfl⟩
theorem aL_law_216 : At kL_law 216 (.iaload) 1 217 := ⟨by decide +kernel, rfl⟩
theorem aL_law_217 : At kL_law 217 (.aload_n 0) 1 218 := ⟨by decide +kernel, rfl⟩
theorem aL_law_218 : At kL_law 218 (.iload_n 3) 1 219 := ⟨by decide +kernel, rfl⟩
theorem aL_law_219 : At kL_law 219 (.iconst 4) 1 220 := ⟨by decide +kernel, rfl⟩
theorem aL_law_220 : At kL_law 220 (.iadd) 1 221 := ⟨by decide +kernel, rfl⟩
theorem aL_law_221 : At kL_law 221 (.iaload) 1 222 := ⟨by decide +kernel, rfl⟩
theorem aL_law_222 : At kL_law 222 (.invokevirtual 18) 3 225 := ⟨by decide +kernel, rfl⟩
theorem aL_law_225 : At kL_law 225 (.aload_n 2) 1 226 := ⟨by decide +kernel, rfl⟩
theorem aL_law_226 : At kL_law 226 (.aload_n 0) 1 227 := ⟨by decide +kernel, rfl⟩
theorem aL_law_227 : At kL_law 227 (.iload_n 3) 1 228 := ⟨by decide +kernel, rfl⟩
theorem aL_law_228 : At kL_law 228 (.iconst 1) 1 229 := ⟨by decide +kernel, rfl⟩
theorem aL_law_229 : At kL_law 229 (.iadd) 1 230 := ⟨by decide +kernel, rfl⟩
theorem aL_law_230 : At kL_law 230 (.iaload) 1 231 := ⟨by decide +kernel, rfl⟩
theorem aL_law_231 : At kL_law 231 (.aload_n 0) 1 232 := ⟨by decide +kernel, rfl⟩
theorem aL_law_232 : At kL_law 232 (.iload_n 3) 1 233 := ⟨by decide +kernel, rfl⟩
theorem aL_law_233 : At kL_law 233 (.iconst 2) 1 234 := ⟨by decide +kernel, rfl⟩
theorem aL_law_234 : At kL_law 234 (.iadd) 1 235 := ⟨by decide +kernel, rfl⟩
theorem aL_law_235 : At kL_law 235 (.iaload) 1 236 := ⟨by decide +kernel, rfl⟩
theorem aL_law_236 : At kL_law 236 (.aload_n 0) 1 237 := ⟨by decide +kernel, rfl⟩
theorem aL_law_237 : At kL_law 237 (.iload_n 3) 1 238 := ⟨by decide +kernel, rfl⟩
theorem aL_law_238 : At kL_law 238 (.iconst 3) 1 239 := ⟨by decide +kernel, rfl⟩
theorem aL_law_239 : At kL_law 239 (.iadd) 1 240 := ⟨by decide +kernel, rfl⟩
theorem aL_law_240 : At kL_law 240 (.iaload) 1 241 := ⟨by decide +kernel, rfl⟩
theorem aL_law_241 : At kL_law 241 (.aload_n 0) 1 242 := ⟨by decide +kernel, rfl⟩
theorem aL_law_242 : At kL_law 242 (.iload_n 3) 1 243 := ⟨by decide +kernel, rfl⟩
theorem aL_law_243 : At kL_law 243 (.iconst 4) 1 244 := ⟨by decide +kernel, rfl⟩
theorem aL_law_244 : At kL_law 244 (.iadd) 1 245 := ⟨by decide +kernel, rfl⟩
theorem aL_law_245 : At kL_law 245 (.iaload) 1 246 := ⟨by decide +kernel, rfl⟩
theorem aL_law_246 : At kL_law 246 (.invokevirtual 21) 3 249 := ⟨by decide +kernel, rfl⟩
theorem aL_law_249 : At kL_law 249 (.if_icmp .eq 526) 3 252 := ⟨by decide +kernel, rfl⟩
theorem aL_law_252 : At kL_law 252 (.iconst 0) 1 253 := ⟨by decide +kernel, rfl⟩
theorem aL_law_253 : At kL_law 253 (.ireturn) 1 254 := ⟨by decide +kernel, rfl⟩
theorem aL_law_254 : At kL_law 254 (.aload_n 1) 1 255 := ⟨by decide +kernel, rfl⟩
theorem aL_law_255 : At kL_law 255 (.aload_n 0) 1 256 := ⟨by decide +kernel, rfl⟩
theorem aL_law_256 : At kL_law 256 (.iload_n 3) 1 257 := ⟨by decide +kernel, rfl⟩
theorem aL_law_257 : At kL_law 257 (.iconst 1) 1 258 := ⟨by decide +kernel, rfl⟩
theorem aL_law_258 : At kL_law 258 (.iadd) 1 259 := ⟨by decide +kernel, rfl⟩
theorem aL_law_259 : At kL_law 259 (.iaload) 1 260 := ⟨by decide +kernel, rfl⟩
theorem aL_law_260 : At kL_law 260 (.aload_n 0) 1 261 := ⟨by decide +kernel, rfl⟩
theorem aL_law_261 : At kL_law 261 (.iload_n 3) 1 262 := ⟨by decide +kernel, rfl⟩
theorem aL_law_262 : At kL_law 262 (.iconst 2) 1 263 := ⟨by decide +kernel, rfl⟩
theorem aL_law_263 : At kL_law 263 (.iadd) 1 264 := ⟨by decide +kernel, rfl⟩
theorem aL_law_264 : At kL_law 264 (.iaload) 1 265 := ⟨by decide +kernel, rfl⟩
theorem aL_law_265 : At kL_law 265 (.invokevirtual 22) 3 268 := ⟨by decide +kernel, rfl⟩
theorem aL_law_268 : At kL_law 268 (.aload_n 2) 1 269 := ⟨by decide +kernel, rfl⟩
theorem aL_law_269 : At kL_law 269 (.aload_n 0) 1 270 := ⟨by decide +kernel, rfl⟩
theorem aL_law_270 : At kL_law 270 (.iload_n 3) 1 271 := ⟨by decide +kernel, rfl⟩
theorem aL_law_271 : At kL_law 271 (.iconst 1) 1 272 := ⟨by decide +kernel, rfl⟩
theorem aL_law_272 : At kL_law 272 (.iadd) 1 273 := ⟨by decide +kernel, rfl⟩
theorem aL_law_273 : At kL_law 273 (.iaload) 1 274 := ⟨by decide +kernel, rfl⟩
theorem aL_law_274 : At kL_law 274 (.aload_n 0) 1 275 := ⟨by decide +kernel, rfl⟩
theorem aL_law_275 : At kL_law 275 (.iload_n 3) 1 276 := ⟨by decide +kernel, rfl⟩
theorem aL_law_276 : At kL_law 276 (.iconst 2) 1 277 := ⟨by decide +kernel, rfl⟩
theorem aL_law_277 : At kL_law 277 (.iadd) 1 278 := ⟨by decide +kernel, rfl⟩
theorem aL_law_278 : At kL_law 278 (.iaload) 1 279 := ⟨by decide +kernel, rfl⟩
theorem aL_law_279 : At kL_law 279 (.invokevirtual 26) 3 282 := ⟨by decide +kernel, rfl⟩
theorem aL_law_282 : At kL_law 282 (.if_icmp .eq 493) 3 285 := ⟨by decide +kernel, rfl⟩
theorem aL_law_285 : At kL_law 285 (.iconst 0) 1 286 := ⟨by decide +kernel, rfl⟩
theorem aL_law_286 : At kL_law 286 (.ireturn) 1 287 := ⟨by decide +kernel, rfl⟩
theorem aL_law_287 : At kL_law 287 (.aload_n 1) 1 288 := ⟨by decide +kernel, rfl⟩
theorem aL_law_288 : At kL_law 288 (.aload_n 0) 1 289 := ⟨by decide +kernel, rfl⟩
theorem aL_law_289 : At kL_law 289 (.iload_n 3) 1 290 := ⟨by decide +kernel, rfl⟩
theorem aL_law_290 : At kL_law 290 (.iconst 1) 1 291 := ⟨by decide +kernel, rfl⟩
theorem aL_law_291 : At kL_law 291 (.iadd) 1 292 := ⟨by decide +kernel, rfl⟩
theorem aL_law_292 : At kL_law 292 (.iaload) 1 293 := ⟨by decide +kernel, rfl⟩
theorem aL_law_293 : At kL_law 293 (.invokevirtual 27) 3 296 := ⟨by decide +kernel, rfl⟩
theorem aL_law_296 : At kL_law 296 (.aload_n 2) 1 297 := ⟨by decide +kernel, rfl⟩
theorem aL_law_297 : At kL_law 297 (.aload_n 0) 1 298 := ⟨by decide +kernel, rfl⟩
theorem aL_law_298 : At kL_law 298 (.iload_n 3) 1 299 := ⟨by decide +kernel, rfl⟩
theorem aL_law_299 : At kL_law 299 (.iconst 1) 1 300 := ⟨by decide +kernel, rfl⟩
theorem aL_law_300 : At kL_law 300 (.iadd) 1 301 := ⟨by decide +kernel, rfl⟩
theorem aL_law_301 : At kL_law 301 (.iaload) 1 302 := ⟨by decide +kernel, rfl⟩
theorem aL_law_302 : At kL_law 302 (.invokevirtual 31) 3 305 := ⟨by decide +kernel, rfl⟩
theorem aL_law_305 : At kL_law 305 (.if_icmp .eq 470) 3 308 := ⟨by decide +kernel, rfl⟩
theorem aL_law_308 : At kL_law 308 (.iconst 0) 1 309 := ⟨by decide +kernel, rfl⟩
theorem aL_law_309 : At kL_law 309 (.ireturn) 1 310 := ⟨by decide +kernel, rfl⟩
theorem aL_law_310 : At kL_law 310 (.aload_n 1) 1 311 := ⟨by decide +kernel, rfl⟩
theorem aL_law_311 : At kL_law 311 (.invokevirtual 32) 3 314 := ⟨by decide +kernel, rfl⟩
theorem aL_law_314 : At kL_law 314 (.aload_n 2) 1 315 := ⟨by decide +kernel, rfl⟩
theorem aL_law_315 : At kL_law 315 (.invokevirtual 36) 3 318 := ⟨by decide +kernel, rfl⟩
theorem aL_law_318 : At kL_law 318 (.if_icmp .eq 457) 3 321 := ⟨by decide +kernel, rfl⟩
theorem aL_law_321 : At kL_law 321 (.iconst 0) 1 322 := ⟨by decide +kernel, rfl⟩
theorem aL_law_322 : At kL_law 322 (.ireturn) 1 323 := ⟨by decide +kernel, rfl⟩
theorem aL_law_323 : At kL_law 323 (.aload_n 1) 1 324 := ⟨by decide +kernel, rfl⟩
theorem aL_law_324 : At kL_law 324 (.aload_n 0) 1 325 := ⟨by decide +kernel, rfl⟩
theorem aL_law_325 : At kL_law 325 (.iload_n 3) 1 326 := ⟨by decide +kernel, rfl⟩
theorem aL_law_326 : At kL_law 326 (.iconst 1) 1 327 := ⟨by decide +kernel, rfl⟩
theorem aL_law_327 : At kL_law 327 (.iadd) 1 328 := ⟨by decide +kernel, rfl⟩
theorem aL_law_328 : At kL_law 328 (.iaload) 1 329 := ⟨by decide +kernel, rfl⟩
theorem aL_law_329 : At kL_law 329 (.invokevirtual 37) 3 332 := ⟨by decide +kernel, rfl⟩
theorem aL_law_332 : At kL_law 332 (.aload_n 2) 1 333 := ⟨by decide +kernel, rfl⟩
theorem aL_law_333 : At kL_law 333 (.aload_n 0) 1 334 := ⟨by decide +kernel, rfl⟩
theorem aL_law_334 : At kL_law 334 (.iload_n 3) 1 335 := ⟨by decide +kernel, rfl⟩
theorem aL_law_335 : At kL_law 335 (.iconst 1) 1 336 := ⟨by decide +kernel, rfl⟩
theorem aL_law_336 : At kL_law 336 (.iadd) 1 337 := ⟨by decide +kernel, rfl⟩
theorem aL_law_337 : At kL_law 337 (.iaload) 1 338 := ⟨by decide +kernel, rfl⟩
theorem aL_law_338 : At kL_law 338 (.invokevirtual 40) 3 341 := ⟨by decide +kernel, rfl⟩
theorem aL_law_341 : At kL_law 341 (.if_icmp .eq 434) 3 344 := ⟨by decide +kernel, rfl⟩
theorem aL_law_344 : At kL_law 344 (.iconst 0) 1 345 := ⟨by decide +kernel, rfl⟩
theorem aL_law_345 : At kL_law 345 (.ireturn) 1 346 := ⟨by decide +kernel, rfl⟩
theorem aL_law_346 : At kL_law 346 (.aload_n 1) 1 347 := ⟨by decide +kernel, rfl⟩
theorem aL_law_347 : At kL_law 347 (.aload_n 0) 1 348 := ⟨by decide +kernel, rfl⟩
theorem aL_law_348 : At kL_law 348 (.iload_n 3) 1 349 := ⟨by decide +kernel, rfl⟩
theorem aL_law_349 : At kL_law 349 (.iconst 1) 1 350 := ⟨by decide +kernel, rfl⟩
theorem aL_law_350 : At kL_law 350 (.iadd) 1 351 := ⟨by decide +kernel, rfl⟩
theorem aL_law_351 : At kL_law 351 (.iaload) 1 352 := ⟨by decide +kernel, rfl⟩
theorem aL_law_352 : At kL_law 352 (.invokevirtual 41) 3 355 := ⟨by decide +kernel, rfl⟩
theorem aL_law_355 : At kL_law 355 (.aload_n 2) 1 356 := ⟨by decide +kernel, rfl⟩
theorem aL_law_356 : At kL_law 356 (.aload_n 0) 1 357 := ⟨by decide +kernel, rfl⟩
theorem aL_law_357 : At kL_law 357 (.iload_n 3) 1 358 := ⟨by decide +kernel, rfl⟩
theorem aL_law_358 : At kL_law 358 (.iconst 1) 1 359 := ⟨by decide +kernel, rfl⟩
theorem aL_law_359 : At kL_law 359 (.iadd) 1 360 := ⟨by decide +kernel, rfl⟩
theorem aL_law_360 : At kL_law 360 (.iaload) 1 361 := ⟨by decide +kernel, rfl⟩
theorem aL_law_361 : At kL_law 361 (.invokevirtual 44) 3 364 := ⟨by decide +kernel, rfl⟩
theorem aL_law_364 : At kL_law 364 (.if_icmp .eq 411) 3 367 := ⟨by decide +kernel, rfl⟩
theorem aL_law_367 : At kL_law 367 (.iconst 0) 1 368 := ⟨by decide +kernel, rfl⟩
theorem aL_law_368 : At kL_law 368 (.ireturn) 1 369 := ⟨by decide +kernel, rfl⟩
theorem aL_law_369 : At kL_law 369 (.aload_n 1) 1 370 := ⟨by decide +kernel, rfl⟩
theorem aL_law_370 : At kL_law 370 (.invokevirtual 45) 3 373 := ⟨by decide +kernel, rfl⟩
theorem aL_law_373 : At kL_law 373 (.aload_n 2) 1 374 := ⟨by decide +kernel, rfl⟩
theorem aL_law_374 : At kL_law 374 (.invokevirtual 48) 3 377 := ⟨by decide +kernel, rfl⟩
theorem aL_law_377 : At kL_law 377 (.if_icmp .eq 398) 3 380 := ⟨by decide +kernel, rfl⟩
theorem aL_law_380 : At kL_law 380 (.iconst 0) 1 381 := ⟨by decide +kernel, rfl⟩
theorem aL_law_381 : At kL_law 381 (.ireturn) 1 382 := ⟨by decide +kernel, rfl⟩
theorem aL_law_382 : At kL_law 382 (.aload_n 1) 1 383 := ⟨by decide +kernel, rfl⟩
theorem aL_law_383 : At kL_law 383 (.aload_n 0) 1 384 := ⟨by decide +kernel, rfl⟩
theorem aL_law_384 : At kL_law 384 (.iload_n 3) 1 385 := ⟨by decide +kernel, rfl⟩
theorem aL_law_385 : At kL_law 385 (.iconst 1) 1 386 := ⟨by decide +kernel, rfl⟩
theorem aL_law_386 : At kL_law 386 (.iadd) 1 387 := ⟨by decide +kernel, rfl⟩
theorem aL_law_387 : At kL_law 387 (.iaload) 1 388 := ⟨by decide +kernel, rfl⟩
theorem aL_law_388 : At kL_law 388 (.invokevirtual 49) 3 391 := ⟨by decide +kernel, rfl⟩
theorem aL_law_391 : At kL_law 391 (.aload_n 2) 1 392 := ⟨by decide +kernel, rfl⟩
theorem aL_law_392 : At kL_law 392 (.aload_n 0) 1 393 := ⟨by decide +kernel, rfl⟩
theorem aL_law_393 : At kL_law 393 (.iload_n 3) 1 394 := ⟨by decide +kernel, rfl⟩
theorem aL_law_394 : At kL_law 394 (.iconst 1) 1 395 := ⟨by decide +kernel, rfl⟩
theorem aL_law_395 : At kL_law 395 (.iadd) 1 396 := ⟨by decide +kernel, rfl⟩
theorem aL_law_396 : At kL_law 396 (.iaload) 1 397 := ⟨by decide +kernel, rfl⟩
theorem aL_law_397 : At kL_law 397 (.invokevirtual 52) 3 400 := ⟨by decide +kernel, rfl⟩
theorem aL_law_400 : At kL_law 400 (.if_icmp .eq 375) 3 403 := ⟨by decide +kernel, rfl⟩
theorem aL_law_403 : At kL_law 403 (.iconst 0) 1 404 := ⟨by decide +kernel, rfl⟩
theorem aL_law_404 : At kL_law 404 (.ireturn) 1 405 := ⟨by decide +kernel, rfl⟩
theorem aL_law_405 : At kL_law 405 (.aload_n 1) 1 406 := ⟨by decide +kernel, rfl⟩
theorem aL_law_406 : At kL_law 406 (.invokevirtual 53) 3 409 := ⟨by decide +kernel, rfl⟩
theorem aL_law_409 : At kL_law 409 (.aload_n 2) 1 410 := ⟨by decide +kernel, rfl⟩
theorem aL_law_410 : At kL_law 410 (.invokevirtual 56) 3 413 := ⟨by decide +kernel, rfl⟩
theorem aL_law_413 : At kL_law 413 (.if_icmp .eq 362) 3 416 := ⟨by decide +kernel, rfl⟩
theorem aL_law_416 : At kL_law 416 (.iconst 0) 1 417 := ⟨by decide +kernel, rfl⟩
theorem aL_law_417 : At kL_law 417 (.ireturn) 1 418 := ⟨by decide +kernel, rfl⟩
theorem aL_law_418 : At kL_law 418 (.aload_n 1) 1 419 := ⟨by decide +kernel, rfl⟩
theorem aL_law_419 : At kL_law 419 (.aload_n 0) 1 420 := ⟨by decide +kernel, rfl⟩
theorem aL_law_420 : At kL_law 420 (.iload_n 3) 1 421 := ⟨by decide +kernel, rfl⟩
theorem aL_law_421 : At kL_law 421 (.iconst 1) 1 422 := ⟨by decide +kernel, rfl⟩
theorem aL_law_422 : At kL_law 422 (.iadd) 1 423 := ⟨by decide +kernel, rfl⟩
theorem aL_law_423 : At kL_law 423 (.iaload) 1 424 := ⟨by decide +kernel, rfl⟩
theorem aL_law_424 : At kL_law 424 (.invokevirtual 57) 3 427 := ⟨by decide +kernel, rfl⟩
theorem aL_law_427 : At kL_law 427 (.aload_n 2) 1 428 := ⟨by decide +kernel, rfl⟩
theorem aL_law_428 : At kL_law 428 (.aload_n 0) 1 429 := ⟨by decide +kernel, rfl⟩
theorem aL_law_429 : At kL_law 429 (.iload_n 3) 1 430 := ⟨by decide +kernel, rfl⟩
theorem aL_law_430 : At kL_law 430 (.iconst 1) 1 431 := ⟨by decide +kernel, rfl⟩
theorem aL_law_431 : At kL_law 431 (.iadd) 1 432 := ⟨by decide +kernel, rfl⟩
theorem aL_law_432 : At kL_law 432 (.iaload) 1 433 := ⟨by decide +kernel, rfl⟩
theorem aL_law_433 : At kL_law 433 (.invokevirtual 60) 3 436 := ⟨by decide +kernel, rfl⟩
theorem aL_law_436 : At kL_law 436 (.if_icmp .eq 339) 3 439 := ⟨by decide +kernel, rfl⟩
theorem aL_law_439 : At kL_law 439 (.iconst 0) 1 440 := ⟨by decide +kernel, rfl⟩
theorem aL_law_440 : At kL_law 440 (.ireturn) 1 441 := ⟨by decide +kernel, rfl⟩
theorem aL_law_441 : At kL_law 441 (.aload_n 1) 1 442 := ⟨by decide +kernel, rfl⟩
theorem aL_law_442 : At kL_law 442 (.invokevirtual 61) 3 445 := ⟨by decide +kernel, rfl⟩
theorem aL_law_445 : At kL_law 445 (.aload_n 2) 1 446 := ⟨by decide +kernel, rfl⟩
theorem aL_law_446 : At kL_law 446 (.invokevirtual 64) 3 449 := ⟨by decide +kernel, rfl⟩
theorem aL_law_449 : At kL_law 449 (.if_icmp .eq 326) 3 452 := ⟨by decide +kernel, rfl⟩
theorem aL_law_452 : At kL_law 452 (.iconst 0) 1 453 := ⟨by decide +kernel, rfl⟩
theorem aL_law_453 : At kL_law 453 (.ireturn) 1 454 := ⟨by decide +kernel, rfl⟩
theorem aL_law_454 : At kL_law 454 (.aload_n 1) 1 455 := ⟨by decide +kernel, rfl⟩
theorem aL_law_455 : At kL_law 455 (.aload_n 0) 1 456 := ⟨by decide +kernel, rfl⟩
theorem aL_law_456 : At kL_law 456 (.iload_n 3) 1 457 := ⟨by decide +kernel, rfl⟩
theorem aL_law_457 : At kL_law 457 (.iconst 1) 1 458 := ⟨by decide +kernel, rfl⟩
theorem aL_law_458 : At kL_law 458 (.iadd) 1 459 := ⟨by decide +kernel, rfl⟩
theorem aL_law_459 : At kL_law 459 (.iaload) 1 460 := ⟨by decide +kernel, rfl⟩
theorem aL_law_460 : At kL_law 460 (.i2c) 1 461 := ⟨by decide +kernel, rfl⟩
theorem aL_law_461 : At kL_law 461 (.invokevirtual 65) 3 464 := ⟨by decide +kernel, rfl⟩
theorem aL_law_464 : At kL_law 464 (.aload_n 2) 1 465 := ⟨by decide +kernel, rfl⟩
theorem aL_law_465 : At kL_law 465 (.aload_n 0) 1 466 := ⟨by decide +kernel, rfl⟩
theorem aL_law_466 : At kL_law 466 (.iload_n 3) 1 467 := ⟨by decide +kernel, rfl⟩
theorem aL_law_467 : At kL_law 467 (.iconst 1) 1 468 := ⟨by decide +kernel, rfl⟩
theorem aL_law_468 : At kL_law 468 (.iadd) 1 469 := ⟨by decide +kernel, rfl⟩
theorem aL_law_469 : At kL_law 469 (.iaload) 1 470 := ⟨by decide +kernel, rfl⟩
theorem aL_law_470 : At kL_law 470 (.i2c) 1 471 := ⟨by decide +kernel, rfl⟩
theorem aL_law_471 : At kL_law 471 (.invokevirtual 69) 3 474 := ⟨by decide +kernel, rfl⟩
theorem aL_law_474 : At kL_law 474 (.if_icmp .eq 301) 3 477 := ⟨by decide +kernel, rfl⟩
theorem aL_law_477 : At kL_law 477 (.iconst 0) 1 478 := ⟨by decide +kernel, rfl⟩
theorem aL_law_478 : At kL_law 478 (.ireturn) 1 479 := ⟨by decide +kernel, rfl⟩
theorem aL_law_479 : At kL_law 479 (.aload_n 1) 1 480 := ⟨by decide +kernel, rfl⟩
theorem aL_law_480 : At kL_law 480 (.invokevirtual 70) 3 483 := ⟨by decide +kernel, rfl⟩
theorem aL_law_483 : At kL_law 483 (.aload_n 2) 1 484 := ⟨by decide +kernel, rfl⟩
theorem aL_law_484 : At kL_law 484 (.invokevirtual 73) 3 487 := ⟨by decide +kernel, rfl⟩
theorem aL_law_487 : At kL_law 487 (.if_icmp .eq 288) 3 490 := ⟨by decide +kernel, rfl⟩
theorem aL_law_490 : At kL_law 490 (.iconst 0) 1 491 := ⟨by decide +kernel, rfl⟩
theorem aL_law_491 : At kL_law 491 (.ireturn) 1 492 := ⟨by decide +kernel, rfl⟩
theorem aL_law_492 : At kL_law 492 (.aload_n 1) 1 493 := ⟨by decide +kernel, rfl⟩
theorem aL_law_493 : At kL_law 493 (.invokevirtual 74) 3 496 := ⟨by decide +kernel, rfl⟩
theorem aL_law_496 : At kL_law 496 (.aload_n 2) 1 497 := ⟨by decide +kernel, rfl⟩
theorem aL_law_497 : At kL_law 497 (.invokevirtual 77) 3 500 := ⟨by decide +kernel, rfl⟩
theorem aL_law_500 : At kL_law 500 (.if_icmp .eq 275) 3 503 := ⟨by decide +kernel, rfl⟩
theorem aL_law_503 : At kL_law 503 (.iconst 0) 1 504 := ⟨by decide +kernel, rfl⟩
theorem aL_law_504 : At kL_law 504 (.ireturn) 1 505 := ⟨by decide +kernel, rfl⟩
theorem aL_law_505 : At kL_law 505 (.aload_n 1) 1 506 := ⟨by decide +kernel, rfl⟩
theorem aL_law_506 : At kL_law 506 (.invokevirtual 78) 3 509 := ⟨by decide +kernel, rfl⟩
theorem aL_law_509 : At kL_law 509 (.aload_n 2) 1 510 := ⟨by decide +kernel, rfl⟩
theorem aL_law_510 : At kL_law 510 (.invokevirtual 81) 3 513 := ⟨by decide +kernel, rfl⟩
theorem aL_law_513 : At kL_law 513 (.if_icmp .eq 262) 3 516 := ⟨by decide +kernel, rfl⟩
theorem aL_law_516 : At kL_law 516 (.iconst 0) 1 517 := ⟨by decide +kernel, rfl⟩
theorem aL_law_517 : At kL_law 517 (.ireturn) 1 518 := ⟨by decide +kernel, rfl⟩
theorem aL_law_518 : At kL_law 518 (.aload_n 1) 1 519 := ⟨by decide +kernel, rfl⟩
theorem aL_law_519 : At kL_law 519 (.invokevirtual 82) 3 522 := ⟨by decide +kernel, rfl⟩
theorem aL_law_522 : At kL_law 522 (.aload_n 2) 1 523 := ⟨by decide +kernel, rfl⟩
theorem aL_law_523 : At kL_law 523 (.invokevirtual 85) 3 526 := ⟨by decide +kernel, rfl⟩
theorem aL_law_526 : At kL_law 526 (.if_icmp .eq 249) 3 529 := ⟨by decide +kernel, rfl⟩
theorem aL_law_529 : At kL_law 529 (.iconst 0) 1 530 := ⟨by decide +kernel, rfl⟩
theorem aL_law_530 : At kL_law 530 (.ireturn) 1 531 := ⟨by decide +kernel, rfl⟩
theorem aL_law_531 : At kL_law 531 (.aload_n 1) 1 532 := ⟨by decide +kernel, rfl⟩
theorem aL_law_532 : At kL_law 532 (.aload_n 0) 1 533 := ⟨by decide +kernel, rfl⟩
theorem aL_law_533 : At kL_law 533 (.iload_n 3) 1 534 := ⟨by decide +kernel, rfl⟩
theorem aL_law_534 : At kL_law 534 (.iconst 1) 1 535 := ⟨by decide +kernel, rfl⟩
theorem aL_law_535 : At kL_law 535 (.iadd) 1 536 := ⟨by decide +kernel, rfl⟩
theorem aL_law_536 : At kL_law 536 (.iaload) 1 537 := ⟨by decide +kernel, rfl⟩
theorem aL_law_537 : At kL_law 537 (.aload_n 0) 1 538 := ⟨by decide +kernel, rfl⟩
theorem aL_law_538 : At kL_law 538 (.iload_n 3) 1 539 := ⟨by decide +kernel, rfl⟩
theorem aL_law_539 : At kL_law 539 (.iconst 2) 1 540 := ⟨by decide +kernel, rfl⟩
theorem aL_law_540 : At kL_law 540 (.iadd) 1 541 := ⟨by decide +kernel, rfl⟩
theorem aL_law_541 : At kL_law 541 (.iaload) 1 542 := ⟨by decide +kernel, rfl⟩
theorem aL_law_542 : At kL_law 542 (.invokevirtual 86) 3 545 := ⟨by decide +kernel, rfl⟩
theorem aL_law_545 : At kL_law 545 (.aload_n 2) 1 546 := ⟨by decide +kernel, rfl⟩
theorem aL_law_546 : At kL_law 546 (.aload_n 0) 1 547 := ⟨by decide +kernel, rfl⟩
theorem aL_law_547 : At kL_law 547 (.iload_n 3) 1 548 := ⟨by decide +kernel, rfl⟩
theorem aL_law_548 : At kL_law 548 (.iconst 1) 1 549 := ⟨by decide +kernel, rfl⟩
theorem aL_law_549 : At kL_law 549 (.iadd) 1 550 := ⟨by decide +kernel, rfl⟩
theorem aL_law_550 : At kL_law 550 (.iaload) 1 551 := ⟨by decide +kernel, rfl⟩
theorem aL_law_551 : At kL_law 551 (.aload_n 0) 1 552 := ⟨by decide +kernel, rfl⟩
theorem aL_law_552 : At kL_law 552 (.iload_n 3) 1 553 := ⟨by decide +kernel, rfl⟩
theorem aL_law_553 : At kL_law 553 (.iconst 2) 1 554 := ⟨by decide +kernel, rfl⟩
theorem aL_law_554 : At kL_law 554 (.iadd) 1 555 := ⟨by decide +kernel, rfl⟩
theorem aL_law_555 : At kL_law 555 (.iaload) 1 556 := ⟨by decide +kernel, rfl⟩
theorem aL_law_556 : At kL_law 556 (.invokevirtual 89) 3 559 := ⟨by decide +kernel, rfl⟩
theorem aL_law_559 : At kL_law 559 (.if_icmp .eq 216) 3 562 := ⟨by decide +kernel, rfl⟩
theorem aL_law_562 : At kL_law 562 (.iconst 0) 1 563 := ⟨by decide +kernel, rfl⟩
theorem aL_law_563 : At kL_law 563 (.ireturn) 1 564 := ⟨by decide +kernel, rfl⟩
theorem aL_law_564 : At kL_law 564 (.aload_n 1) 1 565 := ⟨by decide +kernel, rfl⟩
theorem aL_law_565 : At kL_law 565 (.aload_n 0) 1 566 := ⟨by decide +kernel, rfl⟩
theorem aL_law_566 : At kL_law 566 (.iload_n 3) 1 567 := ⟨by decide +kernel, rfl⟩
theorem aL_law_567 : At kL_law 567 (.iconst 1) 1 568 := ⟨by decide +kernel, rfl⟩
theorem aL_law_568 : At kL_law 568 (.iadd) 1 569 := ⟨by decide +kernel, rfl⟩
theorem aL_law_569 : At kL_law 569 (.iaload) 1 570 := ⟨by decide +kernel, rfl⟩
theorem aL_law_570 : At kL_law 570 (.aload_n 0) 1 571 := ⟨by decide +kernel, rfl⟩
theorem aL_law_571 : At kL_law 571 (.iload_n 3) 1 572 := ⟨by decide +kernel, rfl⟩
theorem aL_law_572 : At kL_law 572 (.iconst 2) 1 573 := ⟨by decide +kernel, rfl⟩
theorem aL_law_573 : At kL_law 573 (.iadd) 1 574 := ⟨by decide +kernel, rfl⟩
theorem aL_law_574 : At kL_law 574 (.iaload) 1 575 := ⟨by decide +kernel, rfl⟩
theorem aL_law_575 : At kL_law 575 (.invokevirtual 90) 3 578 := ⟨by decide +kernel, rfl⟩
theorem aL_law_578 : At kL_law 578 (.aload_n 2) 1 579 := ⟨by decide +kernel, rfl⟩
theorem aL_law_579 : At kL_law 579 (.aload_n 0) 1 580 := ⟨by decide +kernel, rfl⟩
theorem aL_law_580 : At kL_law 580 (.iload_n 3) 1 581 := ⟨by decide +kernel, rfl⟩
theorem aL_law_581 : At kL_law 581 (.iconst 1) 1 582 := ⟨by decide +kernel, rfl⟩
theorem aL_law_582 : At kL_law 582 (.iadd) 1 583 := ⟨by decide +kernel, rfl⟩
theorem aL_law_583 : At kL_law 583 (.iaload) 1 584 := ⟨by decide +kernel, rfl⟩
theorem aL_law_584 : At kL_law 584 (.aload_n 0) 1 585 := ⟨by decide +kernel, rfl⟩
theorem aL_law_585 : At kL_law 585 (.iload_n 3) 1 586 := ⟨by decide +kernel, rfl⟩
theorem aL_law_586 : At kL_law 586 (.iconst 2) 1 587 := ⟨by decide +kernel, rfl⟩
theorem aL_law_587 : At kL_law 587 (.iadd) 1 588 := ⟨by decide +kernel, rfl⟩
theorem aL_law_588 : At kL_law 588 (.iaload) 1 589 := ⟨by decide +kernel, rfl⟩
theorem aL_law_589 : At kL_law 589 (.invokevirtual 93) 3 592 := ⟨by decide +kernel, rfl⟩
theorem aL_law_592 : At kL_law 592 (.if_icmp .eq 183) 3 595 := ⟨by decide +kernel, rfl⟩
theorem aL_law_595 : At kL_law 595 (.iconst 0) 1 596 := ⟨by decide +kernel, rfl⟩
theorem aL_law_596 : At kL_law 596 (.ireturn) 1 597 := ⟨by decide +kernel, rfl⟩
theorem aL_law_597 : At kL_law 597 (.aload_n 1) 1 598 := ⟨by decide +kernel, rfl⟩
theorem aL_law_598 : At kL_law 598 (.aload_n 0) 1 599 := ⟨by decide +kernel, rfl⟩
theorem aL_law_599 : At kL_law 599 (.iload_n 3) 1 600 := ⟨by decide +kernel, rfl⟩
theorem aL_law_600 : At kL_law 600 (.iconst 1) 1 601 := ⟨by decide +kernel, rfl⟩
theorem aL_law_601 : At kL_law 601 (.iadd) 1 602 := ⟨by decide +kernel, rfl⟩
theorem aL_law_602 : At kL_law 602 (.iaload) 1 603 := ⟨by decide +kernel, rfl⟩
theorem aL_law_603 : At kL_law 603 (.aload_n 0) 1 604 := ⟨by decide +kernel, rfl⟩
theorem aL_law_604 : At kL_law 604 (.iload_n 3) 1 605 := ⟨by decide +kernel, rfl⟩
theorem aL_law_605 : At kL_law 605 (.iconst 2) 1 606 := ⟨by decide +kernel, rfl⟩
theorem aL_law_606 : At kL_law 606 (.iadd) 1 607 := ⟨by decide +kernel, rfl⟩
theorem aL_law_607 : At kL_law 607 (.iaload) 1 608 := ⟨by decide +kernel, rfl⟩
theorem aL_law_608 : At kL_law 608 (.invokevirtual 94) 3 611 := ⟨by decide +kernel, rfl⟩
theorem aL_law_611 : At kL_law 611 (.aload_n 2) 1 612 := ⟨by decide +kernel, rfl⟩
theorem aL_law_612 : At kL_law 612 (.aload_n 0) 1 613 := ⟨by decide +kernel, rfl⟩
theorem aL_law_613 : At kL_law 613 (.iload_n 3) 1 614 := ⟨by decide +kernel, rfl⟩
theorem aL_law_614 : At kL_law 614 (.iconst 1) 1 615 := ⟨by decide +kernel, rfl⟩
theorem aL_law_615 : At kL_law 615 (.iadd) 1 616 := ⟨by decide +kernel, rfl⟩
theorem aL_law_616 : At kL_law 616 (.iaload) 1 617 := ⟨by decide +kernel, rfl⟩
theorem aL_law_617 : At kL_law 617 (.aload_n 0) 1 618 := ⟨by decide +kernel, rfl⟩
theorem aL_law_618 : At kL_law 618 (.iload_n 3) 1 619 := ⟨by decide +kernel, rfl⟩
theorem aL_law_619 : At kL_law 619 (.iconst 2) 1 620 := ⟨by decide +kernel, rfl⟩
theorem aL_law_620 : At kL_law 620 (.iadd) 1 621 := ⟨by decide +kernel, rfl⟩
theorem aL_law_621 : At kL_law 621 (.iaload) 1 622 := ⟨by decide +kernel, rfl⟩
theorem aL_law_622 : At kL_law 622 (.invokevirtual 97) 3 625 := ⟨by decide +kernel, rfl⟩
theorem aL_law_625 : At kL_law 625 (.if_icmp .eq 150) 3 628 := ⟨by decide +kernel, rfl⟩
theorem aL_law_628 : At kL_law 628 (.iconst 0) 1 629 := ⟨by decide +kernel, rfl⟩
theorem aL_law_629 : At kL_law 629 (.ireturn) 1 630 := ⟨by decide +kernel, rfl⟩
theorem aL_law_630 : At kL_law 630 (.aload_n 1) 1 631 := ⟨by decide +kernel, rfl⟩
theorem aL_law_631 : At kL_law 631 (.aload_n 0) 1 632 := ⟨by decide +kernel, rfl⟩
theorem aL_law_632 : At kL_law 632 (.iload_n 3) 1 633 := ⟨by decide +kernel, rfl⟩
theorem aL_law_633 : At kL_law 633 (.iconst 1) 1 634 := ⟨by decide +kernel, rfl⟩
theorem aL_law_634 : At kL_law 634 (.iadd) 1 635 := ⟨by decide +kernel, rfl⟩
theorem aL_law_635 : At kL_law 635 (.iaload) 1 636 := ⟨by decide +kernel, rfl⟩
theorem aL_law_636 : At kL_law 636 (.aload_n 0) 1 637 := ⟨by decide +kernel, rfl⟩
theorem aL_law_637 : At kL_law 637 (.iload_n 3) 1 638 := ⟨by decide +kernel, rfl⟩
theorem aL_law_638 : At kL_law 638 (.iconst 2) 1 639 := ⟨by decide +kernel, rfl⟩
theorem aL_law_639 : At kL_law 639 (.iadd) 1 640 := ⟨by decide +kernel, rfl⟩
theorem aL_law_640 : At kL_law 640 (.iaload) 1 641 := ⟨by decide +kernel, rfl⟩
theorem aL_law_641 : At kL_law 641 (.invokevirtual 98) 3 644 := ⟨by decide +kernel, rfl⟩
theorem aL_law_644 : At kL_law 644 (.aload_n 2) 1 645 := ⟨by decide +kernel, rfl⟩
theorem aL_law_645 : At kL_law 645 (.aload_n 0) 1 646 := ⟨by decide +kernel, rfl⟩
theorem aL_law_646 : At kL_law 646 (.iload_n 3) 1 647 := ⟨by decide +kernel, rfl⟩
theorem aL_law_647 : At kL_law 647 (.iconst 1) 1 648 := ⟨by decide +kernel, rfl⟩
theorem aL_law_648 : At kL_law 648 (.iadd) 1 649 := ⟨by decide +kernel, rfl⟩
theorem aL_law_649 : At kL_law 649 (.iaload) 1 650 := ⟨by decide +kernel, rfl⟩
theorem aL_law_650 : At kL_law 650 (.aload_n 0) 1 651 := ⟨by decide +kernel, rfl⟩
theorem aL_law_651 : At kL_law 651 (.iload_n 3) 1 652 := ⟨by decide +kernel, rfl⟩
theorem aL_law_652 : At kL_law 652 (.iconst 2) 1 653 := ⟨by decide +kernel, rfl⟩
theorem aL_law_653 : At kL_law 653 (.iadd) 1 654 := ⟨by decide +kernel, rfl⟩
theorem aL_law_654 : At kL_law 654 (.iaload) 1 655 := ⟨by decide +kernel, rfl⟩
theorem aL_law_655 : At kL_law 655 (.invokevirtual 101) 3 658 := ⟨by decide +kernel, rfl⟩
theorem aL_law_658 : At kL_law 658 (.if_icmp .eq 117) 3 661 := ⟨by decide +kernel, rfl⟩
theorem aL_law_661 : At kL_law 661 (.iconst 0) 1 662 := ⟨by decide +kernel, rfl⟩
theorem aL_law_662 : At kL_law 662 (.ireturn) 1 663 := ⟨by decide +kernel, rfl⟩
theorem aL_law_663 : At kL_law 663 (.aload_n 1) 1 664 := ⟨by decide +kernel, rfl⟩
theorem aL_law_664 : At kL_law 664 (.aload_n 0) 1 665 := ⟨by decide +kernel, rfl⟩
theorem aL_law_665 : At kL_law 665 (.iload_n 3) 1 666 := ⟨by decide +kernel, rfl⟩
theorem aL_law_666 : At kL_law 666 (.iconst 1) 1 667 := ⟨by decide +kernel, rfl⟩
theorem aL_law_667 : At kL_law 667 (.iadd) 1 668 := ⟨by decide +kernel, rfl⟩
theorem aL_law_668 : At kL_law 668 (.iaload) 1 669 := ⟨by decide +kernel, rfl⟩
theorem aL_law_669 : At kL_law 669 (.aload_n 0) 1 670 := ⟨by decide +kernel, rfl⟩
theorem aL_law_670 : At kL_law 670 (.iload_n 3) 1 671 := ⟨by decide +kernel, rfl⟩
theorem aL_law_671 : At kL_law 671 (.iconst 2) 1 672 := ⟨by decide +kernel, rfl⟩
theorem aL_law_672 : At kL_law 672 (.iadd) 1 673 := ⟨by decide +kernel, rfl⟩
theorem aL_law_673 : At kL_law 673 (.iaload) 1 674 := ⟨by decide +kernel, rfl⟩
theorem aL_law_674 : At kL_law 674 (.aload_n 0) 1 675 := ⟨by decide +kernel, rfl⟩
theorem aL_law_675 : At kL_law 675 (.iload_n 3) 1 676 := ⟨by decide +kernel, rfl⟩
theorem aL_law_676 : At kL_law 676 (.iconst 3) 1 677 := ⟨by decide +kernel, rfl⟩
theorem aL_law_677 : At kL_law 677 (.iadd) 1 678 := ⟨by decide +kernel, rfl⟩
theorem aL_law_678 : At kL_law 678 (.iaload) 1 679 := ⟨by decide +kernel, rfl⟩
theorem aL_law_679 : At kL_law 679 (.invokevirtual 102) 3 682 := ⟨by decide +kernel, rfl⟩
theorem aL_law_682 : At kL_law 682 (.aload_n 2) 1 683 := ⟨by decide +kernel, rfl⟩
theorem aL_law_683 : At kL_law 683 (.aload_n 0) 1 684 := ⟨by decide +kernel, rfl⟩
theorem aL_law_684 : At kL_law 684 (.iload_n 3) 1 685 := ⟨by decide +kernel, rfl⟩
theorem aL_law_685 : At kL_law 685 (.iconst 1) 1 686 := ⟨by decide +kernel, rfl⟩
theorem aL_law_686 : At kL_law 686 (.iadd) 1 687 := ⟨by decide +kernel, rfl⟩
theorem aL_law_687 : At kL_law 687 (.iaload) 1 688 := ⟨by decide +kernel, rfl⟩
theorem aL_law_688 : At kL_law 688 (.aload_n 0) 1 689 := ⟨by decide +kernel, rfl⟩
theorem aL_law_689 : At kL_law 689 (.iload_n 3) 1 690 := ⟨by decide +kernel, rfl⟩
theorem aL_law_690 : At kL_law 690 (.iconst 2) 1 691 := ⟨by decide +kernel, rfl⟩
theorem aL_law_691 : At kL_law 691 (.iadd) 1 692 := ⟨by decide +kernel, rfl⟩
theorem aL_law_692 : At kL_law 692 (.iaload) 1 693 := ⟨by decide +kernel, rfl⟩
theorem aL_law_693 : At kL_law 693 (.aload_n 0) 1 694 := ⟨by decide +kernel, rfl⟩
theorem aL_law_694 : At kL_law 694 (.iload_n 3) 1 695 := ⟨by decide +kernel, rfl⟩
theorem aL_law_695 : At kL_law 695 (.iconst 3) 1 696 := ⟨by decide +kernel, rfl⟩
theorem aL_law_696 : At kL_law 696 (.iadd) 1 697 := ⟨by decide +kernel, rfl⟩
theorem aL_law_697 : At kL_law 697 (.iaload) 1 698 := ⟨by decide +kernel, rfl⟩
theorem aL_law_698 : At kL_law 698 (.invokevirtual 106) 3 701 := ⟨by decide +kernel, rfl⟩
theorem aL_law_701 : At kL_law 701 (.if_icmp .eq 74) 3 704 := ⟨by decide +kernel, rfl⟩
theorem aL_law_704 : At kL_law 704 (.iconst 0) 1 705 := ⟨by decide +kernel, rfl⟩
theorem aL_law_705 : At kL_law 705 (.ireturn) 1 706 := ⟨by decide +kernel, rfl⟩
theorem aL_law_706 : At kL_law 706 (.aload_n 1) 1 707 := ⟨by decide +kernel, rfl⟩
theorem aL_law_707 : At kL_law 707 (.aload_n 0) 1 708 := ⟨by decide +kernel, rfl⟩
theorem aL_law_708 : At kL_law 708 (.iload_n 3) 1 709 := ⟨by decide +kernel, rfl⟩
theorem aL_law_709 : At kL_law 709 (.iconst 1) 1 710 := ⟨by decide +kernel, rfl⟩
theorem aL_law_710 : At kL_law 710 (.iadd) 1 711 := ⟨by decide +kernel, rfl⟩
theorem aL_law_711 : At kL_law 711 (.iaload) 1 712 := ⟨by decide +kernel, rfl⟩
theorem aL_law_712 : At kL_law 712 (.aload_n 0) 1 713 := ⟨by decide +kernel, rfl⟩
theorem aL_law_713 : At kL_law 713 (.iload_n 3) 1 714 := ⟨by decide +kernel, rfl⟩
theorem aL_law_714 : At kL_law 714 (.iconst 2) 1 715 := ⟨by decide +kernel, rfl⟩
theorem aL_law_715 : At kL_law 715 (.iadd) 1 716 := ⟨by decide +kernel, rfl⟩
theorem aL_law_716 : At kL_law 716 (.iaload) 1 717 := ⟨by decide +kernel, rfl⟩
theorem aL_law_717 : At kL_law 717 (.invokevirtual 107) 3 720 := ⟨by decide +kernel, rfl⟩
theorem aL_law_720 : At kL_law 720 (.aload_n 2) 1 721 := ⟨by decide +kernel, rfl⟩
theorem aL_law_721 : At kL_law 721 (.aload_n 0) 1 722 := ⟨by decide +kernel, rfl⟩
theorem aL_law_722 : At kL_law 722 (.iload_n 3) 1 723 := ⟨by decide +kernel, rfl⟩
theorem aL_law_723 : At kL_law 723 (.iconst 1) 1 724 := ⟨by decide +kernel, rfl⟩
theorem aL_law_724 : At kL_law 724 (.iadd) 1 725 := ⟨by decide +kernel, rfl⟩
theorem aL_law_725 : At kL_law 725 (.iaload) 1 726 := ⟨by decide +kernel, rfl⟩
theorem aL_law_726 : At kL_law 726 (.aload_n 0) 1 727 := ⟨by decide +kernel, rfl⟩
theorem aL_law_727 : At kL_law 727 (.iload_n 3) 1 728 := ⟨by decide +kernel, rfl⟩
theorem aL_law_728 : At kL_law 728 (.iconst 2) 1 729 := ⟨by decide +kernel, rfl⟩
theorem aL_law_729 : At kL_law 729 (.iadd) 1 730 := ⟨by decide +kernel, rfl⟩
theorem aL_law_730 : At kL_law 730 (.iaload) 1 731 := ⟨by decide +kernel, rfl⟩
theorem aL_law_731 : At kL_law 731 (.invokevirtual 110) 3 734 := ⟨by decide +kernel, rfl⟩
theorem aL_law_734 : At kL_law 734 (.if_icmp .eq 41) 3 737 := ⟨by decide +kernel, rfl⟩
theorem aL_law_737 : At kL_law 737 (.iconst 0) 1 738 := ⟨by decide +kernel, rfl⟩
theorem aL_law_738 : At kL_law 738 (.ireturn) 1 739 := ⟨by decide +kernel, rfl⟩
theorem aL_law_739 : At kL_law 739 (.aload_n 1) 1 740 := ⟨by decide +kernel, rfl⟩
theorem aL_law_740 : At kL_law 740 (.invokevirtual 111) 3 743 := ⟨by decide +kernel, rfl⟩
theorem aL_law_743 : At kL_law 743 (.aload_n 2) 1 744 := ⟨by decide +kernel, rfl⟩
theorem aL_law_744 : At kL_law 744 (.invokevirtual 114) 3 747 := ⟨by decide +kernel, rfl⟩
theorem aL_law_747 : At kL_law 747 (.if_icmp .eq 28) 3 750 := ⟨by decide +kernel, rfl⟩
theorem aL_law_750 : At kL_law 750 (.iconst 0) 1 751 := ⟨by decide +kernel, rfl⟩
theorem aL_law_751 : At kL_law 751 (.ireturn) 1 752 := ⟨by decide +kernel, rfl⟩
theorem aL_law_752 : At kL_law 752 (.aload_n 1) 1 753 := ⟨by decide +kernel, rfl⟩
theorem aL_law_753 : At kL_law 753 (.aload_n 0) 1 754 := ⟨by decide +kernel, rfl⟩
theorem aL_law_754 : At kL_law 754 (.iload_n 3) 1 755 := ⟨by decide +kernel, rfl⟩
theorem aL_law_755 : At kL_law 755 (.iconst 1) 1 756 := ⟨by decide +kernel, rfl⟩
theorem aL_law_756 : At kL_law 756 (.iadd) 1 757 := ⟨by decide +kernel, rfl⟩
theorem aL_law_757 : At kL_law 757 (.iaload) 1 758 := ⟨by decide +kernel, rfl⟩
theorem aL_law_758 : At kL_law 758 (.invokevirtual 115) 3 761 := ⟨by decide +kernel, rfl⟩
theorem aL_law_761 : At kL_law 761 (.aload_n 2) 1 762 := ⟨by decide +kernel, rfl⟩
theorem aL_law_762 : At kL_law 762 (.aload_n 0) 1 763 := ⟨by decide +kernel, rfl⟩
theorem aL_law_763 : At kL_law 763 (.iload_n 3) 1 764 := ⟨by decide +kernel, rfl⟩
theorem aL_law_764 : At kL_law 764 (.iconst 1) 1 765 := ⟨by decide +kernel, rfl⟩
theorem aL_law_765 : At kL_law 765 (.iadd) 1 766 := ⟨by decide +kernel, rfl⟩
theorem aL_law_766 : At kL_law 766 (.iaload) 1 767 := ⟨by decide +kernel, rfl⟩
theorem aL_law_767 : At kL_law 767 (.invokevirtual 118) 3 770 := ⟨by decide +kernel, rfl⟩
theorem aL_law_770 : At kL_law 770 (.if_icmp .eq 5) 3 773 := ⟨by decide +kernel, rfl⟩
theorem aL_law_773 : At kL_law 773 (.iconst 0) 1 774 := ⟨by decide +kernel, rfl⟩
theorem aL_law_774 : At kL_law 774 (.ireturn) 1 775 := ⟨by decide +kernel, rfl⟩
theorem aL_law_775 : At kL_law 775 (.iinc 3 5) 3 778 := ⟨by decide +kernel, rfl⟩
theorem aL_law_778 : At kL_law 778 (.goto (-760)) 3 781 := ⟨by decide +kernel, rfl⟩
theorem aL_law_781 : At kL_law 781 (.iconst 1) 1 782 := ⟨by decide +kernel, rfl⟩
theorem aL_law_782 : At kL_law 782 (.ireturn) 1 783 := ⟨by decide +kernel, rfl⟩
end
section
-- the world as whole numbers: values, cells, memories
abbrev AV : Type := Int ⊕ Option Nat
def toV : AV → Value
  | .inl z => .int (Int32.ofInt z)
  | .inr none => .null
  | .inr (some a) => .ref a
abbrev inR (z : Int) : Prop := -2147483648 ≤ z ∧ z < 2147483648
def wfv : AV → Prop
  | .inl z => inR z
  | .inr _ => True
abbrev AC : Type := (Nat × List AV) ⊕ (Nat × Nat × (Int → Int)) ⊕ (Nat × Nat × (Int → Option Nat)) ⊕ Unit
def obj (ci : Nat) (fs : List AV) : AC := .inl (ci, fs)
def iar (n : Nat) (f : Int → Int) : AC := .inr (.inl (0, n, f))
def car (n : Nat) (f : Int → Int) : AC := .inr (.inl (1, n, f))
def fiar (n : Nat) (f : Int → Int) : AC := .inr (.inl (2, n, f))
def rar (ci n : Nat) (g : Int → Option Nat) : AC := .inr (.inr (.inl (ci, n, g)))
def unk : AC := .inr (.inr (.inr ()))
abbrev Mem : Type := Nat → AC
def upM (m : Mem) (a : Nat) (c : AC) : Mem := fun q => if q = a then c else m q
theorem upM_s {m : Mem} {a : Nat} {c : AC} : upM m a c a = c := if_pos rfl
theorem upM_n {m : Mem} {a q : Nat} {c : AC} (h : q ≠ a) : upM m a c q = m q := if_neg h
def upI {α : Type} (f : Int → α) (k : Int) (x : α) : Int → α := fun j => if j = k then x else f j
theorem upI_s {α : Type} {f : Int → α} {k : Int} {x : α} : upI f k x k = x := if_pos rfl
theorem upI_n {α : Type} {f : Int → α} {k j : Int} {x : α} (h : j ≠ k) : upI f k x j = f j := if_neg h
def rcl (ci : Nat) : String := match vwCl[ci]? with
  | some q => q.1
  | none => ""
abbrev GX : Type := Launch × va_G × Nat × Nat
abbrev Afr (G : GX) : Nat → Prop := fun q => G.2.2.1 ≤ q
def ity (t : Nat) : FieldType := if t = 1 then .char else .int
def hOK (G : GX) (s : State) (H : Heap) (a : Nat) : AC → Prop
  | .inl (ci, fs) => G.2.2.1 ≤ a ∧ (∀ v ∈ fs, wfv v) ∧ va_at G.2.1 vwCl (a, .inr (ci, fs.map toV)) H
  | .inr (.inl (t, n, f)) => (G.2.2.1 ≤ a ∨ n = 0 ∨ t = 2) ∧ (∀ k : Int, 0 ≤ k → k < n → inR (f k) ∧ (t = 1 → 0 ≤ f k ∧ f k < 65536)) ∧ ∃ cA : ClassId, ArrOfT s cA (ity t) ∧ va_RA s cA (ity t) ∧ H[a]? = some (arrV cA n (fun j => .int (Int32.ofInt (f (j : Int)))))
  | .inr (.inr (.inl (ci, n, g))) => G.2.2.1 ≤ a ∧ ∃ cA : ClassId, ArrOfT s cA (.object (rcl ci)) ∧ va_RA s cA (.object (rcl ci)) ∧ H[a]? = some (arrV cA n (fun j => va_rf (g (j : Int))))
  | .inr (.inr (.inr _)) => True
def Rel (G : GX) (s : State) (H : Heap) (sz : Nat) (m : Mem) : Prop := H.size = sz ∧ G.2.2.1 ≤ sz ∧ ∀ a, hOK G s H a (m a)
def base (G : GX) (s : State) : Prop :=
  va_K G.2.1 vwCl [] s ∧ va_Z "PictureLog" "NO_VALUES" "[I" (.ref G.2.2.2) (Afr G) s s.heap ∧
  va_Nw (.fieldLinkNest RX0 42 "PictureLog" "NO_VALUES" "[I" RX5) s ∧ va_Nw (.methodLinkNest RX4 19 yX1_init RX5) s ∧ va_Nw (.methodLinkNest RX4 28 yX2_init RX5) s ∧
  va_Nw (.castable "[I" "java/lang/Cloneable") s ∧ va_AO RX2 s ∧ va_AO RX0 s ∧ va_AO RX4 s
theorem hOK.moved {G : GX} {s U : State} {H : Heap} {a : Nat} {c : AC} (hvm : s.vm.Alike U.vm) (h : hOK G s H a c) : hOK G U H a c := by
  rcases c with ⟨ci, fs⟩ | ⟨t, n, f⟩ | ⟨ci, n, g⟩ | u
  · exact h
  · obtain ⟨h1, h2, cA, h3, h4, h5⟩ := h
    exact ⟨h1, h2, cA, arrOfT_moved hvm h3, h4.moved hvm, h5⟩
  · obtain ⟨h1, cA, h3, h4, h5⟩ := h
    exact ⟨h1, cA, arrOfT_moved hvm h3, h4.moved hvm, h5⟩
  · trivial
theorem hOK.kept {G : GX} {s : State} {H H1 : Heap} {a : Nat} {c : AC} (hq : H1[a]? = H[a]?) (h : hOK G s H a c) : hOK G s H1 a c := by
  rcases c with ⟨ci, fs⟩ | ⟨t, n, f⟩ | ⟨ci, n, g⟩ | u
  · exact ⟨h.1, h.2.1, h.2.2.kept hq⟩
  · obtain ⟨h1, h2, cA, h3, h4, h5⟩ := h
    exact ⟨h1, h2, cA, h3, h4, hq.trans h5⟩
  · obtain ⟨h1, cA, h3, h4, h5⟩ := h
    exact ⟨h1, cA, h3, h4, hq.trans h5⟩
  · trivial
theorem hOK.lt {G : GX} {s : State} {H : Heap} {a : Nat} {c : AC} (hc : c ≠ unk) (h : hOK G s H a c) : a < H.size := by
  rcases c with ⟨ci, fs⟩ | ⟨t, n, f⟩ | ⟨ci, n, g⟩ | u
  · exact h.2.2.lt
  · obtain ⟨h1, h2, cA, h3, h4, h5⟩ := h
    exact (Array.getElem?_eq_some_iff.mp h5).1
  · obtain ⟨h1, cA, h3, h4, h5⟩ := h
    exact (Array.getElem?_eq_some_iff.mp h5).1
  · exact absurd rfl hc
theorem Rel.moved {G : GX} {s U : State} {H : Heap} {sz : Nat} {m : Mem} (hvm : s.vm.Alike U.vm) (h : Rel G s H sz m) : Rel G U H sz m := ⟨h.1, h.2.1, fun a => (h.2.2 a).moved hvm⟩
theorem Rel.set {G : GX} {s : State} {H H1 : Heap} {sz : Nat} {m : Mem} {a : Nat} {c : AC} (h : Rel G s H sz m) (z : H1.size = H.size) (oq : ∀ q : Nat, q ≠ a → H1[q]? = H[q]?) (hc : hOK G s H1 a c) : Rel G s H1 sz (upM m a c) := by
  refine ⟨z.trans h.1, h.2.1, fun q => ?_⟩
  by_cases hq : q = a
  · subst hq
    rw [upM_s]
    exact hc
  · rw [upM_n hq]
    exact (h.2.2 q).kept (oq q hq)
theorem Rel.push {G : GX} {s : State} {H H1 : Heap} {sz : Nat} {m : Mem} {c : AC} (h : Rel G s H sz m) (z : H1.size = sz + 1) (oq : ∀ q : Nat, q < sz → H1[q]? = H[q]?) (hc : hOK G s H1 sz c) : Rel G s H1 (sz + 1) (upM m sz c) := by
  refine ⟨z, Nat.le_succ_of_le h.2.1, fun q => ?_⟩
  by_cases hq : q = sz
  · subst hq
    rw [upM_s]
    exact hc
  · rw [upM_n hq]
    by_cases hu : m q = unk
    · rw [hu]
      trivial
    · have hlt := (h.2.2 q).lt hu
      rw [h.1] at hlt
      exact (h.2.2 q).kept (oq q hlt)
theorem base.moved {G : GX} {s U : State} {locs : List Loc} (hW : s.WarmedH U.vm) (hS : va_S (Afr G) s.heap U.heap locs) (h : base G s) : base G U := by
  obtain ⟨h1, h2, h3, h4, h5, h6, h7, h8, h9⟩ := h
  exact ⟨va_K.moved hW.alike h1, (va_Z.moved hW.alike h2).kept (fun a h1 h2 => hS.2.1 a h1 h2), h3.warmF hW, h4.warmM hW, h5.warmM hW, h6.warmC hW, h7.moved hW.alike, h8.moved hW.alike, h9.moved hW.alike⟩
theorem base.same {G : GX} {u U : State} (hv : u.vm = U.vm) (hh : u.heap = U.heap) (h : base G u) : base G U := by
  obtain ⟨h1, h2, h3, h4, h5, h6, h7, h8, h9⟩ := h
  have ha : u.vm.Alike U.vm := by rw [hv]; exact Vm.Alike.refl U.vm
  exact ⟨va_K.moved ha h1, by rw [← hh]; exact va_Z.moved ha h2, h3.same rfl hv, h4.same rfl hv, h5.same rfl hv, h6.same rfl hv, h7.moved ha, h8.moved ha, h9.moved ha⟩
-- locals
def lvl : Nat → List (Option AV) → List (Nat × Value)
  | _, [] => []
  | i, none :: t => lvl (i + 1) t
  | i, some v :: t => (i, toV v) :: lvl (i + 1) t
theorem mem_lvl {q : Nat × Value} : ∀ (L : List (Option AV)) (i : Nat), q ∈ lvl i L ↔ ∃ (j : Nat) (v : AV), L[j]? = some (some v) ∧ q = (i + j, toV v)
  | [], i => by simp [lvl]
  | none :: t, i => by
    rw [lvl, mem_lvl t (i + 1)]
    constructor
    · rintro ⟨j, v, h1, h2⟩
      exact ⟨j + 1, v, by simpa using h1, by rw [h2]; congr 1; omega⟩
    · rintro ⟨j, v, h1, h2⟩
      cases j with
      | zero => simp at h1
      | succ j => exact ⟨j, v, by simpa using h1, by rw [h2]; congr 1; omega⟩
  | some w :: t, i => by
    rw [lvl, List.mem_cons, mem_lvl t (i + 1)]
    constructor
    · rintro (h | ⟨j, v, h1, h2⟩)
      · exact ⟨0, w, rfl, h⟩
      · exact ⟨j + 1, v, by simpa using h1, by rw [h2]; congr 1; omega⟩
    · rintro ⟨j, v, h1, h2⟩
      cases j with
      | zero =>
        left
        simp at h1
        rw [h2, h1]
        rfl
      | succ j => exact Or.inr ⟨j, v, by simpa using h1, by rw [h2]; congr 1; omega⟩
def LV (ls : Array Slot) (nL : Nat) (L : List (Option AV)) : Prop := L.length = nL ∧ lv_has ls nL (lvl 0 L)
theorem LV.at {ls : Array Slot} {nL : Nat} {L : List (Option AV)} (h : LV ls nL L) {i : Nat} {v : AV} (hi : L[i]? = some (some v)) : ls[i]? = some (.val (toV v)) := by
  have := h.2.2.2 (0 + i, toV v) ((mem_lvl L 0).mpr ⟨i, v, hi, rfl⟩)
  rwa [Nat.zero_add] at this
theorem toV_cat (v : AV) : (toV v).category = 1 := by
  rcases v with z | _ | a <;> rfl
theorem LV.set {ls ls' : Array Slot} {nL : Nat} {L : List (Option AV)} (h : LV ls nL L) {i : Nat} {v : AV} (h' : lv_has ls' nL ((i, toV v) :: (lvl 0 L).filter (fun q => !(q.1 == i) && !(q.1 + 1 == i && q.2.category == 2)))) : LV ls' nL (L.set i (some v)) := by
  refine ⟨by rw [List.length_set]; exact h.1, h'.1, h'.2.1, fun q hq => h'.2.2 q ?_⟩
  obtain ⟨j, w, h1, h2⟩ := (mem_lvl _ 0).mp hq
  rw [Nat.zero_add] at h2
  subst h2
  by_cases hj : j = i
  · subst hj
    rw [List.getElem?_set_self' ] at h1
    cases hL : L[j]? with
    | none => rw [hL] at h1; cases h1
    | some x =>
      rw [hL] at h1
      simp at h1
      rw [h1]
      exact List.mem_cons_self
  · rw [List.getElem?_set_ne (Ne.symm hj)] at h1
    refine List.mem_cons_of_mem _ (List.mem_filter.mpr ⟨(mem_lvl L 0).mpr ⟨j, w, h1, by rw [Nat.zero_add]⟩, ?_⟩)
    simp [hj, toV_cat]
theorem lgl_len : ∀ vs : List AV, (lg_sl (vs.map toV)).length = vs.length
  | [] => rfl
  | v :: vs => by
    have h := lgl_len vs
    simp only [lg_sl, List.map_cons, List.flatMap_cons, List.length_append, List.length_cons] at h ⊢
    rw [toV_cat, h]
    simp
    omega
theorem lva_map : ∀ (vs : List AV) (i n : Nat), lv_args i (vs.map toV) = lvl i (vs.map some ++ List.replicate n none)
  | [], i, 0 => rfl
  | [], i, n + 1 => by
    have h := lva_map [] (i + 1) n
    simp only [List.map_nil, List.nil_append, lv_args] at h ⊢
    rw [List.replicate_succ, lvl]
    exact h
  | v :: vs, i, n => by
    simp only [List.map_cons, List.cons_append, lv_args, lvl, toV_cat]
    rw [if_neg (by decide), lva_map vs (i + 1) n]
theorem LV.entry {vs : List AV} {n : Nat} (h : vs.length ≤ n) : LV ((lg_sl (vs.map toV) ++ List.replicate (n - (lg_sl (vs.map toV)).length) Slot.unset).toArray) n (vs.map some ++ List.replicate (n - vs.length) none) := by
  refine ⟨by simp; omega, ?_⟩
  rw [← lva_map vs 0 (n - vs.length)]
  exact lv_entry (vs.map toV) (by rw [lgl_len]; exact h)
-- the judgement over the world as whole numbers
abbrev QF : Type := State → List Frame → Array Value → State → Prop
def CX (G : GX) (y : MK) (p : Program) (s : State) (mid : MethodId) (args : Array Value) (meth : Method) (c : Code) : Prop :=
  p.tables.exec = Jvm.exec ∧ c.code = y.2.1 ∧ c.maxLocals = y.2.2.1 ∧ meth.sig.returnType = y.2.2.2 ∧ meth.locks = false ∧ s.vm.findClass y.1.cls = some mid.cls ∧ meth.name = y.1.name ∧ (∀ w ∈ GW, w.before args s = true) ∧ base G s
def WS (L : List (Option AV)) (st : List AV) : Prop := (∀ (i : Nat) (v : AV), L[i]? = some (some v) → wfv v) ∧ ∀ v ∈ st, wfv v
def V (G : GX) (y : MK) (R : Room) (Qf : QF) (pc : Nat) (L : List (Option AV)) (st : List AV) (sz : Nat) (m : Mem) (k n : Nat) : Prop :=
  ∀ (p : Program) (e : Env) (s : State) (mid : MethodId) (args : Array Value) (below : List Frame) (meth : Method) (c : Code) (H : Heap) (locs : List Loc) (ls : Array Slot),
    CX G y p s mid args meth c → Rel G s H sz m → va_S (Afr G) s.heap H locs → LV ls y.2.2.1 L → WS L st →
    W p G.1 e R s mid args below meth c H locs k n (Qf s below args) (F0 mid pc ls (st.map toV))
abbrev PO : Type := Option AV → Nat → Mem → Prop
def wsM (y : MK) : List Cond := Cond.code y.1 y.2.1 y.2.2.1 y.2.2.2 :: GW
def rmM (d mc ms : Nat) : Room := { frames := d, cells := mc, slots := ms, locals := 40 * d }
def PcA (G : GX) (args : List AV) (sz : Nat) (m : Mem) : Array Value → State → Prop := fun av U => av = (args.map toV).toArray ∧ (∀ v ∈ args, wfv v) ∧ base G U ∧ Rel G U U.heap sz m
def QcA (G : GX) (P : PO) : Array Value → State → Outcome → State → Prop := fun _ st o t => ∃ (r : Option AV) (sz : Nat) (m : Mem), o = .returned (r.map toV) ∧ P r sz m ∧ (∀ v, r = some v → wfv v) ∧ Rel G t t.heap sz m ∧ va_F (Afr G) st t
def Ok (G : GX) (y : MK) (d : Nat) (args : List AV) (sz : Nat) (m : Mem) (mc ms : Nat) (P : PO) : Prop := Met G.1 y.1 (wsM y) (rmM d mc ms) (PcA G args sz m) (QcA G P) mc ms (Afr G)
def QfM (G : GX) (P : PO) (mc ms : Nat) : QF := fun s below args => MQ below (QcA G P) args s mc ms (Afr G)
theorem Ok.body {G : GX} {y : MK} {d : Nat} {args : List AV} {sz : Nat} {m : Mem} {mc ms : Nat} {P : PO} (L : List (Option AV)) (hL : args.map some ++ List.replicate (y.2.2.1 - args.length) none = L) (hn : args.length ≤ y.2.2.1) (hpl : plainName y.1.cls = true)
    (body : V G y (rmM d mc ms) (QfM G P mc ms) 0 L [] sz m 0 0) : Ok G y d args sz m mc ms P := by
  subst hL
  refine Met.ofW (cc := y.2.1) (maxL := y.2.2.1) (ret := y.2.2.2) hpl rfl ?_
  intro p e s mid av below meth c s₁ B hml hv
  obtain ⟨rfl, hwf, hbase, hrel⟩ := hv
  rw [lg_entry_eq]
  have hts := atoms_spec (ws := wsM y) B.pre
  refine body p e s mid _ below meth c s.heap [] _ ⟨B.exec, B.bytes, hml, B.returns, B.notSynchronized, findClass_of_methodNamed B.named, (name_of_methodNamed B.named B.method).1, fun w hw => hts w (List.mem_cons_of_mem _ hw), hbase⟩ hrel va_S.rf (LV.entry hn) ⟨fun i v h => ?_, fun v h => by cases h⟩
  have hm := List.mem_of_getElem? h
  rcases List.mem_append.mp hm with h1 | h1
  · obtain ⟨w, hw, h2⟩ := List.mem_map.mp h1
    cases h2
    exact hwf v hw
  · cases (List.mem_replicate.mp h1).2
end
section
theorem wcons {v : AV} {st : List AV} (hv : wfv v) (h : ∀ w ∈ st, wfv w) : ∀ w ∈ v :: st, wfv w := List.forall_mem_cons.mpr ⟨hv, h⟩
theorem WS.tl {L : List (Option AV)} {v : AV} {st : List AV} (h : WS L (v :: st)) : WS L st := ⟨h.1, fun w hw => h.2 w (List.mem_cons_of_mem _ hw)⟩
theorem WS.hd {L : List (Option AV)} {v : AV} {st : List AV} (h : WS L (v :: st)) : wfv v := h.2 v List.mem_cons_self
theorem WS.push {L : List (Option AV)} {v : AV} {st : List AV} (hv : wfv v) (h : WS L st) : WS L (v :: st) := ⟨h.1, wcons hv h.2⟩
theorem WS.set {L : List (Option AV)} {i : Nat} {v : AV} {st : List AV} (hv : wfv v) (h : WS L st) : WS (L.set i (some v)) st := by
  refine ⟨fun j w hj => ?_, h.2⟩
  by_cases hi : j = i
  · subst hi
    rw [List.getElem?_set_self'] at hj
    cases hL : L[j]? with
    | none => rw [hL] at hj; cases hj
    | some x =>
      rw [hL] at hj
      simp at hj
      rw [← hj]
      exact hv
  · rw [List.getElem?_set_ne (Ne.symm hi)] at hj
    exact h.1 j w hj
theorem inR_toInt {z : Int} (h : inR z) : (Int32.ofInt z).toInt = z := Int32.toInt_ofInt_of_le (by omega) (by omega)
theorem oI_lt {a b : Int} (ha : inR a) (hb : inR b) : Int32.ofInt a < Int32.ofInt b ↔ a < b := by rw [Int32.lt_iff_toInt_lt, inR_toInt ha, inR_toInt hb]
theorem oI_le {a b : Int} (ha : inR a) (hb : inR b) : Int32.ofInt a ≤ Int32.ofInt b ↔ a ≤ b := by rw [Int32.le_iff_toInt_le, inR_toInt ha, inR_toInt hb]
theorem oI_eq {a b : Int} (ha : inR a) (hb : inR b) : Int32.ofInt a = Int32.ofInt b ↔ a = b := ⟨fun h => by rw [← inR_toInt ha, ← inR_toInt hb, h], fun h => by rw [h]⟩
theorem oI_clamp {z : Int} (h0 : 0 ≤ z) (h1 : z < 2147483648) : (Int32.ofInt z).toNatClampNeg = z.toNat := Int32.toNatClampNeg_ofInt_of_le (by omega) (by omega)
theorem oI_in {z : Int} {n : Nat} (h0 : 0 ≤ z) (h1 : z < n) (h2 : z < 2147483648) : vp_in (Int32.ofInt z) n := by
  rw [vp_in_iff, inR_toInt ⟨by omega, h2⟩]
  exact ⟨h0, h1⟩
section
variable {G : GX} {y : MK} {R : Room} {Qf : QF} {pc pc' : Nat} {L : List (Option AV)} {st : List AV} {sz : Nat} {m : Mem} {k n : Nat}
theorem V.iconst {z : Int} (h : At y pc (.iconst z) 1 pc') (hz : inR z) (kk : V G y R Qf pc' L (.inl z :: st) sz m k n) : V G y R Qf pc L st sz m k n := by
  obtain ⟨hd, rfl⟩ := h
  intro p e s mid args below meth c H locs ls hC hR hS hL hW
  exact lv_iconst hC.1 hC.2.1 hd rfl (kk p e s mid args below meth c H locs ls hC hR hS hL (hW.push hz))
theorem V.bipush {z : Int} (h : At y pc (.bipush z) 2 pc') (hv : (Int8.ofInt z).toInt32 = Int32.ofInt z) (hz : inR z) (kk : V G y R Qf pc' L (.inl z :: st) sz m k n) : V G y R Qf pc L st sz m k n := by
  obtain ⟨hd, rfl⟩ := h
  intro p e s mid args below meth c H locs ls hC hR hS hL hW
  exact lv_bipush hC.1 hC.2.1 hd hv (kk p e s mid args below meth c H locs ls hC hR hS hL (hW.push hz))
theorem V.sipush {z : Int} (h : At y pc (.sipush z) 3 pc') (hv : (Int16.ofInt z).toInt32 = Int32.ofInt z) (hz : inR z) (kk : V G y R Qf pc' L (.inl z :: st) sz m k n) : V G y R Qf pc L st sz m k n := by
  obtain ⟨hd, rfl⟩ := h
  intro p e s mid args below meth c H locs ls hC hR hS hL hW
  exact lv_sipush hC.1 hC.2.1 hd hv (kk p e s mid args below meth c H locs ls hC hR hS hL (hW.push hz))
theorem V.null (h : At y pc (.aconst_null) 1 pc') (kk : V G y R Qf pc' L (.inr none :: st) sz m k n) : V G y R Qf pc L st sz m k n := by
  obtain ⟨hd, rfl⟩ := h
  intro p e s mid args below meth c H locs ls hC hR hS hL hW
  exact lv_null hC.1 hC.2.1 hd (kk p e s mid args below meth c H locs ls hC hR hS hL (hW.push trivial))
theorem V.iload_n {i : Fin 4} {z : Int} (h : At y pc (.iload_n i) 1 pc') (hi : L[(i : Nat)]? = some (some (.inl z))) (kk : V G y R Qf pc' L (.inl z :: st) sz m k n) : V G y R Qf pc L st sz m k n := by
  obtain ⟨hd, rfl⟩ := h
  intro p e s mid args below meth c H locs ls hC hR hS hL hW
  exact lv_iload_n hC.1 hC.2.1 hd rfl (hL.at hi) (kk p e s mid args below meth c H locs ls hC hR hS hL (hW.push (hW.1 _ _ hi)))
theorem V.iload {i : Nat} {z : Int} (h : At y pc (.iload i) 2 pc') (hi : L[i]? = some (some (.inl z))) (kk : V G y R Qf pc' L (.inl z :: st) sz m k n) : V G y R Qf pc L st sz m k n := by
  obtain ⟨hd, rfl⟩ := h
  intro p e s mid args below meth c H locs ls hC hR hS hL hW
  exact lv_iload hC.1 hC.2.1 hd (hL.at hi) (kk p e s mid args below meth c H locs ls hC hR hS hL (hW.push (hW.1 _ _ hi)))
theorem V.aload_n {i : Fin 4} {r : Option Nat} (h : At y pc (.aload_n i) 1 pc') (hi : L[(i : Nat)]? = some (some (.inr r))) (kk : V G y R Qf pc' L (.inr r :: st) sz m k n) : V G y R Qf pc L st sz m k n := by
  obtain ⟨hd, rfl⟩ := h
  intro p e s mid args below meth c H locs ls hC hR hS hL hW
  cases r with
  | none => exact lv_aload_nN hC.1 hC.2.1 hd rfl (hL.at hi) (kk p e s mid args below meth c H locs ls hC hR hS hL (hW.push trivial))
  | some a => exact lv_aload_n hC.1 hC.2.1 hd rfl (hL.at hi) (kk p e s mid args below meth c H locs ls hC hR hS hL (hW.push trivial))  
theorem V.aload {i : Nat} {r : Option Nat} (h : At y pc (.aload i) 2 pc') (hi : L[i]? = some (some (.inr r))) (kk : V G y R Qf pc' L (.inr r :: st) sz m k n) : V G y R Qf pc L st sz m k n := by
  obtain ⟨hd, rfl⟩ := h
  intro p e s mid args below meth c H locs ls hC hR hS hL hW
  cases r with
  | none => exact lv_aloadN hC.1 hC.2.1 hd (hL.at hi) (kk p e s mid args below meth c H locs ls hC hR hS hL (hW.push trivial))
  | some a => exact lv_aload hC.1 hC.2.1 hd (hL.at hi) (kk p e s mid args below meth c H locs ls hC hR hS hL (hW.push trivial))  
theorem V.istore_n {i : Fin 4} {z : Int} (h : At y pc (.istore_n i) 1 pc') (hi : (i : Nat) < L.length) (kk : V G y R Qf pc' (L.set (i : Nat) (some (.inl z))) st sz m k n) : V G y R Qf pc L (.inl z :: st) sz m k n := by
  obtain ⟨hd, rfl⟩ := h
  intro p e s mid args below meth c H locs ls hC hR hS hL hW
  exact lv_istore_n hC.1 hC.2.1 hd rfl hL.2 (by rw [← hL.1]; exact hi) rfl (fun ls' hl' => kk p e s mid args below meth c H locs ls' hC hR hS (hL.set hl') (hW.tl.set hW.hd))
theorem V.istore {i : Nat} {z : Int} (h : At y pc (.istore i) 2 pc') (hi : i < L.length) (kk : V G y R Qf pc' (L.set i (some (.inl z))) st sz m k n) : V G y R Qf pc L (.inl z :: st) sz m k n := by
  obtain ⟨hd, rfl⟩ := h
  intro p e s mid args below meth c H locs ls hC hR hS hL hW
  exact lv_istore hC.1 hC.2.1 hd hL.2 (by rw [← hL.1]; exact hi) rfl (fun ls' hl' => kk p e s mid args below meth c H locs ls' hC hR hS (hL.set hl') (hW.tl.set hW.hd))
theorem V.astore_n {i : Fin 4} {r : Option Nat} (h : At y pc (.astore_n i) 1 pc') (hi : (i : Nat) < L.length) (kk : V G y R Qf pc' (L.set (i : Nat) (some (.inr r))) st sz m k n) : V G y R Qf pc L (.inr r :: st) sz m k n := by
  obtain ⟨hd, rfl⟩ := h
  intro p e s mid args below meth c H locs ls hC hR hS hL hW
  cases r with
  | none => exact lv_astore_nN hC.1 hC.2.1 hd rfl hL.2 (by rw [← hL.1]; exact hi) rfl (fun ls' hl' => kk p e s mid args below meth c H locs ls' hC hR hS (hL.set hl') (hW.tl.set hW.hd))
  | some a => exact lv_astore_n hC.1 hC.2.1 hd rfl hL.2 (by rw [← hL.1]; exact hi) rfl (fun ls' hl' => kk p e s mid args below meth c H locs ls' hC hR hS (hL.set hl') (hW.tl.set hW.hd))  
theorem V.astore {i : Nat} {r : Option Nat} (h : At y pc (.astore i) 2 pc') (hi : i < L.length) (kk : V G y R Qf pc' (L.set i (some (.inr r))) st sz m k n) : V G y R Qf pc L (.inr r :: st) sz m k n := by
  obtain ⟨hd, rfl⟩ := h
  intro p e s mid args below meth c H locs ls hC hR hS hL hW
  cases r with
  | none => exact lv_astoreN hC.1 hC.2.1 hd hL.2 (by rw [← hL.1]; exact hi) rfl (fun ls' hl' => kk p e s mid args below meth c H locs ls' hC hR hS (hL.set hl') (hW.tl.set hW.hd))
  | some a => exact lv_astore hC.1 hC.2.1 hd hL.2 (by rw [← hL.1]; exact hi) rfl (fun ls' hl' => kk p e s mid args below meth c H locs ls' hC hR hS (hL.set hl') (hW.tl.set hW.hd))  
theorem V.iinc {i : Nat} {d z : Int} (h : At y pc (.iinc i d) 3 pc') (hi : L[i]? = some (some (.inl z))) (hz : inR (z + d)) (kk : V G y R Qf pc' (L.set i (some (.inl (z + d)))) st sz m k n) : V G y R Qf pc L st sz m k n := by
  obtain ⟨hd, rfl⟩ := h
  intro p e s mid args below meth c H locs ls hC hR hS hL hW
  obtain ⟨k0, hk0⟩ := List.getElem?_of_mem ((mem_lvl L 0).mpr ⟨i, _, hi, rfl⟩)
  rw [Nat.zero_add] at hk0
  have hlt : i < L.length := (List.getElem?_eq_some_iff.mp hi).1
  refine lv_iinc hC.1 hC.2.1 hd hL.2 hk0 (v := Int32.ofInt (z + d)) (Int32.ofInt_add z d).symm (by rw [← hL.1]; exact hlt) rfl (fun ls' hl' => ?_)
  exact kk p e s mid args below meth c H locs ls' hC hR hS (hL.set (v := .inl (z + d)) hl') (hW.set hz)
theorem V.iadd {a b : Int} (h : At y pc .iadd 1 pc') (hz : inR (a + b)) (kk : V G y R Qf pc' L (.inl (a + b) :: st) sz m k n) : V G y R Qf pc L (.inl b :: .inl a :: st) sz m k n := by
  obtain ⟨hd, rfl⟩ := h
  intro p e s mid args below meth c H locs ls hC hR hS hL hW
  refine lv_iadd hC.1 hC.2.1 hd ?_
  rw [← Int32.ofInt_add]
  exact kk p e s mid args below meth c H locs ls hC hR hS hL (hW.tl.tl.push (v := .inl (a + b)) hz)
theorem V.isub {a b : Int} (h : At y pc .isub 1 pc') (hz : inR (a - b)) (kk : V G y R Qf pc' L (.inl (a - b) :: st) sz m k n) : V G y R Qf pc L (.inl b :: .inl a :: st) sz m k n := by
  obtain ⟨hd, rfl⟩ := h
  intro p e s mid args below meth c H locs ls hC hR hS hL hW
  refine lv_isub hC.1 hC.2.1 hd ?_
  rw [← Int32.ofInt_sub]
  exact kk p e s mid args below meth c H locs ls hC hR hS hL (hW.tl.tl.push (v := .inl (a - b)) hz)
theorem V.imul {a b : Int} (h : At y pc .imul 1 pc') (hz : inR (a * b)) (kk : V G y R Qf pc' L (.inl (a * b) :: st) sz m k n) : V G y R Qf pc L (.inl b :: .inl a :: st) sz m k n := by
  obtain ⟨hd, rfl⟩ := h
  intro p e s mid args below meth c H locs ls hC hR hS hL hW
  refine lv_imul hC.1 hC.2.1 hd ?_
  rw [← Int32.ofInt_mul]
  exact kk p e s mid args below meth c H locs ls hC hR hS hL (hW.tl.tl.push (v := .inl (a * b)) hz)
theorem V.irem {a b : Int} (h : At y pc .irem 1 pc') (ha : 0 ≤ a) (hb : 0 < b) (kk : V G y R Qf pc' L (.inl (a % b) :: st) sz m k n) : V G y R Qf pc L (.inl b :: .inl a :: st) sz m k n := by
  obtain ⟨hd, rfl⟩ := h
  intro p e s mid args below meth c H locs ls hC hR hS hL hW
  have wb : inR b := hW.hd
  have wa : inR a := hW.tl.hd
  have h1 := Int.emod_nonneg a (show b ≠ 0 by omega)
  have h2 := Int.emod_lt_of_pos a hb
  have h3 := Int.mul_ediv_add_emod a b
  have hq0 : 0 ≤ a / b := Int.ediv_nonneg ha (by omega)
  have hq1 : a / b ≤ a := Int.ediv_le_self b ha
  refine lv_irem hC.1 hC.2.1 hd (fun q => ?_) ?_
  · have q2 := (oI_eq wb (show inR 0 by decide)).mp q
    omega
  · have e1 : Int32.ofInt a / Int32.ofInt b = Int32.ofInt (a / b) := by
      apply Int32.toInt_inj.mp
      rw [Int32.toInt_div_of_ne_right _ _ (fun q => by have q2 := (oI_eq wb (show inR (-1) by decide)).mp q; omega), inR_toInt wa, inR_toInt wb, inR_toInt ⟨by omega, by omega⟩, Int.tdiv_eq_ediv_of_nonneg ha]
    have e2 : Int32.ofInt a - Int32.ofInt a / Int32.ofInt b * Int32.ofInt b = Int32.ofInt (a % b) := by
      rw [e1, ← Int32.ofInt_mul, ← Int32.ofInt_sub]
      congr 1
      have : a / b * b = b * (a / b) := Int.mul_comm _ _
      omega
    rw [e2]
    exact kk p e s mid args below meth c H locs ls hC hR hS hL (hW.tl.tl.push (v := .inl (a % b)) ⟨by omega, by omega⟩)
theorem V.i2c {a : Int} (h : At y pc .i2c 1 pc') (kk : V G y R Qf pc' L (.inl (a % 65536) :: st) sz m k n) : V G y R Qf pc L (.inl a :: st) sz m k n := by
  obtain ⟨hd, rfl⟩ := h
  intro p e s mid args below meth c H locs ls hC hR hS hL hW
  have wa : inR a := hW.hd
  have e1 : ((Int32.ofInt a).toUInt32 % 65536).toInt32 = Int32.ofInt (a % 65536) := by
    rw [pk_char]
    show Int32.ofNat _ = _
    rw [← Int32.ofInt_eq_ofNat]
    have h1 : (Int32.ofInt a).toBitVec.toNat = (a % 4294967296).toNat := by
      show (BitVec.ofInt 32 a).toNat = _
      rw [BitVec.toNat_ofInt]
      rfl
    rw [h1]
    congr 1
    omega
  exact lv_i2c hC.1 hC.2.1 hd e1 (kk p e s mid args below meth c H locs ls hC hR hS hL (hW.tl.push (v := .inl (a % 65536)) ⟨by omega, by omega⟩))
theorem V.iand31 {a : Int} (h : At y pc .iand 1 pc') (kk : V G y R Qf pc' L (.inl (a % 32) :: st) sz m k n) : V G y R Qf pc L (.inl 31 :: .inl a :: st) sz m k n := by
  obtain ⟨hd, rfl⟩ := h
  intro p e s mid args below meth c H locs ls hC hR hS hL hW
  have wa : inR a := hW.tl.hd
  refine lv_iand hC.1 hC.2.1 hd ?_
  have e1 : Int32.ofInt a &&& Int32.ofInt 31 = Int32.ofInt (a % 32) := by
    rw [pk_and (Int32.ofInt a) (m := Int32.ofInt 31) 5 (by decide)]
    show Int32.ofNat _ = _
    rw [← Int32.ofInt_eq_ofNat]
    have h1 : (Int32.ofInt a).toBitVec.toNat = (a % 4294967296).toNat := by
      show (BitVec.ofInt 32 a).toNat = _
      rw [BitVec.toNat_ofInt]
      rfl
    rw [h1]
    congr 1
    omega
  rw [e1]
  exact kk p e s mid args below meth c H locs ls hC hR hS hL (hW.tl.tl.push (v := .inl (a % 32)) ⟨by omega, by omega⟩)
theorem V.dup {v : AV} (h : At y pc (.dup) 1 pc') (kk : V G y R Qf pc' L (v :: v :: st) sz m k n) : V G y R Qf pc L (v :: st) sz m k n := by
  obtain ⟨hd, rfl⟩ := h
  intro p e s mid args below meth c H locs ls hC hR hS hL hW
  exact lv_dup hC.1 hC.2.1 hd (toV_cat v) (kk p e s mid args below meth c H locs ls hC hR hS hL (hW.push hW.hd))
theorem V.pop {v : AV} (h : At y pc (.pop) 1 pc') (kk : V G y R Qf pc' L st sz m k n) : V G y R Qf pc L (v :: st) sz m k n := by
  obtain ⟨hd, rfl⟩ := h
  intro p e s mid args below meth c H locs ls hC hR hS hL hW
  exact lv_pop hC.1 hC.2.1 hd (toV_cat v) (kk p e s mid args below meth c H locs ls hC hR hS hL hW.tl)
theorem V.dup2 {v w : AV} (h : At y pc (.dup2) 1 pc') (kk : V G y R Qf pc' L (v :: w :: v :: w :: st) sz m k n) : V G y R Qf pc L (v :: w :: st) sz m k n := by
  obtain ⟨hd, rfl⟩ := h
  intro p e s mid args below meth c H locs ls hC hR hS hL hW
  exact lv_dup2_11 hC.1 hC.2.1 hd (toV_cat v) (toV_cat w) (kk p e s mid args below meth c H locs ls hC hR hS hL ((hW.push hW.tl.hd).push hW.hd))
theorem V.if_eq {z off : Int} {tgt : Nat} (h : At y pc (.ifCond .eq off) 3 pc') (ht : (pc : Int) + off = (tgt : Int)) (kt : z = 0 → V G y R Qf tgt L st sz m k n) (kf : z ≠ 0 → V G y R Qf pc' L st sz m k n) : V G y R Qf pc L (.inl z :: st) sz m k n := by
  obtain ⟨hd, rfl⟩ := h
  intro p e s mid args below meth c H locs ls hC hR hS hL hW
  have wz : inR z := hW.hd
  have w0 : inR 0 := by decide
  exact lv_if_eq hC.1 hC.2.1 hd ht (fun q => kt ((oI_eq wz w0).mp q) p e s mid args below meth c H locs ls hC hR hS hL hW.tl) (fun q => kf (fun e => q ((oI_eq wz w0).mpr e)) p e s mid args below meth c H locs ls hC hR hS hL hW.tl)
theorem V.if_ne {z off : Int} {tgt : Nat} (h : At y pc (.ifCond .ne off) 3 pc') (ht : (pc : Int) + off = (tgt : Int)) (kt : z ≠ 0 → V G y R Qf tgt L st sz m k n) (kf : z = 0 → V G y R Qf pc' L st sz m k n) : V G y R Qf pc L (.inl z :: st) sz m k n := by
  obtain ⟨hd, rfl⟩ := h
  intro p e s mid args below meth c H locs ls hC hR hS hL hW
  have wz : inR z := hW.hd
  have w0 : inR 0 := by decide
  exact lv_if_ne hC.1 hC.2.1 hd ht (fun q => kt (fun e => q ((oI_eq wz w0).mpr e)) p e s mid args below meth c H locs ls hC hR hS hL hW.tl) (fun q => kf ((oI_eq wz w0).mp q) p e s mid args below meth c H locs ls hC hR hS hL hW.tl)
theorem V.if_lt {z off : Int} {tgt : Nat} (h : At y pc (.ifCond .lt off) 3 pc') (ht : (pc : Int) + off = (tgt : Int)) (kt : z < 0 → V G y R Qf tgt L st sz m k n) (kf : 0 ≤ z → V G y R Qf pc' L st sz m k n) : V G y R Qf pc L (.inl z :: st) sz m k n := by
  obtain ⟨hd, rfl⟩ := h
  intro p e s mid args below meth c H locs ls hC hR hS hL hW
  have wz : inR z := hW.hd
  have w0 : inR 0 := by decide
  exact lv_if_lt hC.1 hC.2.1 hd ht (fun q => kt ((oI_lt wz w0).mp q) p e s mid args below meth c H locs ls hC hR hS hL hW.tl) (fun q => kf (Int.not_lt.mp (fun e => q ((oI_lt wz w0).mpr e))) p e s mid args below meth c H locs ls hC hR hS hL hW.tl)
theorem V.if_ge {z off : Int} {tgt : Nat} (h : At y pc (.ifCond .ge off) 3 pc') (ht : (pc : Int) + off = (tgt : Int)) (kt : 0 ≤ z → V G y R Qf tgt L st sz m k n) (kf : z < 0 → V G y R Qf pc' L st sz m k n) : V G y R Qf pc L (.inl z :: st) sz m k n := by
  obtain ⟨hd, rfl⟩ := h
  intro p e s mid args below meth c H locs ls hC hR hS hL hW
  have wz : inR z := hW.hd
  have w0 : inR 0 := by decide
  exact lv_if_ge hC.1 hC.2.1 hd ht (fun q => kt ((oI_le w0 wz).mp q) p e s mid args below meth c H locs ls hC hR hS hL hW.tl) (fun q => kf (Int.not_le.mp (fun e => q ((oI_le w0 wz).mpr e))) p e s mid args below meth c H locs ls hC hR hS hL hW.tl)
theorem V.if_gt {z off : Int} {tgt : Nat} (h : At y pc (.ifCond .gt off) 3 pc') (ht : (pc : Int) + off = (tgt : Int)) (kt : 0 < z → V G y R Qf tgt L st sz m k n) (kf : z ≤ 0 → V G y R Qf pc' L st sz m k n) : V G y R Qf pc L (.inl z :: st) sz m k n := by
  obtain ⟨hd, rfl⟩ := h
  intro p e s mid args below meth c H locs ls hC hR hS hL hW
  have wz : inR z := hW.hd
  have w0 : inR 0 := by decide
  exact lv_if_gt hC.1 hC.2.1 hd ht (fun q => kt ((oI_lt w0 wz).mp q) p e s mid args below meth c H locs ls hC hR hS hL hW.tl) (fun q => kf (Int.not_lt.mp (fun e => q ((oI_lt w0 wz).mpr e))) p e s mid args below meth c H locs ls hC hR hS hL hW.tl)
theorem V.if_le {z off : Int} {tgt : Nat} (h : At y pc (.ifCond .le off) 3 pc') (ht : (pc : Int) + off = (tgt : Int)) (kt : z ≤ 0 → V G y R Qf tgt L st sz m k n) (kf : 0 < z → V G y R Qf pc' L st sz m k n) : V G y R Qf pc L (.inl z :: st) sz m k n := by
  obtain ⟨hd, rfl⟩ := h
  intro p e s mid args below meth c H locs ls hC hR hS hL hW
  have wz : inR z := hW.hd
  have w0 : inR 0 := by decide
  exact lv_if_le hC.1 hC.2.1 hd ht (fun q => kt ((oI_le wz w0).mp q) p e s mid args below meth c H locs ls hC hR hS hL hW.tl) (fun q => kf (Int.not_le.mp (fun e => q ((oI_le wz w0).mpr e))) p e s mid args below meth c H locs ls hC hR hS hL hW.tl)
theorem V.icmp_eq {a b off : Int} {tgt : Nat} (h : At y pc (.if_icmp .eq off) 3 pc') (ht : (pc : Int) + off = (tgt : Int)) (kt : a = b → V G y R Qf tgt L st sz m k n) (kf : a ≠ b → V G y R Qf pc' L st sz m k n) : V G y R Qf pc L (.inl b :: .inl a :: st) sz m k n := by
  obtain ⟨hd, rfl⟩ := h
  intro p e s mid args below meth c H locs ls hC hR hS hL hW
  have wb : inR b := hW.hd
  have wa : inR a := hW.tl.hd
  exact lv_icmp_eq hC.1 hC.2.1 hd ht (fun q => kt ((oI_eq wa wb).mp q) p e s mid args below meth c H locs ls hC hR hS hL hW.tl.tl) (fun q => kf (fun e => q ((oI_eq wa wb).mpr e)) p e s mid args below meth c H locs ls hC hR hS hL hW.tl.tl)
theorem V.icmp_ne {a b off : Int} {tgt : Nat} (h : At y pc (.if_icmp .ne off) 3 pc') (ht : (pc : Int) + off = (tgt : Int)) (kt : a ≠ b → V G y R Qf tgt L st sz m k n) (kf : a = b → V G y R Qf pc' L st sz m k n) : V G y R Qf pc L (.inl b :: .inl a :: st) sz m k n := by
  obtain ⟨hd, rfl⟩ := h
  intro p e s mid args below meth c H locs ls hC hR hS hL hW
  have wb : inR b := hW.hd
  have wa : inR a := hW.tl.hd
  exact lv_icmp_ne hC.1 hC.2.1 hd ht (fun q => kt (fun e => q ((oI_eq wa wb).mpr e)) p e s mid args below meth c H locs ls hC hR hS hL hW.tl.tl) (fun q => kf ((oI_eq wa wb).mp q) p e s mid args below meth c H locs ls hC hR hS hL hW.tl.tl)
theorem V.icmp_lt {a b off : Int} {tgt : Nat} (h : At y pc (.if_icmp .lt off) 3 pc') (ht : (pc : Int) + off = (tgt : Int)) (kt : a < b → V G y R Qf tgt L st sz m k n) (kf : b ≤ a → V G y R Qf pc' L st sz m k n) : V G y R Qf pc L (.inl b :: .inl a :: st) sz m k n := by
  obtain ⟨hd, rfl⟩ := h
  intro p e s mid args below meth c H locs ls hC hR hS hL hW
  have wb : inR b := hW.hd
  have wa : inR a := hW.tl.hd
  exact lv_icmp_lt hC.1 hC.2.1 hd ht (fun q => kt ((oI_lt wa wb).mp q) p e s mid args below meth c H locs ls hC hR hS hL hW.tl.tl) (fun q => kf (Int.not_lt.mp (fun e => q ((oI_lt wa wb).mpr e))) p e s mid args below meth c H locs ls hC hR hS hL hW.tl.tl)
theorem V.icmp_ge {a b off : Int} {tgt : Nat} (h : At y pc (.if_icmp .ge off) 3 pc') (ht : (pc : Int) + off = (tgt : Int)) (kt : b ≤ a → V G y R Qf tgt L st sz m k n) (kf : a < b → V G y R Qf pc' L st sz m k n) : V G y R Qf pc L (.inl b :: .inl a :: st) sz m k n := by
  obtain ⟨hd, rfl⟩ := h
  intro p e s mid args below meth c H locs ls hC hR hS hL hW
  have wb : inR b := hW.hd
  have wa : inR a := hW.tl.hd
  exact lv_icmp_ge hC.1 hC.2.1 hd ht (fun q => kt ((oI_le wb wa).mp q) p e s mid args below meth c H locs ls hC hR hS hL hW.tl.tl) (fun q => kf (Int.not_le.mp (fun e => q ((oI_le wb wa).mpr e))) p e s mid args below meth c H locs ls hC hR hS hL hW.tl.tl)
theorem V.icmp_gt {a b off : Int} {tgt : Nat} (h : At y pc (.if_icmp .gt off) 3 pc') (ht : (pc : Int) + off = (tgt : Int)) (kt : b < a → V G y R Qf tgt L st sz m k n) (kf : a ≤ b → V G y R Qf pc' L st sz m k n) : V G y R Qf pc L (.inl b :: .inl a :: st) sz m k n := by
  obtain ⟨hd, rfl⟩ := h
  intro p e s mid args below meth c H locs ls hC hR hS hL hW
  have wb : inR b := hW.hd
  have wa : inR a := hW.tl.hd
  exact lv_icmp_gt hC.1 hC.2.1 hd ht (fun q => kt ((oI_lt wb wa).mp q) p e s mid args below meth c H locs ls hC hR hS hL hW.tl.tl) (fun q => kf (Int.not_lt.mp (fun e => q ((oI_lt wb wa).mpr e))) p e s mid args below meth c H locs ls hC hR hS hL hW.tl.tl)
theorem V.icmp_le {a b off : Int} {tgt : Nat} (h : At y pc (.if_icmp .le off) 3 pc') (ht : (pc : Int) + off = (tgt : Int)) (kt : a ≤ b → V G y R Qf tgt L st sz m k n) (kf : b < a → V G y R Qf pc' L st sz m k n) : V G y R Qf pc L (.inl b :: .inl a :: st) sz m k n := by
  obtain ⟨hd, rfl⟩ := h
  intro p e s mid args below meth c H locs ls hC hR hS hL hW
  have wb : inR b := hW.hd
  have wa : inR a := hW.tl.hd
  exact lv_icmp_le hC.1 hC.2.1 hd ht (fun q => kt ((oI_le wa wb).mp q) p e s mid args below meth c H locs ls hC hR hS hL hW.tl.tl) (fun q => kf (Int.not_le.mp (fun e => q ((oI_le wa wb).mpr e))) p e s mid args below meth c H locs ls hC hR hS hL hW.tl.tl)
theorem V.goto {off : Int} {tgt : Nat} (h : At y pc (.goto off) 3 pc') (ht : (pc : Int) + off = (tgt : Int)) (kk : V G y R Qf tgt L st sz m k n) : V G y R Qf pc L st sz m k n := by
  obtain ⟨hd, rfl⟩ := h
  intro p e s mid args below meth c H locs ls hC hR hS hL hW
  exact lv_goto hC.1 hC.2.1 hd ht (kk p e s mid args below meth c H locs ls hC hR hS hL hW)
theorem V.ifnull {r : Option Nat} {off : Int} {tgt : Nat} (h : At y pc (.ifnull off) 3 pc') (ht : (pc : Int) + off = (tgt : Int)) (kt : r = none → V G y R Qf tgt L st sz m k n) (kf : ∀ a : Nat, r = some a → V G y R Qf pc' L st sz m k n) : V G y R Qf pc L (.inr r :: st) sz m k n := by
  obtain ⟨hd, rfl⟩ := h
  intro p e s mid args below meth c H locs ls hC hR hS hL hW
  cases r with
  | none => exact lv_ifnullN hC.1 hC.2.1 hd ht (kt rfl p e s mid args below meth c H locs ls hC hR hS hL hW.tl)
  | some a => exact lv_ifnull hC.1 hC.2.1 hd (kf a rfl p e s mid args below meth c H locs ls hC hR hS hL hW.tl)
theorem V.ifnonnull {r : Option Nat} {off : Int} {tgt : Nat} (h : At y pc (.ifnonnull off) 3 pc') (ht : (pc : Int) + off = (tgt : Int)) (kt : ∀ a : Nat, r = some a → V G y R Qf tgt L st sz m k n) (kf : r = none → V G y R Qf pc' L st sz m k n) : V G y R Qf pc L (.inr r :: st) sz m k n := by
  obtain ⟨hd, rfl⟩ := h
  intro p e s mid args below meth c H locs ls hC hR hS hL hW
  cases r with
  | none => exact lv_ifnonnullN hC.1 hC.2.1 hd (kf rfl p e s mid args below meth c H locs ls hC hR hS hL hW.tl)
  | some a => exact lv_ifnonnull hC.1 hC.2.1 hd ht (kt a rfl p e s mid args below meth c H locs ls hC hR hS hL hW.tl)
theorem V.tswOut {d lo hi : Int} {offs : Array Int} {len : Nat} {z : Int} {tgt : Nat} (h : At y pc (.tableswitch d lo hi offs) len pc') (hz : z < lo ∨ hi < z) (ht : (pc : Int) + d = (tgt : Int)) (kk : V G y R Qf tgt L st sz m k n) : V G y R Qf pc L (.inl z :: st) sz m k n := by
  obtain ⟨hd, rfl⟩ := h
  intro p e s mid args below meth c H locs ls hC hR hS hL hW
  have wz : inR z := hW.hd
  exact lv_tableOut hC.1 hC.2.1 hd (by rw [inR_toInt wz]; exact hz) ht (kk p e s mid args below meth c H locs ls hC hR hS hL hW.tl)
theorem V.tswIn {d lo hi : Int} {offs : Array Int} {len : Nat} {z off : Int} {tgt : Nat} (h : At y pc (.tableswitch d lo hi offs) len pc') (h1 : lo ≤ z) (h2 : z ≤ hi) (ho : offs[(z - lo).toNat]? = some off) (ht : (pc : Int) + off = (tgt : Int)) (kk : V G y R Qf tgt L st sz m k n) : V G y R Qf pc L (.inl z :: st) sz m k n := by
  obtain ⟨hd, rfl⟩ := h
  intro p e s mid args below meth c H locs ls hC hR hS hL hW
  have wz : inR z := hW.hd
  have e1 := inR_toInt wz
  exact lv_tableIn hC.1 hC.2.1 hd (by rw [e1]; omega) (by rw [e1]; omega) (by rw [e1]; exact ho) ht (kk p e s mid args below meth c H locs ls hC hR hS hL hW.tl)
-- what is known of numbers
theorem V.know {v : AV} (kk : wfv v → V G y R Qf pc L (v :: st) sz m k n) : V G y R Qf pc L (v :: st) sz m k n := by
  intro p e s mid args below meth c H locs ls hC hR hS hL hW
  exact kk hW.hd p e s mid args below meth c H locs ls hC hR hS hL hW
theorem V.knowL {i : Nat} {v : AV} (hi : L[i]? = some (some v)) (kk : wfv v → V G y R Qf pc L st sz m k n) : V G y R Qf pc L st sz m k n := by
  intro p e s mid args below meth c H locs ls hC hR hS hL hW
  exact kk (hW.1 i v hi) p e s mid args below meth c H locs ls hC hR hS hL hW
theorem V.knowO {a ci : Nat} {fs : List AV} (ha : m a = obj ci fs) (kk : (∀ v ∈ fs, wfv v) → V G y R Qf pc L st sz m k n) : V G y R Qf pc L st sz m k n := by
  intro p e s mid args below meth c H locs ls hC hR hS hL hW
  have h := hR.2.2 a
  rw [ha] at h
  exact kk h.2.1 p e s mid args below meth c H locs ls hC hR hS hL hW
theorem V.knowI {a nn : Nat} {f : Int → Int} (ha : m a = iar nn f) (kk : (∀ i : Int, 0 ≤ i → i < nn → inR (f i)) → V G y R Qf pc L st sz m k n) : V G y R Qf pc L st sz m k n := by
  intro p e s mid args below meth c H locs ls hC hR hS hL hW
  have h := hR.2.2 a
  rw [ha] at h
  exact kk (fun i h0 h1 => (h.2.1 i h0 h1).1) p e s mid args below meth c H locs ls hC hR hS hL hW
theorem V.knowC {a nn : Nat} {f : Int → Int} (ha : m a = car nn f) (kk : (∀ i : Int, 0 ≤ i → i < nn → 0 ≤ f i ∧ f i < 65536) → V G y R Qf pc L st sz m k n) : V G y R Qf pc L st sz m k n := by
  intro p e s mid args below meth c H locs ls hC hR hS hL hW
  have h := hR.2.2 a
  rw [ha] at h
  exact kk (fun i h0 h1 => (h.2.1 i h0 h1).2 rfl) p e s mid args below meth c H locs ls hC hR hS hL hW
theorem V.knowS (kk : (∀ a : Nat, sz ≤ a → m a = unk) → G.2.2.1 ≤ sz → V G y R Qf pc L st sz m k n) : V G y R Qf pc L st sz m k n := by
  intro p e s mid args below meth c H locs ls hC hR hS hL hW
  refine kk (fun a ha => ?_) hR.2.1 p e s mid args below meth c H locs ls hC hR hS hL hW
  by_cases hu : m a = unk
  · exact hu
  · have h := (hR.2.2 a).lt hu
    rw [hR.1] at h
    omega
theorem V.knowB {a : Nat} (ha : m a ≠ unk) (kk : a < sz → V G y R Qf pc L st sz m k n) : V G y R Qf pc L st sz m k n := by
  intro p e s mid args below meth c H locs ls hC hR hS hL hW
  have h := (hR.2.2 a).lt ha
  rw [hR.1] at h
  exact kk h p e s mid args below meth c H locs ls hC hR hS hL hW
theorem V.mem {m2 : Mem} (hm : m2 = m) (kk : V G y R Qf pc L st sz m2 k n) : V G y R Qf pc L st sz m k n := hm ▸ kk
end
section
variable {G : GX} {y : MK} {R : Room} {Qf : QF} {pc pc' : Nat} {st : List AV} {sz : Nat} {m : Mem} {k n : Nat}
theorem V.ist0 {w : Option AV} {z : Int} {L : List (Option AV)} (h : At y pc (.istore_n 0) 1 pc') (kk : V G y R Qf pc' (some (.inl z) :: L) st sz m k n) : V G y R Qf pc (w :: L) (.inl z :: st) sz m k n := V.istore_n h (by show 0 < List.length _; simp) kk
theorem V.ast0 {w : Option AV} {r : Option Nat} {L : List (Option AV)} (h : At y pc (.astore_n 0) 1 pc') (kk : V G y R Qf pc' (some (.inr r) :: L) st sz m k n) : V G y R Qf pc (w :: L) (.inr r :: st) sz m k n := V.astore_n h (by show 0 < List.length _; simp) kk
theorem V.inc0 {d z : Int} {L : List (Option AV)} (h : At y pc (.iinc 0 d) 3 pc') (hz : inR (z + d)) (kk : V G y R Qf pc' (some (.inl (z + d)) :: L) st sz m k n) : V G y R Qf pc (some (.inl z) :: L) st sz m k n := V.iinc h rfl hz kk
theorem V.ild0 {z : Int} {L : List (Option AV)} (h : At y pc (.iload_n 0) 1 pc') (kk : V G y R Qf pc' (some (.inl z) :: L) (.inl z :: st) sz m k n) : V G y R Qf pc (some (.inl z) :: L) st sz m k n := V.iload_n h rfl kk
theorem V.ald0 {r : Option Nat} {L : List (Option AV)} (h : At y pc (.aload_n 0) 1 pc') (kk : V G y R Qf pc' (some (.inr r) :: L) (.inr r :: st) sz m k n) : V G y R Qf pc (some (.inr r) :: L) st sz m k n := V.aload_n h rfl kk
theorem V.ist1 {x0 w : Option AV} {z : Int} {L : List (Option AV)} (h : At y pc (.istore_n 1) 1 pc') (kk : V G y R Qf pc' (x0 :: some (.inl z) :: L) st sz m k n) : V G y R Qf pc (x0 :: w :: L) (.inl z :: st) sz m k n := V.istore_n h (by show 1 < List.length _; simp) kk
theorem V.ast1 {x0 w : Option AV} {r : Option Nat} {L : List (Option AV)} (h : At y pc (.astore_n 1) 1 pc') (kk : V G y R Qf pc' (x0 :: some (.inr r) :: L) st sz m k n) : V G y R Qf pc (x0 :: w :: L) (.inr r :: st) sz m k n := V.astore_n h (by show 1 < List.length _; simp) kk
theorem V.inc1 {x0 : Option AV} {d z : Int} {L : List (Option AV)} (h : At y pc (.iinc 1 d) 3 pc') (hz : inR (z + d)) (kk : V G y R Qf pc' (x0 :: some (.inl (z + d)) :: L) st sz m k n) : V G y R Qf pc (x0 :: some (.inl z) :: L) st sz m k n := V.iinc h rfl hz kk
theorem V.ild1 {x0 : Option AV} {z : Int} {L : List (Option AV)} (h : At y pc (.iload_n 1) 1 pc') (kk : V G y R Qf pc' (x0 :: some (.inl z) :: L) (.inl z :: st) sz m k n) : V G y R Qf pc (x0 :: some (.inl z) :: L) st sz m k n := V.iload_n h rfl kk
theorem V.ald1 {x0 : Option AV} {r : Option Nat} {L : List (Option AV)} (h : At y pc (.aload_n 1) 1 pc') (kk : V G y R Qf pc' (x0 :: some (.inr r) :: L) (.inr r :: st) sz m k n) : V G y R Qf pc (x0 :: some (.inr r) :: L) st sz m k n := V.aload_n h rfl kk
theorem V.ist2 {x0 x1 w : Option AV} {z : Int} {L : List (Option AV)} (h : At y pc (.istore_n 2) 1 pc') (kk : V G y R Qf pc' (x0 :: x1 :: some (.inl z) :: L) st sz m k n) : V G y R Qf pc (x0 :: x1 :: w :: L) (.inl z :: st) sz m k n := V.istore_n h (by show 2 < List.length _; simp) kk
theorem V.ast2 {x0 x1 w : Option AV} {r : Option Nat} {L : List (Option AV)} (h : At y pc (.astore_n 2) 1 pc') (kk : V G y R Qf pc' (x0 :: x1 :: some (.inr r) :: L) st sz m k n) : V G y R Qf pc (x0 :: x1 :: w :: L) (.inr r :: st) sz m k n := V.astore_n h (by show 2 < List.length _; simp) kk
theorem V.inc2 {x0 x1 : Option AV} {d z : Int} {L : List (Option AV)} (h : At y pc (.iinc 2 d) 3 pc') (hz : inR (z + d)) (kk : V G y R Qf pc' (x0 :: x1 :: some (.inl (z + d)) :: L) st sz m k n) : V G y R Qf pc (x0 :: x1 :: some (.inl z) :: L) st sz m k n := V.iinc h rfl hz kk
theorem V.ild2 {x0 x1 : Option AV} {z : Int} {L : List (Option AV)} (h : At y pc (.iload_n 2) 1 pc') (kk : V G y R Qf pc' (x0 :: x1 :: some (.inl z) :: L) (.inl z :: st) sz m k n) : V G y R Qf pc (x0 :: x1 :: some (.inl z) :: L) st sz m k n := V.iload_n h rfl kk
theorem V.ald2 {x0 x1 : Option AV} {r : Option Nat} {L : List (Option AV)} (h : At y pc (.aload_n 2) 1 pc') (kk : V G y R Qf pc' (x0 :: x1 :: some (.inr r) :: L) (.inr r :: st) sz m k n) : V G y R Qf pc (x0 :: x1 :: some (.inr r) :: L) st sz m k n := V.aload_n h rfl kk
theorem V.ist3 {x0 x1 x2 w : Option AV} {z : Int} {L : List (Option AV)} (h : At y pc (.istore_n 3) 1 pc') (kk : V G y R Qf pc' (x0 :: x1 :: x2 :: some (.inl z) :: L) st sz m k n) : V G y R Qf pc (x0 :: x1 :: x2 :: w :: L) (.inl z :: st) sz m k n := V.istore_n h (by show 3 < List.length _; simp) kk
theorem V.ast3 {x0 x1 x2 w : Option AV} {r : Option Nat} {L : List (Option AV)} (h : At y pc (.astore_n 3) 1 pc') (kk : V G y R Qf pc' (x0 :: x1 :: x2 :: some (.inr r) :: L) st sz m k n) : V G y R Qf pc (x0 :: x1 :: x2 :: w :: L) (.inr r :: st) sz m k n := V.astore_n h (by show 3 < List.length _; simp) kk
theorem V.inc3 {x0 x1 x2 : Option AV} {d z : Int} {L : List (Option AV)} (h : At y pc (.iinc 3 d) 3 pc') (hz : inR (z + d)) (kk : V G y R Qf pc' (x0 :: x1 :: x2 :: some (.inl (z + d)) :: L) st sz m k n) : V G y R Qf pc (x0 :: x1 :: x2 :: some (.inl z) :: L) st sz m k n := V.iinc h rfl hz kk
theorem V.ild3 {x0 x1 x2 : Option AV} {z : Int} {L : List (Option AV)} (h : At y pc (.iload_n 3) 1 pc') (kk : V G y R Qf pc' (x0 :: x1 :: x2 :: some (.inl z) :: L) (.inl z :: st) sz m k n) : V G y R Qf pc (x0 :: x1 :: x2 :: some (.inl z) :: L) st sz m k n := V.iload_n h rfl kk
theorem V.ald3 {x0 x1 x2 : Option AV} {r : Option Nat} {L : List (Option AV)} (h : At y pc (.aload_n 3) 1 pc') (kk : V G y R Qf pc' (x0 :: x1 :: x2 :: some (.inr r) :: L) (.inr r :: st) sz m k n) : V G y R Qf pc (x0 :: x1 :: x2 :: some (.inr r) :: L) st sz m k n := V.aload_n h rfl kk
theorem V.ist4 {x0 x1 x2 x3 w : Option AV} {z : Int} {L : List (Option AV)} (h : At y pc (.istore 4) 2 pc') (kk : V G y R Qf pc' (x0 :: x1 :: x2 :: x3 :: some (.inl z) :: L) st sz m k n) : V G y R Qf pc (x0 :: x1 :: x2 :: x3 :: w :: L) (.inl z :: st) sz m k n := V.istore h (by show 4 < List.length _; simp) kk
theorem V.ast4 {x0 x1 x2 x3 w : Option AV} {r : Option Nat} {L : List (Option AV)} (h : At y pc (.astore 4) 2 pc') (kk : V G y R Qf pc' (x0 :: x1 :: x2 :: x3 :: some (.inr r) :: L) st sz m k n) : V G y R Qf pc (x0 :: x1 :: x2 :: x3 :: w :: L) (.inr r :: st) sz m k n := V.astore h (by show 4 < List.length _; simp) kk
theorem V.inc4 {x0 x1 x2 x3 : Option AV} {d z : Int} {L : List (Option AV)} (h : At y pc (.iinc 4 d) 3 pc') (hz : inR (z + d)) (kk : V G y R Qf pc' (x0 :: x1 :: x2 :: x3 :: some (.inl (z + d)) :: L) st sz m k n) : V G y R Qf pc (x0 :: x1 :: x2 :: x3 :: some (.inl z) :: L) st sz m k n := V.iinc h rfl hz kk
theorem V.ild4 {x0 x1 x2 x3 : Option AV} {z : Int} {L : List (Option AV)} (h : At y pc (.iload 4) 2 pc') (kk : V G y R Qf pc' (x0 :: x1 :: x2 :: x3 :: some (.inl z) :: L) (.inl z :: st) sz m k n) : V G y R Qf pc (x0 :: x1 :: x2 :: x3 :: some (.inl z) :: L) st sz m k n := V.iload h rfl kk
theorem V.ald4 {x0 x1 x2 x3 : Option AV} {r : Option Nat} {L : List (Option AV)} (h : At y pc (.aload 4) 2 pc') (kk : V G y R Qf pc' (x0 :: x1 :: x2 :: x3 :: some (.inr r) :: L) (.inr r :: st) sz m k n) : V G y R Qf pc (x0 :: x1 :: x2 :: x3 :: some (.inr r) :: L) st sz m k n := V.aload h rfl kk
theorem V.ist5 {x0 x1 x2 x3 x4 w : Option AV} {z : Int} {L : List (Option AV)} (h : At y pc (.istore 5) 2 pc') (kk : V G y R Qf pc' (x0 :: x1 :: x2 :: x3 :: x4 :: some (.inl z) :: L) st sz m k n) : V G y R Qf pc (x0 :: x1 :: x2 :: x3 :: x4 :: w :: L) (.inl z :: st) sz m k n := V.istore h (by show 5 < List.length _; simp) kk
theorem V.ast5 {x0 x1 x2 x3 x4 w : Option AV} {r : Option Nat} {L : List (Option AV)} (h : At y pc (.astore 5) 2 pc') (kk : V G y R Qf pc' (x0 :: x1 :: x2 :: x3 :: x4 :: some (.inr r) :: L) st sz m k n) : V G y R Qf pc (x0 :: x1 :: x2 :: x3 :: x4 :: w :: L) (.inr r :: st) sz m k n := V.astore h (by show 5 < List.length _; simp) kk
theorem V.inc5 {x0 x1 x2 x3 x4 : Option AV} {d z : Int} {L : List (Option AV)} (h : At y pc (.iinc 5 d) 3 pc') (hz : inR (z + d)) (kk : V G y R Qf pc' (x0 :: x1 :: x2 :: x3 :: x4 :: some (.inl (z + d)) :: L) st sz m k n) : V G y R Qf pc (x0 :: x1 :: x2 :: x3 :: x4 :: some (.inl z) :: L) st sz m k n := V.iinc h rfl hz kk
theorem V.ild5 {x0 x1 x2 x3 x4 : Option AV} {z : Int} {L : List (Option AV)} (h : At y pc (.iload 5) 2 pc') (kk : V G y R Qf pc' (x0 :: x1 :: x2 :: x3 :: x4 :: some (.inl z) :: L) (.inl z :: st) sz m k n) : V G y R Qf pc (x0 :: x1 :: x2 :: x3 :: x4 :: some (.inl z) :: L) st sz m k n := V.iload h rfl kk
theorem V.ald5 {x0 x1 x2 x3 x4 : Option AV} {r : Option Nat} {L : List (Option AV)} (h : At y pc (.aload 5) 2 pc') (kk : V G y R Qf pc' (x0 :: x1 :: x2 :: x3 :: x4 :: some (.inr r) :: L) (.inr r :: st) sz m k n) : V G y R Qf pc (x0 :: x1 :: x2 :: x3 :: x4 :: some (.inr r) :: L) st sz m k n := V.aload h rfl kk
theorem V.ist6 {x0 x1 x2 x3 x4 x5 w : Option AV} {z : Int} {L : List (Option AV)} (h : At y pc (.istore 6) 2 pc') (kk : V G y R Qf pc' (x0 :: x1 :: x2 :: x3 :: x4 :: x5 :: some (.inl z) :: L) st sz m k n) : V G y R Qf pc (x0 :: x1 :: x2 :: x3 :: x4 :: x5 :: w :: L) (.inl z :: st) sz m k n := V.istore h (by show 6 < List.length _; simp) kk
theorem V.ast6 {x0 x1 x2 x3 x4 x5 w : Option AV} {r : Option Nat} {L : List (Option AV)} (h : At y pc (.astore 6) 2 pc') (kk : V G y R Qf pc' (x0 :: x1 :: x2 :: x3 :: x4 :: x5 :: some (.inr r) :: L) st sz m k n) : V G y R Qf pc (x0 :: x1 :: x2 :: x3 :: x4 :: x5 :: w :: L) (.inr r :: st) sz m k n := V.astore h (by show 6 < List.length _; simp) kk
theorem V.inc6 {x0 x1 x2 x3 x4 x5 : Option AV} {d z : Int} {L : List (Option AV)} (h : At y pc (.iinc 6 d) 3 pc') (hz : inR (z + d)) (kk : V G y R Qf pc' (x0 :: x1 :: x2 :: x3 :: x4 :: x5 :: some (.inl (z + d)) :: L) st sz m k n) : V G y R Qf pc (x0 :: x1 :: x2 :: x3 :: x4 :: x5 :: some (.inl z) :: L) st sz m k n := V.iinc h rfl hz kk
theorem V.ild6 {x0 x1 x2 x3 x4 x5 : Option AV} {z : Int} {L : List (Option AV)} (h : At y pc (.iload 6) 2 pc') (kk : V G y R Qf pc' (x0 :: x1 :: x2 :: x3 :: x4 :: x5 :: some (.inl z) :: L) (.inl z :: st) sz m k n) : V G y R Qf pc (x0 :: x1 :: x2 :: x3 :: x4 :: x5 :: some (.inl z) :: L) st sz m k n := V.iload h rfl kk
theorem V.ald6 {x0 x1 x2 x3 x4 x5 : Option AV} {r : Option Nat} {L : List (Option AV)} (h : At y pc (.aload 6) 2 pc') (kk : V G y R Qf pc' (x0 :: x1 :: x2 :: x3 :: x4 :: x5 :: some (.inr r) :: L) (.inr r :: st) sz m k n) : V G y R Qf pc (x0 :: x1 :: x2 :: x3 :: x4 :: x5 :: some (.inr r) :: L) st sz m k n := V.aload h rfl kk
theorem V.ist7 {x0 x1 x2 x3 x4 x5 x6 w : Option AV} {z : Int} {L : List (Option AV)} (h : At y pc (.istore 7) 2 pc') (kk : V G y R Qf pc' (x0 :: x1 :: x2 :: x3 :: x4 :: x5 :: x6 :: some (.inl z) :: L) st sz m k n) : V G y R Qf pc (x0 :: x1 :: x2 :: x3 :: x4 :: x5 :: x6 :: w :: L) (.inl z :: st) sz m k n := V.istore h (by show 7 < List.length _; simp) kk
theorem V.ast7 {x0 x1 x2 x3 x4 x5 x6 w : Option AV} {r : Option Nat} {L : List (Option AV)} (h : At y pc (.astore 7) 2 pc') (kk : V G y R Qf pc' (x0 :: x1 :: x2 :: x3 :: x4 :: x5 :: x6 :: some (.inr r) :: L) st sz m k n) : V G y R Qf pc (x0 :: x1 :: x2 :: x3 :: x4 :: x5 :: x6 :: w :: L) (.inr r :: st) sz m k n := V.astore h (by show 7 < List.length _; simp) kk
theorem V.inc7 {x0 x1 x2 x3 x4 x5 x6 : Option AV} {d z : Int} {L : List (Option AV)} (h : At y pc (.iinc 7 d) 3 pc') (hz : inR (z + d)) (kk : V G y R Qf pc' (x0 :: x1 :: x2 :: x3 :: x4 :: x5 :: x6 :: some (.inl (z + d)) :: L) st sz m k n) : V G y R Qf pc (x0 :: x1 :: x2 :: x3 :: x4 :: x5 :: x6 :: some (.inl z) :: L) st sz m k n := V.iinc h rfl hz kk
theorem V.ild7 {x0 x1 x2 x3 x4 x5 x6 : Option AV} {z : Int} {L : List (Option AV)} (h : At y pc (.iload 7) 2 pc') (kk : V G y R Qf pc' (x0 :: x1 :: x2 :: x3 :: x4 :: x5 :: x6 :: some (.inl z) :: L) (.inl z :: st) sz m k n) : V G y R Qf pc (x0 :: x1 :: x2 :: x3 :: x4 :: x5 :: x6 :: some (.inl z) :: L) st sz m k n := V.iload h rfl kk
theorem V.ald7 {x0 x1 x2 x3 x4 x5 x6 : Option AV} {r : Option Nat} {L : List (Option AV)} (h : At y pc (.aload 7) 2 pc') (kk : V G y R Qf pc' (x0 :: x1 :: x2 :: x3 :: x4 :: x5 :: x6 :: some (.inr r) :: L) (.inr r :: st) sz m k n) : V G y R Qf pc (x0 :: x1 :: x2 :: x3 :: x4 :: x5 :: x6 :: some (.inr r) :: L) st sz m k n := V.aload h rfl kk
theorem V.ist8 {x0 x1 x2 x3 x4 x5 x6 x7 w : Option AV} {z : Int} {L : List (Option AV)} (h : At y pc (.istore 8) 2 pc') (kk : V G y R Qf pc' (x0 :: x1 :: x2 :: x3 :: x4 :: x5 :: x6 :: x7 :: some (.inl z) :: L) st sz m k n) : V G y R Qf pc (x0 :: x1 :: x2 :: x3 :: x4 :: x5 :: x6 :: x7 :: w :: L) (.inl z :: st) sz m k n := V.istore h (by show 8 < List.length _; simp) kk
theorem V.ast8 {x0 x1 x2 x3 x4 x5 x6 x7 w : Option AV} {r : Option Nat} {L : List (Option AV)} (h : At y pc (.astore 8) 2 pc') (kk : V G y R Qf pc' (x0 :: x1 :: x2 :: x3 :: x4 :: x5 :: x6 :: x7 :: some (.inr r) :: L) st sz m k n) : V G y R Qf pc (x0 :: x1 :: x2 :: x3 :: x4 :: x5 :: x6 :: x7 :: w :: L) (.inr r :: st) sz m k n := V.astore h (by show 8 < List.length _; simp) kk
theorem V.inc8 {x0 x1 x2 x3 x4 x5 x6 x7 : Option AV} {d z : Int} {L : List (Option AV)} (h : At y pc (.iinc 8 d) 3 pc') (hz : inR (z + d)) (kk : V G y R Qf pc' (x0 :: x1 :: x2 :: x3 :: x4 :: x5 :: x6 :: x7 :: some (.inl (z + d)) :: L) st sz m k n) : V G y R Qf pc (x0 :: x1 :: x2 :: x3 :: x4 :: x5 :: x6 :: x7 :: some (.inl z) :: L) st sz m k n := V.iinc h rfl hz kk
theorem V.ild8 {x0 x1 x2 x3 x4 x5 x6 x7 : Option AV} {z : Int} {L : List (Option AV)} (h : At y pc (.iload 8) 2 pc') (kk : V G y R Qf pc' (x0 :: x1 :: x2 :: x3 :: x4 :: x5 :: x6 :: x7 :: some (.inl z) :: L) (.inl z :: st) sz m k n) : V G y R Qf pc (x0 :: x1 :: x2 :: x3 :: x4 :: x5 :: x6 :: x7 :: some (.inl z) :: L) st sz m k n := V.iload h rfl kk
theorem V.ald8 {x0 x1 x2 x3 x4 x5 x6 x7 : Option AV} {r : Option Nat} {L : List (Option AV)} (h : At y pc (.aload 8) 2 pc') (kk : V G y R Qf pc' (x0 :: x1 :: x2 :: x3 :: x4 :: x5 :: x6 :: x7 :: some (.inr r) :: L) (.inr r :: st) sz m k n) : V G y R Qf pc (x0 :: x1 :: x2 :: x3 :: x4 :: x5 :: x6 :: x7 :: some (.inr r) :: L) st sz m k n := V.aload h rfl kk
end
end
section
-- rows of V for the heap: fields, arrays, new cells
theorem oneP {D : va_G} {a : Nat} {e : va_E} {H : Heap} (h : va_at D vwCl (a, e) H) : va_P D vwCl [(a, e)] H := by
  intro k q hk
  cases k with
  | zero => cases hk; exact h
  | succ k => cases hk
def FL (own : String) (idx ci j : Nat) (fin : Bool) (ty : FieldType) : Prop := ∃ (C : String) (T : u_T) (N : Nat) (ty0 : Nat → FieldType), vwCl[ci]? = some (C, T, N) ∧ (∀ w ∈ u_ws C T N, w ∈ GW) ∧ Cond.fieldLink own idx (T j).1 (T j).2.1 (T j).2.2.1 ∈ GW ∧ j < N ∧ (T j).2.2.2 = fin ∧
  (∀ k, k < N → parseFieldDescriptor (T k).2.2.1 = some (ty0 k)) ∧ (∀ a, a < N → ∀ b, b < N → a ≠ b → (T a).2.1 ≠ (T b).2.1) ∧ ty0 j = ty ∧ (fin = true → (T j).1 = C)
def NL (own : String) (idx ci N : Nat) (fs : List AV) : Prop := ∃ (C : String) (T : u_T) (ty0 : Nat → FieldType), vwCl[ci]? = some (C, T, N) ∧ (∀ w ∈ u_ws C T N, w ∈ GW) ∧ (∀ k, k < N → parseFieldDescriptor (T k).2.2.1 = some (ty0 k)) ∧
  Cond.classLink own idx C ∈ GW ∧ Cond.instantiable C N ∈ GW ∧ Cond.initialized C ∈ GW ∧ (∀ j, j < N → defaultValue (ty0 j) = vp_V (fs.map toV) j) ∧ (∀ v ∈ fs, wfv v)
section
variable {G : GX} {y : MK} {R : Room} {Qf : QF} {pc pc' : Nat} {L : List (Option AV)} {st : List AV} {sz : Nat} {m : Mem} {k n : Nat}
theorem V.getf {a ci j idx : Nat} {fin : Bool} {ty : FieldType} {fs : List AV} {v : AV} (h : At y pc (.getfield idx) 3 pc') (hf : FL y.1.cls idx ci j fin ty) (hm : m a = obj ci fs) (hv : fs[j]? = some v) (kk : V G y R Qf pc' L (v :: st) sz m k n) : V G y R Qf pc L (.inr (some a) :: st) sz m k n := by
  obtain ⟨hd, rfl⟩ := h
  obtain ⟨C, T, N, ty0, hc, hin, hl, hj, -⟩ := hf
  intro p e s mid args below meth c H locs ls hC hR hS hL hW
  have hx := hC
  obtain ⟨hexec, hb, hml, hr, hlk, hown, hnm, hts, hB⟩ := hx
  have h0 := hR.2.2 a
  rw [hm] at h0
  exact va_get hexec hb hts hin hown hB.1 (oneP h0.2.2) 0 rfl hc j hj (hts _ hl) (fun _ h => h) (v := toV v) (by rw [List.getElem?_map, hv]; rfl) hd
    (kk p e s mid args below meth c H locs ls hC hR hS hL (hW.tl.push (h0.2.1 v (List.mem_of_getElem? hv))))
theorem toV_set (fs : List AV) (j : Nat) (v : AV) : (fs.set j v).map toV = (fs.map toV).set j (toV v) := by
  rw [List.map_set]
theorem wf_set {fs : List AV} (h : ∀ v ∈ fs, wfv v) {j : Nat} {v : AV} (hv : wfv v) : ∀ w ∈ fs.set j v, wfv w := by
  intro w hw
  rcases List.mem_or_eq_of_mem_set hw with h1 | h1
  · exact h w h1
  · rw [h1]; exact hv
theorem V.putf {a ci j idx : Nat} {ty : FieldType} {fs : List AV} {v : AV} (h : At y pc (.putfield idx) 3 pc') (hf : FL y.1.cls idx ci j false ty) (hm : m a = obj ci fs) (hj2 : j < fs.length) (hn : narrow ty (toV v) = toV v) (hfit : fits ty (toV v) = true) (kk : V G y R Qf pc' L st sz (upM m a (obj ci (fs.set j v))) k n) : V G y R Qf pc L (v :: .inr (some a) :: st) sz m k n := by
  obtain ⟨hd, rfl⟩ := h
  obtain ⟨C, T, N, ty0, hc, hin, hl, hj, hfin, hty, hap, hty0, -⟩ := hf
  intro p e s mid args below meth c H locs ls hC hR hS hL hW
  have hx := hC
  obtain ⟨hexec, hb, hml, hr, hlk, hown, hnm, hts, hB⟩ := hx
  have h0 := hR.2.2 a
  rw [hm] at h0
  obtain ⟨hNa, hwf, hat⟩ := h0
  have hap2 := va_apart (own := y.1.cls) hts hin ty0 hty hap hB.1 hc
  obtain ⟨r, h1, cell, q1, q2, q3, q4⟩ := hat
  have hr2 : r = (C, T, N) := Option.some.inj (h1.symm.trans hc)
  subst hr2
  obtain ⟨hSl, hfc, kC, hkC, hkind⟩ := hB.1.1 ci _ hc
  obtain ⟨cf, kf, fi, f, hi, hsl⟩ := hSl j hj
  have hlay := hts _ (hin _ (u_in_lay hj))
  unfold u_lay at hlay
  rw [if_neg (by rw [hfin]; decide)] at hlay
  have hst := (u_facts hfc hkC (u_lays hts hin hj) hi).1
  have h6 := u_store hfc hkC hkind hlay hi (hty j hj) (by rw [hty0]; exact hn) (by rw [hty0]; exact hfit)
  refine W.putK hexec hb (f := f) ⟨hown, hts _ hl, ⟨_, _, _, hi⟩, hst⟩ (by rw [q2]; exact h6) q1 q3 (by rw [hsl]; exact k2_hasslot (q4 j hj)) rfl rfl hd fun H' e1 e2 e3 => ?_
  rw [hsl] at e1 ⊢
  refine kk p e s mid args below meth c H' _ ls hC (hR.set e2 e3 ⟨hNa, wf_set hwf hW.hd, ?_⟩) (hS.put e2 e3 hNa) hL hW.tl.tl
  rw [toV_set]
  exact ⟨_, hc, t_OB.to (V := updV (vp_V (fs.map toV)) j (toV v)) ⟨_, e1, q2, q3, t_set q4 hap2 hj (toV v)⟩ (fun i _ => vp_updV_set (by rw [List.length_map]; exact hj2) (toV v) i)⟩
theorem V.putF {a ci j idx : Nat} {ty : FieldType} {fs : List AV} {v : AV} (h : At y pc (.putfield idx) 3 pc') (hf : FL y.1.cls idx ci j true ty) (hown2 : y.1.cls = rcl ci) (hini : y.1.name = "<init>") (hm : m a = obj ci fs) (hj2 : j < fs.length) (hn : narrow ty (toV v) = toV v) (hfit : fits ty (toV v) = true) (kk : V G y R Qf pc' L st sz (upM m a (obj ci (fs.set j v))) k n) : V G y R Qf pc L (v :: .inr (some a) :: st) sz m k n := by
  obtain ⟨hd, rfl⟩ := h
  obtain ⟨C, T, N, ty0, hc, hin, hl, hj, hfin, hty, hap, hty0, hdc⟩ := hf
  intro p e s mid args below meth c H locs ls hC hR hS hL hW
  have hx := hC
  obtain ⟨hexec, hb, hml, hr, hlk, hown, hnm, hts, hB⟩ := hx
  have h0 := hR.2.2 a
  rw [hm] at h0
  obtain ⟨hNa, hwf, hat⟩ := h0
  have hap2 := va_apart (own := y.1.cls) hts hin ty0 hty hap hB.1 hc
  obtain ⟨r, h1, cell, q1, q2, q3, q4⟩ := hat
  have hr2 : r = (C, T, N) := Option.some.inj (h1.symm.trans hc)
  subst hr2
  obtain ⟨hSl, hfc, kC, hkC, hkind⟩ := hB.1.1 ci _ hc
  obtain ⟨cf, kf, fi, f, hi, hsl⟩ := hSl j hj
  have hlay := hts _ (hin _ (u_in_lay hj))
  unfold u_lay at hlay
  rw [if_pos hfin] at hlay
  have hst := (u_facts hfc hkC (u_lays hts hin hj) hi).1
  have hrc : y.1.cls = C := by rw [hown2]; unfold rcl; rw [hc]
  have hcf : mid.cls = cf := by
    obtain ⟨_, _, c', _, _, _, -, -, hf', -, -, -, hown3, -⟩ := Cond.laysFinal_spec hlay
    have e1 : c' = cf := by have := hi.symm.trans hf'; simp at this; exact this.1.symm
    rw [hdc rfl, ← hrc] at hown3
    rw [← e1]; exact Option.some.inj (hown.symm.trans hown3)
  have h6 := u_fits hfc hkC hkind (Or.inr hlay) hi (hty j hj) (v := toV v) (by rw [hty0]; exact hn) (by rw [hty0]; exact hfit)
  refine W.putFinK hexec hb hown (hts _ hl) hi hst hcf (hnm.trans hini) (by rw [q2]; exact h6) q1 q3 (by rw [hsl]; exact k2_hasslot (q4 j hj)) rfl rfl hd fun H' e1 e2 e3 => ?_
  rw [hsl] at e1 ⊢
  refine kk p e s mid args below meth c H' _ ls hC (hR.set e2 e3 ⟨hNa, wf_set hwf hW.hd, ?_⟩) (hS.put e2 e3 hNa) hL hW.tl.tl
  rw [toV_set]
  exact ⟨_, hc, t_OB.to (V := updV (vp_V (fs.map toV)) j (toV v)) ⟨_, e1, q2, q3, t_set q4 hap2 hj (toV v)⟩ (fun i _ => vp_updV_set (by rw [List.length_map]; exact hj2) (toV v) i)⟩
theorem va_S.grow {A : Nat → Prop} {H0 H H1 : Heap} {locs : List Loc} {z : Nat} (h : va_S A H0 H locs) (hz : H.size = z) (z1 : H1.size = z + 1) (o : ∀ q, q < z → H1[q]? = H[q]?) : va_S A H0 H1 locs :=
  ⟨Nat.le_trans h.1 (by omega), fun x h1 h2 => (o x (by have := h.1; omega)).trans (h.2.1 x h1 h2), h.2.2⟩
theorem V.new {ci N idx : Nat} {fs : List AV} (h : At y pc (.new idx) 3 pc') (hn : NL y.1.cls idx ci N fs) (hr : k + 1 ≤ R.cells ∧ n + N ≤ R.slots) (kk : V G y R Qf pc' L (.inr (some sz) :: st) (sz + 1) (upM m sz (obj ci fs)) (k + 1) (n + N)) : V G y R Qf pc L st sz m k n := by
  obtain ⟨hd, rfl⟩ := h
  obtain ⟨C, T, ty0, hc, hin, hty, hcl, hinst, hini, hdef, hwf⟩ := hn
  intro p e s mid args below meth c H locs ls hC hR hS hL hW
  have hx := hC
  obtain ⟨hexec, hb, hml, hrt, hlk, hown, hnm, hts, hB⟩ := hx
  have hKn := hB.1.1 ci _ hc
  refine W.newcK hexec hb hown (hts _ hcl) (hts _ hinst) (hts _ hini) rfl hd hr.1 hr.2 hKn.2.1 hR.1 fun H1 kC hkC e1 z1 o1 => ?_
  exact kk p e s mid args below meth c H1 locs ls hC (hR.push z1 o1 ⟨hR.2.1, hwf, ⟨_, hc, (u_born ty0 hts hin hKn hkC e1 hty).to hdef⟩⟩) (hS.grow hR.1 z1 o1) hL (hW.push trivial)
theorem V.newi {z : Int} (h : At y pc (.newarray .int) 2 pc') (hz : 0 ≤ z ∧ z < 100000) (hr : k + 1 ≤ R.cells ∧ n + z.toNat ≤ R.slots) (kk : V G y R Qf pc' L (.inr (some sz) :: st) (sz + 1) (upM m sz (iar z.toNat (fun _ => 0))) (k + 1) (n + z.toNat)) : V G y R Qf pc L (.inl z :: st) sz m k n := by
  obtain ⟨hd, rfl⟩ := h
  intro p e s mid args below meth c H locs ls hC hR hS hL hW
  have hx := hC
  obtain ⟨hexec, hb, hml, hrt, hlk, hown, hnm, hts, hB⟩ := hx
  refine va_newaK (atype := .int) hexec hb (hts _ gj_aint) rfl hd rfl (n := Int32.ofInt z) (fun q => by have := (oI_lt (a := z) (b := 0) ⟨by omega, by omega⟩ (by decide)).mp q; omega) (oI_clamp hz.1 (by omega)) (by show z.toNat * 4 ≤ _; omega) hr.1 hr.2 hR.1 fun H1 cA e1 z1 o1 hA hN => ?_
  exact kk p e s mid args below meth c H1 locs ls hC (hR.push z1 o1 ⟨Or.inl hR.2.1, fun i _ _ => ⟨show inR 0 by decide, fun q => by cases q⟩, cA, hA, hN, e1⟩) (hS.grow hR.1 z1 o1) hL (hW.tl.push trivial)
theorem V.newc {z : Int} (h : At y pc (.newarray .char) 2 pc') (hz : 0 ≤ z ∧ z < 100000) (hr : k + 1 ≤ R.cells ∧ n + z.toNat ≤ R.slots) (kk : V G y R Qf pc' L (.inr (some sz) :: st) (sz + 1) (upM m sz (car z.toNat (fun _ => 0))) (k + 1) (n + z.toNat)) : V G y R Qf pc L (.inl z :: st) sz m k n := by
  obtain ⟨hd, rfl⟩ := h
  intro p e s mid args below meth c H locs ls hC hR hS hL hW
  have hx := hC
  obtain ⟨hexec, hb, hml, hrt, hlk, hown, hnm, hts, hB⟩ := hx
  refine va_newaK (atype := .char) hexec hb (hts _ gj_achar) rfl hd rfl (n := Int32.ofInt z) (fun q => by have := (oI_lt (a := z) (b := 0) ⟨by omega, by omega⟩ (by decide)).mp q; omega) (oI_clamp hz.1 (by omega)) (by show z.toNat * 2 ≤ _; omega) hr.1 hr.2 hR.1 fun H1 cA e1 z1 o1 hA hN => ?_
  exact kk p e s mid args below meth c H1 locs ls hC (hR.push z1 o1 ⟨Or.inl hR.2.1, fun i _ _ => ⟨show inR 0 by decide, fun _ => show (0 : Int) ≤ 0 ∧ (0 : Int) < 65536 by decide⟩, cA, hA, hN, e1⟩) (hS.grow hR.1 z1 o1) hL (hW.tl.push trivial)
theorem V.newr {ci idx : Nat} {z : Int} (h : At y pc (.anewarray idx) 3 pc') (hcl : Cond.classLink y.1.cls idx (rcl ci) ∈ GW) (hci : ci = 0 ∨ ci = 2 ∨ ci = 4) (hz : 0 ≤ z ∧ z < 100000) (hr : k + 1 ≤ R.cells ∧ n + z.toNat ≤ R.slots) (kk : V G y R Qf pc' L (.inr (some sz) :: st) (sz + 1) (upM m sz (rar ci z.toNat (fun _ => none))) (k + 1) (n + z.toNat)) : V G y R Qf pc L (.inl z :: st) sz m k n := by
  obtain ⟨hd, rfl⟩ := h
  intro p e s mid args below meth c H locs ls hC hR hS hL hW
  have hx := hC
  obtain ⟨hexec, hb, hml, hrt, hlk, hown, hnm, hts, hB⟩ := hx
  have hover : va_AO (rcl ci) s := by
    obtain ⟨-, -, -, -, -, -, h7, h8, h9⟩ := hB
    rcases hci with rfl | rfl | rfl
    · exact h8
    · exact h7
    · exact h9
  have hcz := oI_clamp hz.1 (show z < 2147483648 by omega)
  refine W.anew hexec hb hown (hts _ hcl) (va_AO.use hover) rfl hd rfl (n := Int32.ofInt z) (fun q => by have := (oI_lt (a := z) (b := 0) ⟨by omega, by omega⟩ (by decide)).mp q; omega) (by rw [hcz]; omega) hr.1 (by rw [hcz]; exact hr.2) fun cA kA comp f1 f2 f3 f4 => ?_
  rw [hcz]
  generalize hH1 : H.push ({ cls := cA, slots := Array.replicate z.toNat .null, vm := .none } : Cell) = H1
  have z1 : H1.size = sz + 1 := by rw [← hH1, Array.size_push, hR.1]
  have e1 : H1[sz]? = some (arrV cA z.toNat (fun _ => .null)) := by rw [← hH1, ← hR.1, Array.getElem?_push_size, ← arrV_new]
  have o1 : ∀ q : Nat, q < sz → H1[q]? = H[q]? := fun q hq => by rw [← hH1, Array.getElem?_push, if_neg (by rw [hR.1]; exact Nat.ne_of_lt hq)]
  rw [hR.1]
  exact kk p e s mid args below meth c H1 locs ls hC (hR.push z1 o1 ⟨hR.2.1, cA, fun N z => ⟨(fun k h => by cases h), kA, f2, comp, f3⟩, ⟨kA, comp, f2, f3, f4, f1⟩, e1⟩) (hS.grow hR.1 z1 o1) hL (hW.tl.push trivial)
theorem V.iald {a nn : Nat} {f : Int → Int} {i : Int} (h : At y pc .iaload 1 pc') (hm : m a = iar nn f) (h0 : 0 ≤ i) (h1 : i < nn) (kk : V G y R Qf pc' L (.inl (f i) :: st) sz m k n) : V G y R Qf pc L (.inl i :: .inr (some a) :: st) sz m k n := by
  obtain ⟨hd, rfl⟩ := h
  intro p e s mid args below meth c H locs ls hC hR hS hL hW
  have wi : inR i := hW.hd
  have ha := hR.2.2 a
  rw [hm] at ha
  obtain ⟨-, g2, cA, g3, g4, g5⟩ := ha
  have hcl := oI_clamp h0 wi.2
  exact W.iald (v := .int (Int32.ofInt (f i))) hC.1 hC.2.1 g5 (g3 _ _) (fun q => by cases q) (by rw [arrV_size]; exact oI_in h0 h1 wi.2) (by rw [hcl, arrV_read _ _ (by omega), show ((i.toNat : Nat) : Int) = i by omega]) rfl rfl hd
    (kk p e s mid args below meth c H locs ls hC hR hS hL (hW.tl.tl.push (v := .inl (f i)) (g2 i h0 h1).1))
theorem V.fald {a nn : Nat} {f : Int → Int} {i : Int} (h : At y pc .iaload 1 pc') (hm : m a = fiar nn f) (h0 : 0 ≤ i) (h1 : i < nn) (kk : V G y R Qf pc' L (.inl (f i) :: st) sz m k n) : V G y R Qf pc L (.inl i :: .inr (some a) :: st) sz m k n := by
  obtain ⟨hd, rfl⟩ := h
  intro p e s mid args below meth c H locs ls hC hR hS hL hW
  have wi : inR i := hW.hd
  have ha := hR.2.2 a
  rw [hm] at ha
  obtain ⟨-, g2, cA, g3, g4, g5⟩ := ha
  have hcl := oI_clamp h0 wi.2
  exact W.iald (v := .int (Int32.ofInt (f i))) hC.1 hC.2.1 g5 (g3 _ _) (fun q => by cases q) (by rw [arrV_size]; exact oI_in h0 h1 wi.2) (by rw [hcl, arrV_read _ _ (by omega), show ((i.toNat : Nat) : Int) = i by omega]) rfl rfl hd
    (kk p e s mid args below meth c H locs ls hC hR hS hL (hW.tl.tl.push (v := .inl (f i)) (g2 i h0 h1).1))
theorem V.cald {a nn : Nat} {f : Int → Int} {i : Int} (h : At y pc .caload 1 pc') (hm : m a = car nn f) (h0 : 0 ≤ i) (h1 : i < nn) (kk : V G y R Qf pc' L (.inl (f i) :: st) sz m k n) : V G y R Qf pc L (.inl i :: .inr (some a) :: st) sz m k n := by
  obtain ⟨hd, rfl⟩ := h
  intro p e s mid args below meth c H locs ls hC hR hS hL hW
  have wi : inR i := hW.hd
  have ha := hR.2.2 a
  rw [hm] at ha
  obtain ⟨-, g2, cA, g3, g4, g5⟩ := ha
  have hcl := oI_clamp h0 wi.2
  exact W.cald (v := .int (Int32.ofInt (f i))) hC.1 hC.2.1 g5 (g3 _ _) (fun q => by cases q) (by rw [arrV_size]; exact oI_in h0 h1 wi.2) (by rw [hcl, arrV_read _ _ (by omega), show ((i.toNat : Nat) : Int) = i by omega]) rfl rfl hd
    (kk p e s mid args below meth c H locs ls hC hR hS hL (hW.tl.tl.push (v := .inl (f i)) (g2 i h0 h1).1))
theorem V.aald {a ci nn : Nat} {g : Int → Option Nat} {i : Int} (h : At y pc .aaload 1 pc') (hm : m a = rar ci nn g) (h0 : 0 ≤ i) (h1 : i < nn) (kk : V G y R Qf pc' L (.inr (g i) :: st) sz m k n) : V G y R Qf pc L (.inl i :: .inr (some a) :: st) sz m k n := by
  obtain ⟨hd, rfl⟩ := h
  intro p e s mid args below meth c H locs ls hC hR hS hL hW
  have wi : inR i := hW.hd
  have ha := hR.2.2 a
  rw [hm] at ha
  obtain ⟨-, cA, g3, g4, g5⟩ := ha
  have hcl := oI_clamp h0 wi.2
  have e1 : toV (.inr (g i)) = va_rf (g i) := by cases g i <;> rfl
  refine W.aald (v := va_rf (g i)) (ty := .object (rcl ci)) hC.1 hC.2.1 g5 (g3 _ _) rfl (fun q => by cases q) (by rw [arrV_size]; exact oI_in h0 h1 wi.2) (by rw [hcl, arrV_read _ _ (by omega), show ((i.toNat : Nat) : Int) = i by omega]) rfl rfl hd ?_
  rw [← e1]
  exact kk p e s mid args below meth c H locs ls hC hR hS hL (hW.tl.tl.push (v := .inr (g i)) trivial)
theorem arr_put {cA : ClassId} {nn : Nat} {f : Int → Int} {i x : Int} (h0 : 0 ≤ i) : arrV cA nn (updV (fun j : Nat => .int (Int32.ofInt (f (j : Int)))) i.toNat (.int (Int32.ofInt x))) = arrV cA nn (fun j : Nat => .int (Int32.ofInt (upI f i x (j : Int)))) := by
  congr 1
  funext j
  unfold updV upI
  by_cases hj : j = i.toNat
  · rw [if_pos hj, if_pos (by omega)]
  · rw [if_neg hj, if_neg (by omega)]
theorem V.iast {a nn : Nat} {f : Int → Int} {i x : Int} (h : At y pc .iastore 1 pc') (hm : m a = iar nn f) (h0 : 0 ≤ i) (h1 : i < nn) (kk : V G y R Qf pc' L st sz (upM m a (iar nn (upI f i x))) k n) : V G y R Qf pc L (.inl x :: .inl i :: .inr (some a) :: st) sz m k n := by
  obtain ⟨hd, rfl⟩ := h
  intro p e s mid args below meth c H locs ls hC hR hS hL hW
  have wx : inR x := hW.hd
  have wi : inR i := hW.tl.hd
  have ha := hR.2.2 a
  rw [hm] at ha
  obtain ⟨g1, g2, cA, g3, g4, g5⟩ := ha
  have hN : G.2.2.1 ≤ a := by rcases g1 with q | q | q <;> omega
  have hcl := oI_clamp h0 wi.2
  refine W.iast hC.1 hC.2.1 g5 (g3 _ _) (fun q => by cases q) (by rw [arrV_size]; exact oI_in h0 h1 wi.2) rfl rfl hd fun H' e1 e2 e3 => ?_
  rw [hcl, arrV_store, arr_put h0] at e1
  refine kk p e s mid args below meth c H' _ ls hC (hR.set e2 e3 ⟨Or.inl hN, fun j j0 j1 => ⟨?_, fun q => by cases q⟩, cA, g3, g4, e1⟩) (hS.put e2 e3 hN) hL hW.tl.tl.tl
  by_cases hj : j = i
  · subst hj
    rw [upI_s]
    exact wx
  · rw [upI_n hj]
    exact (g2 j j0 j1).1
theorem V.cast {a nn : Nat} {f : Int → Int} {i x : Int} (h : At y pc .castore 1 pc') (hm : m a = car nn f) (h0 : 0 ≤ i) (h1 : i < nn) (x0 : 0 ≤ x) (x1 : x < 65536) (kk : V G y R Qf pc' L st sz (upM m a (car nn (upI f i x))) k n) : V G y R Qf pc L (.inl x :: .inl i :: .inr (some a) :: st) sz m k n := by
  obtain ⟨hd, rfl⟩ := h
  intro p e s mid args below meth c H locs ls hC hR hS hL hW
  have wx : inR x := hW.hd
  have wi : inR i := hW.tl.hd
  have ha := hR.2.2 a
  rw [hm] at ha
  obtain ⟨g1, g2, cA, g3, g4, g5⟩ := ha
  have hN : G.2.2.1 ≤ a := by rcases g1 with q | q | q <;> omega
  have hcl := oI_clamp h0 wi.2
  have en : narrow .char (.int (Int32.ofInt x)) = .int (Int32.ofInt x) := by
    have e0 : Int32.ofInt x = nI x.toNat := by
      show _ = Int32.ofNat _
      rw [← Int32.ofInt_eq_ofNat]
      congr 1
      omega
    rw [e0]
    exact (pk_charN (by omega)).1
  refine W.cast hC.1 hC.2.1 g5 (g3 _ _) (fun q => by cases q) (by rw [arrV_size]; exact oI_in h0 h1 wi.2) rfl rfl hd fun H' e1 e2 e3 => ?_
  rw [hcl, arrV_store, en, arr_put h0] at e1
  refine kk p e s mid args below meth c H' _ ls hC (hR.set e2 e3 ⟨Or.inl hN, fun j j0 j1 => ?_, cA, g3, g4, e1⟩) (hS.put e2 e3 hN) hL hW.tl.tl.tl
  by_cases hj : j = i
  · subst hj
    rw [upI_s]
    exact ⟨wx, fun _ => ⟨x0, x1⟩⟩
  · rw [upI_n hj]
    exact g2 j j0 j1
theorem arr_putq {cA : ClassId} {nn : Nat} {g : Int → Option Nat} {i : Int} {r : Option Nat} (h0 : 0 ≤ i) : arrV cA nn (updV (fun j : Nat => va_rf (g (j : Int))) i.toNat (va_rf r)) = arrV cA nn (fun j : Nat => va_rf (upI g i r (j : Int))) := by
  congr 1
  funext j
  unfold updV upI
  by_cases hj : j = i.toNat
  · rw [if_pos hj, if_pos (by omega)]
  · rw [if_neg hj, if_neg (by omega)]
theorem V.aast {a ci nn : Nat} {g : Int → Option Nat} {i : Int} {r : Option Nat} (h : At y pc .aastore 1 pc') (hm : m a = rar ci nn g) (hci : ci < 7) (h0 : 0 ≤ i) (h1 : i < nn) (hv : ∀ v : Nat, r = some v → ∃ fs, m v = obj ci fs) (kk : V G y R Qf pc' L st sz (upM m a (rar ci nn (upI g i r))) k n) : V G y R Qf pc L (.inr r :: .inl i :: .inr (some a) :: st) sz m k n := by
  obtain ⟨hd, rfl⟩ := h
  intro p e s mid args below meth c H locs ls hC hR hS hL hW
  have wi : inR i := hW.tl.hd
  have ha := hR.2.2 a
  rw [hm] at ha
  obtain ⟨hN, cA, g3, g4, g5⟩ := ha
  have hcl := oI_clamp h0 wi.2
  have hin := oI_in h0 h1 wi.2
  cases r with
  | none =>
    refine va_WaastN (C := rcl ci) hC.1 hC.2.1 g5 (g3 _ _) (fun h => by cases h) (by rw [arrV_size]; exact hin) rfl rfl hd fun H' e1 e2 e3 => ?_
    rw [hcl, arrV_store, show (Value.null) = va_rf none from rfl, arr_putq h0] at e1
    exact kk p e s mid args below meth c H' _ ls hC (hR.set e2 e3 ⟨hN, cA, g3, g4, e1⟩) (hS.put e2 e3 hN) hL hW.tl.tl.tl
  | some v =>
    obtain ⟨fs, hmv⟩ := hv v rfl
    have hv2 := hR.2.2 v
    rw [hmv] at hv2
    obtain ⟨-, -, r0, hr0, cellV, q1, q2, q3, -⟩ := hv2
    have hcls := (hC.2.2.2.2.2.2.2.2.1.1 ci r0 hr0).2
    obtain ⟨kA, comp, k1, k2, k3, k4⟩ := g4
    have hrc : rcl ci = r0.1 := by unfold rcl; rw [hr0]
    have hcomp : comp = G.2.1.1 ci := by
      rw [hrc] at k3
      exact Option.some.inj (k3.symm.trans hcls.1)
    subst hcomp
    obtain ⟨kC, hkC, -⟩ := hcls.2
    refine W.aast hC.1 hC.2.1 g5 (fun q h => by cases h) (fun h => by cases h) k1 k2 rfl hkC ⟨fun q => hin (Or.inl q), by rw [arrV_size]; exact Nat.not_le.mp fun q => hin (Or.inr q)⟩ q1 (fun q h => by rw [q3] at h; cases h) (by rw [q2]; exact hkC) (by rw [q2]; exact va_assign hcls) rfl rfl hd fun H' e1 e2 e3 => ?_
    rw [hcl, arrV_store, show (Value.ref v) = va_rf (some v) from rfl, arr_putq h0] at e1
    exact kk p e s mid args below meth c H' _ ls hC (hR.set e2 e3 ⟨hN, cA, g3, ⟨kA, _, k1, k2, k3, k4⟩, e1⟩) (hS.put e2 e3 hN) hL hW.tl.tl.tl
theorem V.alenT {a t nn : Nat} {f : Int → Int} (h : At y pc .arraylength 1 pc') (hm : m a = .inr (.inl (t, nn, f))) (hz : inR nn) (kk : V G y R Qf pc' L (.inl nn :: st) sz m k n) : V G y R Qf pc L (.inr (some a) :: st) sz m k n := by
  obtain ⟨hd, rfl⟩ := h
  intro p e s mid args below meth c H locs ls hC hR hS hL hW
  have ha := hR.2.2 a
  rw [hm] at ha
  obtain ⟨-, g2, cA, g3, g4, g5⟩ := ha
  exact W.alen (n := Int32.ofInt nn) hC.1 hC.2.1 g5 (g3 _ _) (by rw [arrV_size, Int32.ofInt_eq_ofNat] <;> rfl) rfl rfl hd (kk p e s mid args below meth c H locs ls hC hR hS hL (hW.tl.push (v := .inl nn) hz))
theorem V.alen {a nn : Nat} {f : Int → Int} (h : At y pc .arraylength 1 pc') (hm : m a = iar nn f) (hz : inR nn) (kk : V G y R Qf pc' L (.inl nn :: st) sz m k n) : V G y R Qf pc L (.inr (some a) :: st) sz m k n := V.alenT h hm hz kk
theorem V.alenF {a nn : Nat} {f : Int → Int} (h : At y pc .arraylength 1 pc') (hm : m a = fiar nn f) (hz : inR nn) (kk : V G y R Qf pc' L (.inl nn :: st) sz m k n) : V G y R Qf pc L (.inr (some a) :: st) sz m k n := V.alenT h hm hz kk
theorem V.alenC {a nn : Nat} {f : Int → Int} (h : At y pc .arraylength 1 pc') (hm : m a = car nn f) (hz : inR nn) (kk : V G y R Qf pc' L (.inl nn :: st) sz m k n) : V G y R Qf pc L (.inr (some a) :: st) sz m k n := V.alenT h hm hz kk
theorem V.alenR {a ci nn : Nat} {g : Int → Option Nat} (h : At y pc .arraylength 1 pc') (hm : m a = rar ci nn g) (hz : inR nn) (kk : V G y R Qf pc' L (.inl nn :: st) sz m k n) : V G y R Qf pc L (.inr (some a) :: st) sz m k n := by
  obtain ⟨hd, rfl⟩ := h
  intro p e s mid args below meth c H locs ls hC hR hS hL hW
  have ha := hR.2.2 a
  rw [hm] at ha
  obtain ⟨-, cA, g3, g4, g5⟩ := ha
  exact W.alen (n := Int32.ofInt nn) hC.1 hC.2.1 g5 (g3 _ _) (by rw [arrV_size, Int32.ofInt_eq_ofNat] <;> rfl) rfl rfl hd (kk p e s mid args below meth c H locs ls hC hR hS hL (hW.tl.push (v := .inl nn) hz))
theorem V.gets {idx : Nat} (h : At y pc (.getstatic idx) 3 pc') (ho : y.1.cls = RX0) (hi : idx = 42) (kk : V G y R Qf pc' L (.inr (some G.2.2.2) :: st) sz m k n) : V G y R Qf pc L st sz m k n := by
  obtain ⟨hd, rfl⟩ := h
  subst hi
  intro p e s mid args below meth c H locs ls hC hR hS hL hW
  have hx := hC
  obtain ⟨hexec, hb, hml, hrt, hlk, hown, hnm, hts, hB⟩ := hx
  rw [ho] at hown
  exact va_getsN hexec hb hB.2.1 hS hown (va_Nw.use rfl hB.2.2.1) (fun _ h => h) hd (kk p e s mid args below meth c H locs ls hC hR hS hL (hW.push trivial))
theorem cat_sum : ∀ st : List AV, ((st.map toV).map fun v => v.category).sum = st.length
  | [] => rfl
  | v :: st => by
    simp only [List.map_cons, List.sum_cons, List.length_cons, toV_cat]
    rw [cat_sum st]
    omega
theorem V.mmax {idx : Nat} {a b : Int} (h : At y pc (.invokestatic idx) 3 pc') (hl : Cond.methodLink y.1.cls idx Lib.Math.max.name ∈ GW) (hi : Cond.initialized "java/lang/Math" ∈ GW) (hr : 1 ≤ R.frames ∧ st.length + 13 ≤ R.locals ∧ k ≤ R.cells ∧ n ≤ R.slots) (kk : V G y R Qf pc' L (.inl (max a b) :: st) sz m k n) : V G y R Qf pc L (.inl b :: .inl a :: st) sz m k n := by
  obtain ⟨hd, rfl⟩ := h
  intro p e s mid args below meth c H locs ls hC hR hS hL hW
  have hx := hC
  obtain ⟨hexec, hb, hml, hrt, hlk, hown, hnm, hts, hB⟩ := hx
  have wb : inR b := hW.hd
  have wa : inR a := hW.tl.hd
  refine va_mmax hexec hb (hml.trans hL.2.1.symm) hown (hts _ hl) (hts _ gj_maxS) (hts _ hi) (hts _ gj_maxC) hr.1 (by rw [cat_sum]; exact hr.2.1) hr.2.2.1 hr.2.2.2 hd ?_
  have e1 : (if Int32.ofInt a < Int32.ofInt b then Int32.ofInt b else Int32.ofInt a) = Int32.ofInt (max a b) := by
    by_cases q : a < b
    · rw [if_pos ((oI_lt wa wb).mpr q)]
      congr 1
      omega
    · rw [if_neg (fun z => q ((oI_lt wa wb).mp z))]
      congr 1
      omega
  rw [e1]
  exact kk p e s mid args below meth c H locs ls hC hR hS hL (hW.tl.tl.push (v := .inl (max a b)) (by rcases Int.le_total a b with q | q <;> first | (rw [Int.max_eq_right q]; exact wb) | (rw [Int.max_eq_left q]; exact wa)))
theorem V.mmin {idx : Nat} {a b : Int} (h : At y pc (.invokestatic idx) 3 pc') (hl : Cond.methodLink y.1.cls idx Lib.Math.min.name ∈ GW) (hi : Cond.initialized "java/lang/Math" ∈ GW) (hr : 1 ≤ R.frames ∧ st.length + 13 ≤ R.locals ∧ k ≤ R.cells ∧ n ≤ R.slots) (kk : V G y R Qf pc' L (.inl (min a b) :: st) sz m k n) : V G y R Qf pc L (.inl b :: .inl a :: st) sz m k n := by
  obtain ⟨hd, rfl⟩ := h
  intro p e s mid args below meth c H locs ls hC hR hS hL hW
  have hx := hC
  obtain ⟨hexec, hb, hml, hrt, hlk, hown, hnm, hts, hB⟩ := hx
  have wb : inR b := hW.hd
  have wa : inR a := hW.tl.hd
  refine va_mmin hexec hb (hml.trans hL.2.1.symm) hown (hts _ hl) (hts _ gj_minS) (hts _ hi) (hts _ gj_minC) hr.1 (by rw [cat_sum]; exact hr.2.1) hr.2.2.1 hr.2.2.2 hd ?_
  have e1 : (if Int32.ofInt b < Int32.ofInt a then Int32.ofInt b else Int32.ofInt a) = Int32.ofInt (min a b) := by
    by_cases q : b < a
    · rw [if_pos ((oI_lt wb wa).mpr q)]
      congr 1
      omega
    · rw [if_neg (fun z => q ((oI_lt wb wa).mp z))]
      congr 1
      omega
  rw [e1]
  exact kk p e s mid args below meth c H locs ls hC hR hS hL (hW.tl.tl.push (v := .inl (min a b)) (by rcases Int.le_total a b with q | q <;> first | (rw [Int.min_eq_left q]; exact wa) | (rw [Int.min_eq_right q]; exact wb)))
end
end
section
-- rows of V: calls, returns, the JDK's own
def callee (y2 : MK) (n2 : Nat) : Prop := Cond.code y2.1 y2.2.1 y2.2.2.1 y2.2.2.2 ∈ GW ∧ Cond.initialized y2.1.cls ∈ GW ∧ (y2.1.cls ≠ "java/lang/invoke/MethodHandle" ∧ y2.1.cls ≠ "java/lang/invoke/VarHandle") ∧ (parseMethodDescriptor y2.1.desc).map (fun d => d.parameters.length) = some n2
def PI (z : Int) (sz : Nat) (m : Mem) : PO := fun r s' m' => r = some (.inl z) ∧ s' = sz ∧ m' = m
def PR (q : Option Nat) (sz : Nat) (m : Mem) : PO := fun r s' m' => r = some (.inr q) ∧ s' = sz ∧ m' = m
def PV (sz : Nat) (m : Mem) : PO := fun r s' m' => r = none ∧ s' = sz ∧ m' = m
theorem wsM_good {y2 : MK} (hc : Cond.code y2.1 y2.2.1 y2.2.2.1 y2.2.2.2 ∈ GW) : GoodIn GW (wsM y2) := by
  intro w hw
  have hm : w ∈ GW := by
    rcases List.mem_cons.mp hw with h | h
    · rw [h]; exact hc
    · exact h
  exact ⟨hm, good_of_word (gw_good w hm)⟩
theorem PcA.blind {G : GX} {args : List AV} {sz : Nat} {m : Mem} : FrameBlind (PcA G args sz m) := fun a U g mk q => ⟨q.1, q.2.1, q.2.2.1.same rfl rfl, q.2.2.2.moved (Vm.Alike.refl U.vm)⟩
theorem PcA.of {G : GX} {args2 : List AV} {s U : State} {H : Heap} {locs : List Loc} {sz : Nat} {m : Mem} (hwf : ∀ v ∈ args2, wfv v) (hB : base G s) (hR : Rel G s H sz m) (hS : va_S (Afr G) s.heap H locs) (hU : U.heap = H) (hW : s.WarmedH U.vm) : PcA G args2 sz m (args2.map toV).toArray U :=
  ⟨rfl, hwf, base.moved hW (by rw [hU]; exact hS) hB, by rw [hU]; exact hR.moved hW.alike⟩
section
variable {G : GX} {y : MK} {R : Room} {Qf : QF} {pc pc' : Nat} {L : List (Option AV)} {st : List AV} {sz : Nat} {m : Mem} {k n : Nat}
theorem V.back {p : Program} {e : Env} {s : State} {mid : MethodId} {args : Array Value} {below : List Frame} {meth : Method} {c : Code} {H : Heap} {locs : List Loc} {ls : Array Slot} {st0 : List Value} {a2 : Array Value} {P : PO} {mc ms : Nat}
    (hC : CX G y p s mid args meth c) (hS : va_S (Afr G) s.heap H locs) (hL : LV ls y.2.2.1 L) (hW : WS L st)
    (hr : va_Run p G.1 e R s mid args below meth c H locs k n mc ms (F0 mid pc ls st0) (st.map toV) (QcA G P a2) (Afr G))
    (kk : ∀ (r : Option AV) (sz' : Nat) (m' : Mem), P r sz' m' → V G y R Qf (pc + 3) L (r.toList ++ st) sz' m' (k + mc) (n + ms)) : W p G.1 e R s mid args below meth c H locs k n (Qf s below args) (F0 mid pc ls st0) := by
  intro T hT X
  obtain ⟨v, st₀, t, T', Lc, h0, X', hLc, e1, e2, ⟨r, sz', m', hv, hp, hwr, hrel, hF⟩, hst⟩ := hr T hT X
  have hv2 : v = r.map toV := by simpa using hv
  subst hv2
  have hrel2 : Rel G s T'.heap sz' m' := by
    rw [e1]
    exact hrel.moved (by rw [← e2]; exact X'.warmed.alike.symm)
  have hS2 : va_S (Afr G) s.heap T'.heap (locs ++ Lc) := by
    rw [e1]
    have hz := hF.1
    have hk := hF.2
    rw [h0] at hz hk
    exact ⟨Nat.le_trans hS.1 hz, fun q h1 h2 => by rw [hk q (Nat.lt_of_lt_of_le h1 hS.1) h2]; exact hS.2.1 q h1 h2, fun q hq => by
      rcases List.mem_append.mp hq with h | h
      · exact hS.2.2 q h
      · exact hLc q h⟩
  have hW2 : WS L (r.toList ++ st) := by
    refine ⟨hW.1, fun w hw => ?_⟩
    rcases List.mem_append.mp hw with h | h
    · cases r with
      | none => simp at h
      | some x =>
        simp at h
        rw [h]
        exact hwr x rfl
    · exact hW.2 w h
  obtain ⟨t2, a1, b1⟩ := kk r sz' m' hp p e s mid args below meth c T'.heap (locs ++ Lc) ls hC hrel2 hS2 hL hW2 T' rfl X'
  refine ⟨t2, hst t2 ?_, b1⟩
  have e3 : (r.map toV).toList ++ st.map toV = (r.toList ++ st).map toV := by cases r <;> rfl
  rw [e3]
  exact a1
theorem V.callV {y2 : MK} {d2 mc ms n2 ci idx a : Nat} {args2 fs S : List AV} {P : PO} (h : At y pc (.invokevirtual idx) 3 pc') (hl : Cond.methodLink y.1.cls idx y2.1 ∈ GW) (hc : callee y2 n2) (hc1 : Cond.instanceMethod y2.1 ∈ GW) (hc2 : Cond.selects y2.1.cls y2.1 y2.1 ∈ GW)
    (hn : args2.length = n2) (hcl : y2.1.cls = rcl ci) (ok : Ok G y2 d2 (.inr (some a) :: args2) sz m mc ms P) (hm : m a = obj ci fs) (hst : S = args2.reverse ++ .inr (some a) :: st) (h8 : st.length ≤ 8)
    (hr : (d2 + 1 ≤ R.frames ∧ 8 + (y2.2.2.1 + 11) + 40 * d2 ≤ R.locals) ∧ k + mc ≤ R.cells ∧ n + ms ≤ R.slots) (kk : ∀ (r : Option AV) (sz' : Nat) (m' : Mem), P r sz' m' → V G y R Qf pc' L (r.toList ++ st) sz' m' (k + mc) (n + ms)) : V G y R Qf pc L S sz m k n := by
  obtain ⟨hd, rfl⟩ := h
  subst hst
  obtain ⟨hcode, hini, hmh, hpar⟩ := hc
  intro p e s mid args below meth c H locs ls hC hR hS hL hW
  have hx := hC
  obtain ⟨hexec, hb, hml, hrt, hlk, hown, hnm, hts, hB⟩ := hx
  have hWs : WS L st := ⟨hW.1, fun w hw => hW.2 w (List.mem_append_right _ (List.mem_cons_of_mem _ hw))⟩
  have hwf : ∀ v ∈ (.inr (some a) :: args2 : List AV), wfv v := by
    refine wcons trivial (fun v hv => hW.2 v (List.mem_append_left _ (List.mem_reverse.mpr hv)))
  have h0 := hR.2.2 a
  rw [hm] at h0
  obtain ⟨-, -, r0, hr0, cellV, q1, q2, q3, -⟩ := h0
  have hcls := (hB.1.1 ci r0 hr0).2
  have hrc : r0.1 = y2.1.cls := by rw [hcl]; unfold rcl; rw [hr0]
  have hB2 : CallB R s args y.1.cls idx y2.1 y2.2.1 y2.2.2.1 y2.2.2.2 (wsM y2) (rmM d2 mc ms) mc ms n2 := callB_of n2 hts (wsM_good hcode) rfl rfl rfl (hts _ hini) (hts _ hl) ⟨hmh.1, hmh.2, hpar⟩ hr.1
  refine V.back hC hS hL hWs (va_runV (C := y2.1.cls) (b := a) (As := args2.map toV) (rest := st.map toV) ⟨hexec, hb, hml, hown, hts⟩ ok ⟨hB2, hts _ hc1, hts _ hc2⟩ ⟨PcA.blind, ⟨cellV, q1, by rw [q3]; rfl, by rw [q2, ← hrc]; exact hcls.1⟩, fun U hU hWm => PcA.of (args2 := .inr (some a) :: args2) hwf hB hR hS hU hWm⟩ rfl (by rw [List.length_map]; exact hn) hL.2.1 ?_ (lv_room (by rw [cat_sum]; exact h8)) hd hr.2) kk
  show List.map toV (args2.reverse ++ .inr (some a) :: st) = _
  rw [List.map_append, List.map_reverse]
  rfl
theorem V.callS {y2 : MK} {d2 mc ms n2 idx : Nat} {args2 S : List AV} {P : PO} (h : At y pc (.invokestatic idx) 3 pc') (hl : Cond.methodLink y.1.cls idx y2.1 ∈ GW) (hc : callee y2 n2) (hc1 : Cond.static y2.1 ∈ GW)
    (hn : args2.length = n2) (ok : Ok G y2 d2 args2 sz m mc ms P) (hst : S = args2.reverse ++ st) (h8 : st.length ≤ 8)
    (hr : (d2 + 1 ≤ R.frames ∧ 8 + (y2.2.2.1 + 11) + 40 * d2 ≤ R.locals) ∧ k + mc ≤ R.cells ∧ n + ms ≤ R.slots) (kk : ∀ (r : Option AV) (sz' : Nat) (m' : Mem), P r sz' m' → V G y R Qf pc' L (r.toList ++ st) sz' m' (k + mc) (n + ms)) : V G y R Qf pc L S sz m k n := by
  obtain ⟨hd, rfl⟩ := h
  subst hst
  obtain ⟨hcode, hini, hmh, hpar⟩ := hc
  intro p e s mid args below meth c H locs ls hC hR hS hL hW
  have hx := hC
  obtain ⟨hexec, hb, hml, hrt, hlk, hown, hnm, hts, hB⟩ := hx
  have hWs : WS L st := ⟨hW.1, fun w hw => hW.2 w (List.mem_append_right _ hw)⟩
  have hwf : ∀ v ∈ args2, wfv v := fun v hv => hW.2 v (List.mem_append_left _ (List.mem_reverse.mpr hv))
  have hB2 : CallB R s args y.1.cls idx y2.1 y2.2.1 y2.2.2.1 y2.2.2.2 (wsM y2) (rmM d2 mc ms) mc ms n2 := callB_of n2 hts (wsM_good hcode) rfl rfl rfl (hts _ hini) (hts _ hl) ⟨hmh.1, hmh.2, hpar⟩ hr.1
  refine V.back hC hS hL hWs (va_runS (As := args2.map toV) (rest := st.map toV) ⟨hexec, hb, hml, hown, hts⟩ ok ⟨hB2, hts _ hc1⟩ ⟨PcA.blind, fun U hU hWm => PcA.of hwf hB hR hS hU hWm⟩ rfl (by rw [List.length_map]; exact hn) hL.2.1 ?_ (lv_room (by rw [cat_sum]; exact h8)) hd hr.2) kk
  show List.map toV (args2.reverse ++ st) = _
  rw [List.map_append, List.map_reverse]
theorem V.callI {y2 : MK} {d2 mc ms n2 idx a : Nat} {args2 S : List AV} {P : PO} (h : At y pc (.invokespecial idx) 3 pc') (hl : Cond.methodLink y.1.cls idx y2.1 ∈ GW) (hc : callee y2 n2) (hc1 : Cond.instanceMethod y2.1 ∈ GW) (hc2 : y2.1.name = "<init>") (hc3 : y2.2.2.2 = none)
    (hn : args2.length = n2) (ok : Ok G y2 d2 (.inr (some a) :: args2) sz m mc ms P) (hst : S = args2.reverse ++ .inr (some a) :: st) (h8 : st.length ≤ 8)
    (hr : (d2 + 1 ≤ R.frames ∧ 8 + (y2.2.2.1 + 11) + 40 * d2 ≤ R.locals) ∧ k + mc ≤ R.cells ∧ n + ms ≤ R.slots) (kk : ∀ (r : Option AV) (sz' : Nat) (m' : Mem), P r sz' m' → V G y R Qf pc' L (r.toList ++ st) sz' m' (k + mc) (n + ms)) : V G y R Qf pc L S sz m k n := by
  obtain ⟨hd, rfl⟩ := h
  subst hst
  obtain ⟨hcode, hini, hmh, hpar⟩ := hc
  intro p e s mid args below meth c H locs ls hC hR hS hL hW
  have hx := hC
  obtain ⟨hexec, hb, hml, hrt, hlk, hown, hnm, hts, hB⟩ := hx
  have hWs : WS L st := ⟨hW.1, fun w hw => hW.2 w (List.mem_append_right _ (List.mem_cons_of_mem _ hw))⟩
  have hwf : ∀ v ∈ (.inr (some a) :: args2 : List AV), wfv v := by
    refine wcons trivial (fun v hv => hW.2 v (List.mem_append_left _ (List.mem_reverse.mpr hv)))
  have hB2 : CallB R s args y.1.cls idx y2.1 y2.2.1 y2.2.2.1 none (wsM y2) (rmM d2 mc ms) mc ms n2 := callB_of n2 hts (wsM_good hcode) (by unfold wsM; rw [hc3]) rfl rfl (hts _ hini) (hts _ hl) ⟨hmh.1, hmh.2, hpar⟩ hr.1
  refine V.back hC hS hL hWs (va_runI (b := a) (As := args2.map toV) (rest := st.map toV) ⟨hexec, hb, hml, hown, hts⟩ ok ⟨hB2, hc2, hts _ hc1⟩ ⟨PcA.blind, fun U hU hWm => PcA.of (args2 := .inr (some a) :: args2) hwf hB hR hS hU hWm⟩ rfl (by rw [List.length_map]; exact hn) hL.2.1 ?_ (lv_room (by rw [cat_sum]; exact h8)) hd hr.2) kk
  show List.map toV (args2.reverse ++ .inr (some a) :: st) = _
  rw [List.map_append, List.map_reverse]
  rfl
theorem V.callN {y2 : MK} {d2 mc ms idx a : Nat} {P : PO} (h : At y pc (.invokespecial idx) 3 pc') (ho : y.1.cls = RX4) (hl : (idx = 19 ∧ y2.1 = yX1_init) ∨ (idx = 28 ∧ y2.1 = yX2_init)) (hc : callee y2 0) (hc1 : Cond.instanceMethod y2.1 ∈ GW) (hc2 : y2.1.name = "<init>") (hc3 : y2.2.2.2 = none)
    (ok : Ok G y2 d2 [.inr (some a)] sz m mc ms P) (h8 : st.length ≤ 8)
    (hr : (d2 + 1 ≤ R.frames ∧ 8 + (y2.2.2.1 + 11) + 40 * d2 ≤ R.locals) ∧ k + mc ≤ R.cells ∧ n + ms ≤ R.slots) (kk : ∀ (r : Option AV) (sz' : Nat) (m' : Mem), P r sz' m' → V G y R Qf pc' L (r.toList ++ st) sz' m' (k + mc) (n + ms)) : V G y R Qf pc L (.inr (some a) :: st) sz m k n := by
  obtain ⟨hd, rfl⟩ := h
  obtain ⟨hcode, hini, hmh, hpar⟩ := hc
  intro p e s mid args below meth c H locs ls hC hR hS hL hW
  have hx := hC
  obtain ⟨hexec, hb, hml, hrt, hlk, hown, hnm, hts, hB⟩ := hx
  have hwf : ∀ v ∈ ([.inr (some a)] : List AV), wfv v := wcons trivial (fun v hv => by cases hv)
  have hnest : va_Nw (.methodLinkNest y.1.cls idx y2.1 RX5) s := by
    rw [ho]
    obtain ⟨-, -, -, h4, h5, -⟩ := hB
    rcases hl with ⟨rfl, h2⟩ | ⟨rfl, h2⟩
    · rw [h2]; exact h4
    · rw [h2]; exact h5
  have hB2 : va_CN R s args y.1.cls idx y2.1 RX5 y2.2.1 y2.2.2.1 none (wsM y2) (rmM d2 mc ms) mc ms 0 := va_cnB 0 hts (wsM_good hcode) (by unfold wsM; rw [hc3]) rfl rfl hnest (hts _ hini) ⟨hmh.1, hmh.2, hpar⟩ hr.1
  exact V.back hC hS hL hW.tl (va_runIN (b := a) (As := []) (rest := st.map toV) ⟨hexec, hb, hml, hown, hts⟩ ok ⟨hB2, hc2, hts _ hc1⟩ ⟨PcA.blind, fun U hU hWm => PcA.of (args2 := [.inr (some a)]) hwf hB hR hS hU hWm⟩ rfl rfl hL.2.1 rfl (lv_room (by rw [cat_sum]; exact h8)) hd hr.2) kk
theorem V.objI {idx a : Nat} (h : At y pc (.invokespecial idx) 3 pc') (hl : Cond.methodLink y.1.cls idx Lib.objectInit ∈ GW) (hr : 1 ≤ R.frames ∧ st.length + 12 ≤ R.locals) (kk : V G y R Qf pc' L st sz m k n) : V G y R Qf pc L (.inr (some a) :: st) sz m k n := by
  obtain ⟨hd, rfl⟩ := h
  intro p e s mid args below meth c H locs ls hC hR hS hL hW
  have hx := hC
  obtain ⟨hexec, hb, hml, hrt, hlk, hown, hnm, hts, hB⟩ := hx
  exact W.objInit hexec hb hown (hts _ hl) (hts _ gj_objI) (hts _ gj_objC) rfl (hL.2.1.trans hml.symm) rfl hd hr.1 (by show 2 * 0 + _ + 12 ≤ _; rw [cat_sum]; omega) (kk p e s mid args below meth c H locs ls hC hR hS hL hW.tl)
theorem V.copy {idx a0 a n0 n1 : Nat} {f g : Int → Int} {sp dp nn : Int} (h : At y pc (.invokestatic idx) 3 pc') (hl : Cond.methodLink y.1.cls idx arraycopyName ∈ GW) (hi : Cond.initialized "java/lang/System" ∈ GW) (hm0 : m a0 = iar n0 f) (hm1 : m a = iar n1 g) (hna : a0 ≠ a)
    (hb0 : 0 ≤ sp ∧ 0 ≤ dp ∧ 0 < nn ∧ sp + nn ≤ n0 ∧ dp + nn ≤ n1) (hr : 1 ≤ R.frames ∧ st.length + (nativeFrameWords "java/lang/System" "arraycopy" 5 + 11) ≤ R.locals)
    (kk : V G y R Qf pc' L st sz (upM m a (iar n1 (fun j => if dp ≤ j ∧ j < dp + nn then f (sp + (j - dp)) else g j))) k n) : V G y R Qf pc L (.inl nn :: .inl dp :: .inr (some a) :: .inl sp :: .inr (some a0) :: st) sz m k n := by
  obtain ⟨hd, rfl⟩ := h
  intro p e s mid args below meth c H locs ls hC hR hS hL hW
  have hx := hC
  obtain ⟨hexec, hb, hml, hrt, hlk, hown, hnm, hts, hB⟩ := hx
  have wn : inR nn := hW.hd
  have wd : inR dp := hW.tl.hd
  have wsp : inR sp := hW.tl.tl.tl.hd
  have ha0 := hR.2.2 a0
  rw [hm0] at ha0
  obtain ⟨u1, u2, c0, u3, u4, u5⟩ := ha0
  have ha := hR.2.2 a
  rw [hm1] at ha
  obtain ⟨g1, g2, c1, g3, g4, g5⟩ := ha
  have hN : G.2.2.1 ≤ a := by rcases g1 with q | q | q <;> omega
  have c_sp := oI_clamp hb0.1 wsp.2
  have c_dp := oI_clamp hb0.2.1 wd.2
  have c_nn := oI_clamp (Int.le_of_lt hb0.2.2.1) wn.2
  have nl : ∀ {z : Int}, inR z → 0 ≤ z → ¬ Int32.ofInt z < 0 := fun w h0 q => by have := (oI_lt w (by decide : inR 0)).mp q; omega
  obtain ⟨wsL, hwsL⟩ : ∃ ws : va_W, ws = [(a0, .inl (c0, n0, .inl (fun j => Int32.ofInt (f (j : Int))))), (a, .inl (c1, n1, .inl (fun j => Int32.ofInt (g (j : Int)))))] := ⟨_, rfl⟩
  intro T hT X
  have hc0 : H[a0]? = some (vp_cell c0 (n0, .inl (fun j => Int32.ofInt (f (j : Int))))) := u5
  have hc1 : H[a]? = some (vp_cell c1 (n1, .inl (fun j => Int32.ofInt (g (j : Int))))) := g5
  obtain ⟨-, k0, hk0, cm0, hkk0⟩ := u3 n0 (fun j => .int (Int32.ofInt (f (j : Int))))
  obtain ⟨-, k1, hk1, cm1, hkk1⟩ := g3 n1 (fun j => .int (Int32.ofInt (g (j : Int))))
  obtain ⟨vm', X', step⟩ := X.arraycopy hexec hown (hts _ hl) (hts _ gj_cpN) (hts _ gj_cpS) (hts _ hi) (src := a0) (dst := a) (cs := vp_cell c0 (n0, .inl (fun j => Int32.ofInt (f (j : Int))))) (cd := vp_cell c1 (n1, .inl (fun j => Int32.ofInt (g (j : Int))))) (srcPos := Int32.ofInt sp) (destPos := Int32.ofInt dp) (n := Int32.ofInt nn) (by rw [hT]; exact hc0) (by rw [hT]; exact hc1)
    (fun _ h => by cases h) (fun _ h => by cases h) (fun h => by cases h) (fun h => by cases h) hk0 hk1 hkk0 hkk1 (by decide) (nl wsp hb0.1) (nl wd hb0.2.1) (nl wn (Int.le_of_lt hb0.2.2.1))
    (by rw [inR_toInt wsp, inR_toInt wn]; show ¬ _ > ((arrV c0 n0 _).slots.size : Int); rw [arrV_size]; omega)
    (by rw [inR_toInt wd, inR_toInt wn]; show ¬ _ > ((arrV c1 n1 _).slots.size : Int); rw [arrV_size]; omega)
    (fun vm₁ _ i hi => by
      rw [c_nn] at hi
      have e : (vp_cell c0 (n0, .inl (fun j => Int32.ofInt (f (j : Int))))).slots.getD ((Int32.ofInt sp).toNatClampNeg + i) .null = .int (Int32.ofInt (f (((Int32.ofInt sp).toNatClampNeg + i : Nat) : Int))) := by
        show (arrV c0 n0 _).slots.getD _ _ = _
        rw [Array.getD_eq_getD_getElem?, arrV_read _ _ (by rw [c_sp]; omega)]
        rfl
      refine ⟨?_, ?_⟩
      · rw [e]
        rfl
      · rw [e]
        exact trivial)
    (g := F0 mid pc ls (List.map toV (.inl nn :: .inl dp :: .inr (some a) :: .inl sp :: .inr (some a0) :: st))) rfl (by rw [hml]; exact hL.2.1) (rest := st.map toV) rfl (by rw [hb]; exact hd) hr.1 (by show 2 * 0 + _ + _ ≤ _; rw [cat_sum]; omega)
  have e1 : copied (vp_cell c0 (n0, .inl (fun j => Int32.ofInt (f (j : Int))))) (vp_cell c1 (n1, .inl (fun j => Int32.ofInt (g (j : Int))))) (Int32.ofInt sp) (Int32.ofInt dp) (Int32.ofInt nn) = arrV c1 n1 (fun j : Nat => .int (Int32.ofInt (if dp ≤ (j : Int) ∧ (j : Int) < dp + nn then f (sp + ((j : Int) - dp)) else g (j : Int)))) := by
    refine (va_copied (fun z => .int z) c0 c1 (fun j => Int32.ofInt (f (j : Int))) (fun j => Int32.ofInt (g (j : Int))) (by rw [c_sp, c_nn]; omega)).trans ?_
    congr 1
    funext j
    rw [c_sp, c_dp, c_nn]
    unfold va_cpy
    by_cases q : dp ≤ (j : Int) ∧ (j : Int) < dp + nn
    · rw [if_pos q, if_pos (by omega)]
      refine congrArg (fun x => Value.int (Int32.ofInt (f x))) ?_
      omega
    · rw [if_neg q, if_neg (by omega)]
  rw [e1] at X' step
  have hfit : ∀ j : Int, 0 ≤ j → j < n1 → inR (if dp ≤ j ∧ j < dp + nn then f (sp + (j - dp)) else g j) := by
    intro j j0 j1
    by_cases q : dp ≤ j ∧ j < dp + nn
    · rw [if_pos q]
      exact (u2 _ (by omega) (by omega)).1
    · rw [if_neg q]
      exact (g2 j j0 j1).1
  have hlt : a < H.size := (Array.getElem?_eq_some_iff.mp hc1).1
  have oq : ∀ (x : Cell) (q : Nat), q ≠ a → (H.setIfInBounds a x)[q]? = H[q]? := fun x q hq => by simp [Array.getElem?_setIfInBounds, Ne.symm hq]
  obtain ⟨t, a1, b1⟩ := kk p e s mid args below meth c (H.setIfInBounds a (arrV c1 n1 (fun j : Nat => .int (Int32.ofInt (if dp ≤ (j : Int) ∧ (j : Int) < dp + nn then f (sp + ((j : Int) - dp)) else g (j : Int)))))) _ ls hC
    (hR.set (by simp) (oq _) ⟨Or.inl hN, fun j j0 j1 => ⟨hfit j j0 j1, fun q => by cases q⟩, c1, g3, g4, by simp [Array.getElem?_setIfInBounds, hlt]⟩)
    ⟨by simp; exact hS.1, fun q h1 h2 => by rw [oq _ q (fun e => h2 (by rw [e]; exact hN))]; exact hS.2.1 q h1 h2, fun q hq => by
      rcases List.mem_append.mp hq with h | h
      · exact hS.2.2 q h
      · obtain ⟨z, -, hz⟩ := List.mem_map.mp h
        rw [← hz]
        exact hN⟩ hL hW.tl.tl.tl.tl.tl _ (by rw [← hT]; rfl) X'
  exact ⟨t, step t a1, b1⟩
theorem V.clone {idx a nn : Nat} {f : Int → Int} (h : At y pc (.invokevirtual idx) 3 pc') (hl : Cond.methodLink y.1.cls idx ⟨"[I", "clone", "()Ljava/lang/Object;"⟩ ∈ GW) (hm : m a = iar nn f) (hr : 1 ≤ R.frames ∧ st.length + 14 ≤ R.locals ∧ k + 1 ≤ R.cells ∧ n + nn ≤ R.slots)
    (kk : V G y R Qf pc' L (.inr (some sz) :: st) (sz + 1) (upM m sz (iar nn f)) (k + 1) (n + nn)) : V G y R Qf pc L (.inr (some a) :: st) sz m k n := by
  obtain ⟨hd, rfl⟩ := h
  intro p e s mid args below meth c H locs ls hC hR hS hL hW
  have hx := hC
  obtain ⟨hexec, hb, hml, hrt, hlk, hown, hnm, hts, hB⟩ := hx
  have ha := hR.2.2 a
  rw [hm] at ha
  obtain ⟨g1, g2, cA, g3, g4, g5⟩ := ha
  have hcl := hB.2.2.2.2.2.1
  obtain ⟨c0, t0', f1, f2, f3⟩ := Cond.castable_spec (va_Nw.use (A := args) rfl hcl)
  have hnm2 : s.vm.findClass "[I" = some cA := g4
  cases hnm2.symm.trans f1
  intro T hT X
  have hcellT : T.heap[a]? = some (arrV cA nn (fun j => .int (Int32.ofInt (f (j : Int))))) := by rw [hT]; exact g5
  obtain ⟨-, kA, hkA, comp, hkind⟩ := State.isArrayOf_alike X.warmed.alike (g3 0 (fun _ => .null))
  obtain ⟨-, kS, hkS, compS, hkindS⟩ := g3 0 (fun _ => .null)
  obtain ⟨vm', X', step⟩ := X.cloneArray hexec hown (hts _ hl) (hts _ gj_clM) (hts _ gj_clN) (hts _ gj_clI) (hts _ gj_clE) (a := a) hcellT (fun k h => by cases h) (fun h => by cases h) hnm2 f2 f3
    (fun i v hv => by
      have hk' : T.vm.classes[cA]? = some kA := hkA
      have hv2 : ∃ z, v = .int z := by
        have hi : i < nn := by
          have := (Array.getElem?_eq_some_iff.mp hv).1
          rwa [arrV_size] at this
        rw [arrV_read _ _ hi] at hv
        exact ⟨_, (Option.some.inj hv).symm⟩
      obtain ⟨z, rfl⟩ := hv2
      show T.fitsSlot cA .none i _ = true
      simp [State.fitsSlot, State.slotType?, hk', hkind, fits, ity])
    (g := F0 mid pc ls (List.map toV (.inr (some a) :: st))) rfl (by rw [hml]; exact hL.2.1) rfl (by rw [hb]; exact hd) hr.1 (by show 2 * 0 + _ + 14 ≤ _; rw [cat_sum]; omega) hr.2.2.1 (by rw [arrV_size]; exact hr.2.2.2) (hloader := Vm.clonesLoader_of_array hkS hkindS)
  have hcellE : ({ cls := (arrV cA nn (fun j => .int (Int32.ofInt (f (j : Int))))).cls, slots := (arrV cA nn (fun j => .int (Int32.ofInt (f (j : Int))))).slots } : Cell) = arrV cA nn (fun j => .int (Int32.ofInt (f (j : Int)))) := rfl
  rw [hcellE, arrV_size] at X'
  generalize hH1 : H.push (arrV cA nn (fun j => .int (Int32.ofInt (f (j : Int))))) = H1
  have z1 : H1.size = sz + 1 := by rw [← hH1, Array.size_push, hR.1]
  have e1 : H1[sz]? = some (arrV cA nn (fun j => .int (Int32.ofInt (f (j : Int))))) := by rw [← hH1, ← hR.1, Array.getElem?_push_size]
  have o1 : ∀ q : Nat, q < sz → H1[q]? = H[q]? := fun q hq => by rw [← hH1, Array.getElem?_push, if_neg (by rw [hR.1]; exact Nat.ne_of_lt hq)]
  obtain ⟨t, b1, b2⟩ := kk p e s mid args below meth c H1 locs ls hC (hR.push z1 o1 ⟨Or.inl hR.2.1, g2, cA, g3, g4, e1⟩) (hS.grow hR.1 z1 o1) hL (hW.tl.push trivial) ((T.setVm vm').pushCell (arrV cA nn (fun j => .int (Int32.ofInt (f (j : Int)))))) (by rw [← hH1, ← hT]; rfl) X'
  refine ⟨t, step t ?_, b2⟩
  rw [hcellE, hT, hR.1]
  exact b1
theorem V.castI {idx a nn : Nat} {f : Int → Int} (h : At y pc (.checkcast idx) 3 pc') (hl : Cond.classLink y.1.cls idx "[I" ∈ GW) (hm : m a = iar nn f) (kk : V G y R Qf pc' L (.inr (some a) :: st) sz m k n) : V G y R Qf pc L (.inr (some a) :: st) sz m k n := by
  obtain ⟨hd, rfl⟩ := h
  intro p e s mid args below meth c H locs ls hC hR hS hL hW
  have ha := hR.2.2 a
  rw [hm] at ha
  obtain ⟨g1, g2, cA, g3, g4, g5⟩ := ha
  have hat : va_at G.2.1 vwCl (a, .inl (cA, nn, .inl (fun j => Int32.ofInt (f (j : Int))))) H := g5
  exact va_castA hC.1 hC.2.1 hC.2.2.2.2.2.1 (hC.2.2.2.2.2.2.2.1 _ hl) (oneP hat) 0 rfl g4 hd (kk p e s mid args below meth c H locs ls hC hR hS hL hW)
-- ends
theorem Qc.mk {G : GX} {P : PO} {s : State} {H : Heap} {locs : List Loc} {sz : Nat} {m : Mem} {r : Option AV} {args : Array Value} (hp : P r sz m) (hw : ∀ v, r = some v → wfv v) (hR : Rel G s H sz m) (hS : va_S (Afr G) s.heap H locs) (t : State) (ht : t.heap = H) (hW : s.WarmedH t.vm) : QcA G P args s (.returned (r.map toV)) t :=
  ⟨r, sz, m, rfl, hp, hw, by rw [ht]; exact hR.moved hW.alike, hS.F ht⟩
theorem V.iret {P : PO} {mc ms : Nat} {z : Int} (h : At y pc .ireturn 1 pc') (hrt : y.2.2.2 = some .int) (hk : k ≤ mc ∧ n ≤ ms) (hp : P (some (.inl z)) sz m) : V G y R (QfM G P mc ms) pc L [.inl z] sz m k n := by
  obtain ⟨hd, rfl⟩ := h
  intro p e s mid args below meth c H locs ls hC hR hS hL hW
  have hlocks := hC.2.2.2.2.1
  refine W.widen hk.1 hk.2 ?_
  exact W.iret (v := Int32.ofInt z) hC.1 hC.2.1 (hC.2.2.2.1.trans hrt) (fun t ht hWm => Qc.mk (r := some (.inl z)) hp (fun v hv => by cases hv; exact hW.hd) hR hS t ht hWm) hS.2.2 hd
theorem V.zret {P : PO} {mc ms : Nat} {z : Int} (h : At y pc .ireturn 1 pc') (hrt : y.2.2.2 = some .boolean) (hz : z = 0 ∨ z = 1) (hk : k ≤ mc ∧ n ≤ ms) (hp : P (some (.inl z)) sz m) : V G y R (QfM G P mc ms) pc L [.inl z] sz m k n := by
  obtain ⟨hd, rfl⟩ := h
  intro p e s mid args below meth c H locs ls hC hR hS hL hW
  have hlocks := hC.2.2.2.2.1
  refine W.widen hk.1 hk.2 ?_
  exact W.zret (v := Int32.ofInt z) hC.1 hC.2.1 (hC.2.2.2.1.trans hrt) (by rcases hz with rfl | rfl <;> rfl) (fun t ht hWm => Qc.mk (r := some (.inl z)) hp (fun v hv => by cases hv; exact hW.hd) hR hS t ht hWm) hS.2.2 hd
theorem V.aret {P : PO} {mc ms : Nat} {r : Option Nat} {rt : FieldType} (h : At y pc .areturn 1 pc') (hrt : y.2.2.2 = some rt) (hrt2 : (∃ n, rt = .object n) ∨ ∃ t, rt = .array t) (hk : k ≤ mc ∧ n ≤ ms) (hp : P (some (.inr r)) sz m) : V G y R (QfM G P mc ms) pc L [.inr r] sz m k n := by
  obtain ⟨hd, rfl⟩ := h
  intro p e s mid args below meth c H locs ls hC hR hS hL hW
  have hlocks := hC.2.2.2.2.1
  refine W.widen hk.1 hk.2 ?_
  exact W.aret (v := toV (.inr r)) hC.1 hC.2.1 (hC.2.2.2.1.trans hrt) hrt2 (by cases r with | none => exact Or.inl rfl | some a => exact Or.inr ⟨a, rfl⟩) (fun t ht hWm => Qc.mk (r := some (.inr r)) hp (fun v hv => by cases hv; trivial) hR hS t ht hWm) hS.2.2 hd
theorem V.ret {P : PO} {mc ms : Nat} (h : At y pc .return_ 1 pc') (hrt : y.2.2.2 = none) (hk : k ≤ mc ∧ n ≤ ms) (hp : P none sz m) : V G y R (QfM G P mc ms) pc L [] sz m k n := by
  obtain ⟨hd, rfl⟩ := h
  intro p e s mid args below meth c H locs ls hC hR hS hL hW
  have hlocks := hC.2.2.2.2.1
  refine W.widen hk.1 hk.2 ?_
  exact W.vret hC.1 hC.2.1 (hC.2.2.2.1.trans hrt) (fun t ht hWm => Qc.mk (r := none) hp (fun v hv => by cases hv) hR hS t ht hWm) hS.2.2 hd
theorem goI {z : Int} {s2 : Nat} {m2 : Mem} {k2 n2 : Nat} (kk : V G y R Qf pc' L (.inl z :: st) s2 m2 k2 n2) : ∀ (r : Option AV) (sz' : Nat) (m' : Mem), PI z s2 m2 r sz' m' → V G y R Qf pc' L (r.toList ++ st) sz' m' k2 n2 := by
  rintro r sz' m' ⟨rfl, rfl, rfl⟩
  exact kk
theorem goR {q : Option Nat} {s2 : Nat} {m2 : Mem} {k2 n2 : Nat} (kk : V G y R Qf pc' L (.inr q :: st) s2 m2 k2 n2) : ∀ (r : Option AV) (sz' : Nat) (m' : Mem), PR q s2 m2 r sz' m' → V G y R Qf pc' L (r.toList ++ st) sz' m' k2 n2 := by
  rintro r sz' m' ⟨rfl, rfl, rfl⟩
  exact kk
theorem goV {s2 : Nat} {m2 : Mem} {k2 n2 : Nat} (kk : V G y R Qf pc' L st s2 m2 k2 n2) : ∀ (r : Option AV) (sz' : Nat) (m' : Mem), PV s2 m2 r sz' m' → V G y R Qf pc' L (r.toList ++ st) sz' m' k2 n2 := by
  rintro r sz' m' ⟨rfl, rfl, rfl⟩
  exact kk
end
end
section
-- links
theorem fl_RX1_11 : FL RX1 11 1 0 true (.array (.object "PictureLog$Entry")) := ⟨RX1, TX1, 5, tyX1, rfl, inG1, gf_RX1_11, by decide, rfl, tyX1_ok, nmX1, rfl, fun _ => rfl⟩
theorem fl_RX1_21 : FL RX1 21 1 1 false (.int) := ⟨RX1, TX1, 5, tyX1, rfl, inG1, gf_RX1_21, by decide, rfl, tyX1_ok, nmX1, rfl, fun h => by cases h⟩
theorem fl_RX4_45 : FL RX4 45 1 1 false (.int) := ⟨RX1, TX1, 5, tyX1, rfl, inG1, gf_RX4_45, by decide, rfl, tyX1_ok, nmX1, rfl, fun h => by cases h⟩
theorem fl_RX1_24 : FL RX1 24 1 2 false (.int) := ⟨RX1, TX1, 5, tyX1, rfl, inG1, gf_RX1_24, by decide, rfl, tyX1_ok, nmX1, rfl, fun h => by cases h⟩
theorem fl_RX5_208 : FL RX5 208 1 2 false (.int) := ⟨RX1, TX1, 5, tyX1, rfl, inG1, gf_RX5_208, by decide, rfl, tyX1_ok, nmX1, rfl, fun h => by cases h⟩
theorem fl_RX1_27 : FL RX1 27 1 3 false (.int) := ⟨RX1, TX1, 5, tyX1, rfl, inG1, gf_RX1_27, by decide, rfl, tyX1_ok, nmX1, rfl, fun h => by cases h⟩
theorem fl_RX4_76 : FL RX4 76 1 3 false (.int) := ⟨RX1, TX1, 5, tyX1, rfl, inG1, gf_RX4_76, by decide, rfl, tyX1_ok, nmX1, rfl, fun h => by cases h⟩
theorem fl_RX5_190 : FL RX5 190 1 3 false (.int) := ⟨RX1, TX1, 5, tyX1, rfl, inG1, gf_RX5_190, by decide, rfl, tyX1_ok, nmX1, rfl, fun h => by cases h⟩
theorem fl_RX1_17 : FL RX1 17 1 4 false (.int) := ⟨RX1, TX1, 5, tyX1, rfl, inG1, gf_RX1_17, by decide, rfl, tyX1_ok, nmX1, rfl, fun h => by cases h⟩
theorem fl_RX4_153 : FL RX4 153 1 4 false (.int) := ⟨RX1, TX1, 5, tyX1, rfl, inG1, gf_RX4_153, by decide, rfl, tyX1_ok, nmX1, rfl, fun h => by cases h⟩
theorem fl_RX5_214 : FL RX5 214 1 4 false (.int) := ⟨RX1, TX1, 5, tyX1, rfl, inG1, gf_RX5_214, by decide, rfl, tyX1_ok, nmX1, rfl, fun h => by cases h⟩
theorem fl_RX2_9 : FL RX2 9 2 0 true (.array .int) := ⟨RX2, TX2, 5, tyX2, rfl, inG2, gf_RX2_9, by decide, rfl, tyX2_ok, nmX2, rfl, fun _ => rfl⟩
theorem fl_RX4_122 : FL RX4 122 2 0 true (.array .int) := ⟨RX2, TX2, 5, tyX2, rfl, inG2, gf_RX4_122, by decide, rfl, tyX2_ok, nmX2, rfl, fun _ => rfl⟩
theorem fl_RX5_136 : FL RX5 136 2 0 true (.array .int) := ⟨RX2, TX2, 5, tyX2, rfl, inG2, gf_RX5_136, by decide, rfl, tyX2_ok, nmX2, rfl, fun _ => rfl⟩
theorem fl_RX2_15 : FL RX2 15 2 1 true (.array .int) := ⟨RX2, TX2, 5, tyX2, rfl, inG2, gf_RX2_15, by decide, rfl, tyX2_ok, nmX2, rfl, fun _ => rfl⟩
theorem fl_RX4_98 : FL RX4 98 2 1 true (.array .int) := ⟨RX2, TX2, 5, tyX2, rfl, inG2, gf_RX4_98, by decide, rfl, tyX2_ok, nmX2, rfl, fun _ => rfl⟩
theorem fl_RX5_170 : FL RX5 170 2 1 true (.array .int) := ⟨RX2, TX2, 5, tyX2, rfl, inG2, gf_RX5_170, by decide, rfl, tyX2_ok, nmX2, rfl, fun _ => rfl⟩
theorem fl_RX2_24 : FL RX2 24 2 2 false (.int) := ⟨RX2, TX2, 5, tyX2, rfl, inG2, gf_RX2_24, by decide, rfl, tyX2_ok, nmX2, rfl, fun h => by cases h⟩
theorem fl_RX4_48 : FL RX4 48 2 2 false (.int) := ⟨RX2, TX2, 5, tyX2, rfl, inG2, gf_RX4_48, by decide, rfl, tyX2_ok, nmX2, rfl, fun h => by cases h⟩
theorem fl_RX5_153 : FL RX5 153 2 2 false (.int) := ⟨RX2, TX2, 5, tyX2, rfl, inG2, gf_RX5_153, by decide, rfl, tyX2_ok, nmX2, rfl, fun h => by cases h⟩
theorem fl_RX2_28 : FL RX2 28 2 3 false (.boolean) := ⟨RX2, TX2, 5, tyX2, rfl, inG2, gf_RX2_28, by decide, rfl, tyX2_ok, nmX2, rfl, fun h => by cases h⟩
theorem fl_RX4_91 : FL RX4 91 2 3 false (.boolean) := ⟨RX2, TX2, 5, tyX2, rfl, inG2, gf_RX4_91, by decide, rfl, tyX2_ok, nmX2, rfl, fun h => by cases h⟩
theorem fl_RX5_156 : FL RX5 156 2 3 false (.boolean) := ⟨RX2, TX2, 5, tyX2, rfl, inG2, gf_RX5_156, by decide, rfl, tyX2_ok, nmX2, rfl, fun h => by cases h⟩
theorem fl_RX2_32 : FL RX2 32 2 4 false (.int) := ⟨RX2, TX2, 5, tyX2, rfl, inG2, gf_RX2_32, by decide, rfl, tyX2_ok, nmX2, rfl, fun h => by cases h⟩
theorem fl_RX4_115 : FL RX4 115 2 4 false (.int) := ⟨RX2, TX2, 5, tyX2, rfl, inG2, gf_RX4_115, by decide, rfl, tyX2_ok, nmX2, rfl, fun h => by cases h⟩
theorem fl_RX4_11 : FL RX4 11 4 0 true (.array (.object "PictureLog$Page")) := ⟨RX4, TX4, 6, tyX4, rfl, inG4, gf_RX4_11, by decide, rfl, tyX4_ok, nmX4, rfl, fun _ => rfl⟩
theorem fl_RX5_132 : FL RX5 132 4 0 true (.array (.object "PictureLog$Page")) := ⟨RX4, TX4, 6, tyX4, rfl, inG4, gf_RX5_132, by decide, rfl, tyX4_ok, nmX4, rfl, fun _ => rfl⟩
theorem fl_RX4_20 : FL RX4 20 4 1 true (.object "PictureLog$Log") := ⟨RX4, TX4, 6, tyX4, rfl, inG4, gf_RX4_20, by decide, rfl, tyX4_ok, nmX4, rfl, fun _ => rfl⟩
theorem fl_RX5_58 : FL RX5 58 4 1 true (.object "PictureLog$Log") := ⟨RX4, TX4, 6, tyX4, rfl, inG4, gf_RX5_58, by decide, rfl, tyX4_ok, nmX4, rfl, fun _ => rfl⟩
theorem fl_RX4_24 : FL RX4 24 4 2 false (.int) := ⟨RX4, TX4, 6, tyX4, rfl, inG4, gf_RX4_24, by decide, rfl, tyX4_ok, nmX4, rfl, fun h => by cases h⟩
theorem fl_RX5_217 : FL RX5 217 4 2 false (.int) := ⟨RX4, TX4, 6, tyX4, rfl, inG4, gf_RX5_217, by decide, rfl, tyX4_ok, nmX4, rfl, fun h => by cases h⟩
theorem fl_RX4_36 : FL RX4 36 4 3 false (.int) := ⟨RX4, TX4, 6, tyX4, rfl, inG4, gf_RX4_36, by decide, rfl, tyX4_ok, nmX4, rfl, fun h => by cases h⟩
theorem fl_RX5_88 : FL RX5 88 4 3 false (.int) := ⟨RX4, TX4, 6, tyX4, rfl, inG4, gf_RX5_88, by decide, rfl, tyX4_ok, nmX4, rfl, fun h => by cases h⟩
theorem fl_RX4_39 : FL RX4 39 4 4 false (.int) := ⟨RX4, TX4, 6, tyX4, rfl, inG4, gf_RX4_39, by decide, rfl, tyX4_ok, nmX4, rfl, fun h => by cases h⟩
theorem fl_RX5_229 : FL RX5 229 4 4 false (.int) := ⟨RX4, TX4, 6, tyX4, rfl, inG4, gf_RX5_229, by decide, rfl, tyX4_ok, nmX4, rfl, fun h => by cases h⟩
theorem fl_RX4_42 : FL RX4 42 4 5 false (.int) := ⟨RX4, TX4, 6, tyX4, rfl, inG4, gf_RX4_42, by decide, rfl, tyX4_ok, nmX4, rfl, fun h => by cases h⟩
theorem fl_RX5_232 : FL RX5 232 4 5 false (.int) := ⟨RX4, TX4, 6, tyX4, rfl, inG4, gf_RX5_232, by decide, rfl, tyX4_ok, nmX4, rfl, fun h => by cases h⟩
theorem fl_RX5_12 : FL RX5 12 5 0 true (.object "PictureLog$State") := ⟨RX5, TX5, 7, tyX5, rfl, inG5, gf_RX5_12, by decide, rfl, tyX5_ok, nmX5, rfl, fun _ => rfl⟩
theorem fl_RX5_16 : FL RX5 16 5 1 true (.array (.object "PictureLog$State")) := ⟨RX5, TX5, 7, tyX5, rfl, inG5, gf_RX5_16, by decide, rfl, tyX5_ok, nmX5, rfl, fun _ => rfl⟩
theorem fl_RX5_121 : FL RX5 121 5 2 false (.int) := ⟨RX5, TX5, 7, tyX5, rfl, inG5, gf_RX5_121, by decide, rfl, tyX5_ok, nmX5, rfl, fun h => by cases h⟩
theorem fl_RX5_20 : FL RX5 20 5 3 true (.object "PictureLog$State") := ⟨RX5, TX5, 7, tyX5, rfl, inG5, gf_RX5_20, by decide, rfl, tyX5_ok, nmX5, rfl, fun _ => rfl⟩
theorem fl_RX5_128 : FL RX5 128 5 4 false (.boolean) := ⟨RX5, TX5, 7, tyX5, rfl, inG5, gf_RX5_128, by decide, rfl, tyX5_ok, nmX5, rfl, fun h => by cases h⟩
theorem fl_RX5_23 : FL RX5 23 5 5 true (.array .char) := ⟨RX5, TX5, 7, tyX5, rfl, inG5, gf_RX5_23, by decide, rfl, tyX5_ok, nmX5, rfl, fun _ => rfl⟩
theorem fl_RX5_74 : FL RX5 74 5 6 false (.int) := ⟨RX5, TX5, 7, tyX5, rfl, inG5, gf_RX5_74, by decide, rfl, tyX5_ok, nmX5, rfl, fun h => by cases h⟩
theorem fl_RX0_9 : FL RX0 9 0 0 true (.int) := ⟨RX0, TX0, 8, tyX0, rfl, inG0, gf_RX0_9, by decide, rfl, tyX0_ok, nmX0, rfl, fun _ => rfl⟩
theorem fl_RX4_61 : FL RX4 61 0 0 true (.int) := ⟨RX0, TX0, 8, tyX0, rfl, inG0, gf_RX4_61, by decide, rfl, tyX0_ok, nmX0, rfl, fun _ => rfl⟩
theorem fl_RX1_47 : FL RX1 47 0 0 true (.int) := ⟨RX0, TX0, 8, tyX0, rfl, inG0, gf_RX1_47, by decide, rfl, tyX0_ok, nmX0, rfl, fun _ => rfl⟩
theorem fl_RX5_175 : FL RX5 175 0 0 true (.int) := ⟨RX0, TX0, 8, tyX0, rfl, inG0, gf_RX5_175, by decide, rfl, tyX0_ok, nmX0, rfl, fun _ => rfl⟩
theorem fl_RX0_15 : FL RX0 15 0 1 true (.int) := ⟨RX0, TX0, 8, tyX0, rfl, inG0, gf_RX0_15, by decide, rfl, tyX0_ok, nmX0, rfl, fun _ => rfl⟩
theorem fl_RX4_66 : FL RX4 66 0 1 true (.int) := ⟨RX0, TX0, 8, tyX0, rfl, inG0, gf_RX4_66, by decide, rfl, tyX0_ok, nmX0, rfl, fun _ => rfl⟩
theorem fl_RX1_53 : FL RX1 53 0 1 true (.int) := ⟨RX0, TX0, 8, tyX0, rfl, inG0, gf_RX1_53, by decide, rfl, tyX0_ok, nmX0, rfl, fun _ => rfl⟩
theorem fl_RX5_178 : FL RX5 178 0 1 true (.int) := ⟨RX0, TX0, 8, tyX0, rfl, inG0, gf_RX5_178, by decide, rfl, tyX0_ok, nmX0, rfl, fun _ => rfl⟩
theorem fl_RX0_18 : FL RX0 18 0 2 true (.int) := ⟨RX0, TX0, 8, tyX0, rfl, inG0, gf_RX0_18, by decide, rfl, tyX0_ok, nmX0, rfl, fun _ => rfl⟩
theorem fl_RX0_21 : FL RX0 21 0 3 true (.int) := ⟨RX0, TX0, 8, tyX0, rfl, inG0, gf_RX0_21, by decide, rfl, tyX0_ok, nmX0, rfl, fun _ => rfl⟩
theorem fl_RX0_24 : FL RX0 24 0 4 true (.int) := ⟨RX0, TX0, 8, tyX0, rfl, inG0, gf_RX0_24, by decide, rfl, tyX0_ok, nmX0, rfl, fun _ => rfl⟩
theorem fl_RX0_27 : FL RX0 27 0 5 true (.array .int) := ⟨RX0, TX0, 8, tyX0, rfl, inG0, gf_RX0_27, by decide, rfl, tyX0_ok, nmX0, rfl, fun _ => rfl⟩
theorem fl_RX0_31 : FL RX0 31 0 6 true (.boolean) := ⟨RX0, TX0, 8, tyX0, rfl, inG0, gf_RX0_31, by decide, rfl, tyX0_ok, nmX0, rfl, fun _ => rfl⟩
theorem fl_RX1_56 : FL RX1 56 0 6 true (.boolean) := ⟨RX0, TX0, 8, tyX0, rfl, inG0, gf_RX1_56, by decide, rfl, tyX0_ok, nmX0, rfl, fun _ => rfl⟩
theorem fl_RX5_193 : FL RX5 193 0 6 true (.boolean) := ⟨RX0, TX0, 8, tyX0, rfl, inG0, gf_RX5_193, by decide, rfl, tyX0_ok, nmX0, rfl, fun _ => rfl⟩
theorem fl_RX4_180 : FL RX4 180 0 6 true (.boolean) := ⟨RX0, TX0, 8, tyX0, rfl, inG0, gf_RX4_180, by decide, rfl, tyX0_ok, nmX0, rfl, fun _ => rfl⟩
theorem fl_RX0_39 : FL RX0 39 0 7 true (.int) := ⟨RX0, TX0, 8, tyX0, rfl, inG0, gf_RX0_39, by decide, rfl, tyX0_ok, nmX0, rfl, fun _ => rfl⟩
theorem fl_RX1_38 : FL RX1 38 0 7 true (.int) := ⟨RX0, TX0, 8, tyX0, rfl, inG0, gf_RX1_38, by decide, rfl, tyX0_ok, nmX0, rfl, fun _ => rfl⟩
theorem fl_RX4_156 : FL RX4 156 0 7 true (.int) := ⟨RX0, TX0, 8, tyX0, rfl, inG0, gf_RX4_156, by decide, rfl, tyX0_ok, nmX0, rfl, fun _ => rfl⟩
theorem fl_RX5_181 : FL RX5 181 0 7 true (.int) := ⟨RX0, TX0, 8, tyX0, rfl, inG0, gf_RX5_181, by decide, rfl, tyX0_ok, nmX0, rfl, fun _ => rfl⟩
theorem fl_RX3_17 : FL RX3 17 3 0 true (.array .char) := ⟨RX3, TX3, 5, tyX3, rfl, inG3, gf_RX3_17, by decide, rfl, tyX3_ok, nmX3, rfl, fun _ => rfl⟩
theorem fl_RX3_21 : FL RX3 21 3 1 true (.int) := ⟨RX3, TX3, 5, tyX3, rfl, inG3, gf_RX3_21, by decide, rfl, tyX3_ok, nmX3, rfl, fun _ => rfl⟩
theorem fl_RX3_11 : FL RX3 11 3 2 true (.array (.object "PictureLog$Entry")) := ⟨RX3, TX3, 5, tyX3, rfl, inG3, gf_RX3_11, by decide, rfl, tyX3_ok, nmX3, rfl, fun _ => rfl⟩
theorem fl_RX3_25 : FL RX3 25 3 3 false (.int) := ⟨RX3, TX3, 5, tyX3, rfl, inG3, gf_RX3_25, by decide, rfl, tyX3_ok, nmX3, rfl, fun h => by cases h⟩
theorem fl_RX5_91 : FL RX5 91 3 3 false (.int) := ⟨RX3, TX3, 5, tyX3, rfl, inG3, gf_RX5_91, by decide, rfl, tyX3_ok, nmX3, rfl, fun h => by cases h⟩
theorem fl_RX3_32 : FL RX3 32 3 4 false (.int) := ⟨RX3, TX3, 5, tyX3, rfl, inG3, gf_RX3_32, by decide, rfl, tyX3_ok, nmX3, rfl, fun h => by cases h⟩
theorem fl_RX5_85 : FL RX5 85 3 4 false (.int) := ⟨RX3, TX3, 5, tyX3, rfl, inG3, gf_RX5_85, by decide, rfl, tyX3_ok, nmX3, rfl, fun h => by cases h⟩
theorem fl_RX6_7 : FL RX6 7 6 0 true (.array .int) := ⟨RX6, TX6, 12, tyX6, rfl, inG6, gf_RX6_7, by decide, rfl, tyX6_ok, nmX6, rfl, fun _ => rfl⟩
theorem fl_RX6_13 : FL RX6 13 6 1 true (.array .int) := ⟨RX6, TX6, 12, tyX6, rfl, inG6, gf_RX6_13, by decide, rfl, tyX6_ok, nmX6, rfl, fun _ => rfl⟩
theorem fl_RX6_16 : FL RX6 16 6 2 true (.array .int) := ⟨RX6, TX6, 12, tyX6, rfl, inG6, gf_RX6_16, by decide, rfl, tyX6_ok, nmX6, rfl, fun _ => rfl⟩
theorem fl_RX6_39 : FL RX6 39 6 3 false (.int) := ⟨RX6, TX6, 12, tyX6, rfl, inG6, gf_RX6_39, by decide, rfl, tyX6_ok, nmX6, rfl, fun h => by cases h⟩
theorem fl_RX6_19 : FL RX6 19 6 4 true (.array .int) := ⟨RX6, TX6, 12, tyX6, rfl, inG6, gf_RX6_19, by decide, rfl, tyX6_ok, nmX6, rfl, fun _ => rfl⟩
theorem fl_RX6_47 : FL RX6 47 6 5 false (.boolean) := ⟨RX6, TX6, 12, tyX6, rfl, inG6, gf_RX6_47, by decide, rfl, tyX6_ok, nmX6, rfl, fun h => by cases h⟩
theorem fl_RX6_22 : FL RX6 22 6 6 true (.array .char) := ⟨RX6, TX6, 12, tyX6, rfl, inG6, gf_RX6_22, by decide, rfl, tyX6_ok, nmX6, rfl, fun _ => rfl⟩
theorem fl_RX6_134 : FL RX6 134 6 7 false (.int) := ⟨RX6, TX6, 12, tyX6, rfl, inG6, gf_RX6_134, by decide, rfl, tyX6_ok, nmX6, rfl, fun h => by cases h⟩
theorem fl_RX6_26 : FL RX6 26 6 8 true (.array .int) := ⟨RX6, TX6, 12, tyX6, rfl, inG6, gf_RX6_26, by decide, rfl, tyX6_ok, nmX6, rfl, fun _ => rfl⟩
theorem fl_RX6_29 : FL RX6 29 6 9 true (.array .int) := ⟨RX6, TX6, 12, tyX6, rfl, inG6, gf_RX6_29, by decide, rfl, tyX6_ok, nmX6, rfl, fun _ => rfl⟩
theorem fl_RX6_32 : FL RX6 32 6 10 true (.array .int) := ⟨RX6, TX6, 12, tyX6, rfl, inG6, gf_RX6_32, by decide, rfl, tyX6_ok, nmX6, rfl, fun _ => rfl⟩
theorem fl_RX6_137 : FL RX6 137 6 11 false (.int) := ⟨RX6, TX6, 12, tyX6, rfl, inG6, gf_RX6_137, by decide, rfl, tyX6_ok, nmX6, rfl, fun h => by cases h⟩
theorem nl_RL_7 : NL RL 7 5 7 [.inr none, .inr none, .inl 0, .inr none, .inl 0, .inr none, .inl 0] := ⟨RX5, TX5, tyX5, rfl, inG5, tyX5_ok, gk_RL_7, gn_RX5, gi_RX5, fun j hj => by
  match j, hj with
  | 0, _ => rfl
  | 1, _ => rfl
  | 2, _ => rfl
  | 3, _ => rfl
  | 4, _ => rfl
  | 5, _ => rfl
  | 6, _ => rfl, (wcons trivial (wcons trivial (wcons (show inR 0 by decide) (wcons trivial (wcons (show inR 0 by decide) (wcons trivial (wcons (show inR 0 by decide) (fun v h => by cases h))))))))⟩
theorem nl_RL_10 : NL RL 10 6 12 [.inr none, .inr none, .inr none, .inl 0, .inr none, .inl 0, .inr none, .inl 0, .inr none, .inr none, .inr none, .inl 0] := ⟨RX6, TX6, tyX6, rfl, inG6, tyX6_ok, gk_RL_10, gn_RX6, gi_RX6, fun j hj => by
  match j, hj with
  | 0, _ => rfl
  | 1, _ => rfl
  | 2, _ => rfl
  | 3, _ => rfl
  | 4, _ => rfl
  | 5, _ => rfl
  | 6, _ => rfl
  | 7, _ => rfl
  | 8, _ => rfl
  | 9, _ => rfl
  | 10, _ => rfl
  | 11, _ => rfl, (wcons trivial (wcons trivial (wcons trivial (wcons (show inR 0 by decide) (wcons trivial (wcons (show inR 0 by decide) (wcons trivial (wcons (show inR 0 by decide) (wcons trivial (wcons trivial (wcons trivial (wcons (show inR 0 by decide) (fun v h => by cases h)))))))))))))⟩
theorem nl_RX0_10 : NL RX0 10 0 8 [.inl 0, .inl 0, .inl 0, .inl 0, .inl 0, .inr none, .inl 0, .inl 0] := ⟨RX0, TX0, tyX0, rfl, inG0, tyX0_ok, gk_RX0_10, gn_RX0, gi_RX0, fun j hj => by
  match j, hj with
  | 0, _ => rfl
  | 1, _ => rfl
  | 2, _ => rfl
  | 3, _ => rfl
  | 4, _ => rfl
  | 5, _ => rfl
  | 6, _ => rfl
  | 7, _ => rfl, (wcons (show inR 0 by decide) (wcons (show inR 0 by decide) (wcons (show inR 0 by decide) (wcons (show inR 0 by decide) (wcons (show inR 0 by decide) (wcons trivial (wcons (show inR 0 by decide) (wcons (show inR 0 by decide) (fun v h => by cases h)))))))))⟩
theorem nl_RX4_9 : NL RX4 9 2 5 [.inr none, .inr none, .inl 0, .inl 0, .inl 0] := ⟨RX2, TX2, tyX2, rfl, inG2, tyX2_ok, gk_RX4_9, gn_RX2, gi_RX2, fun j hj => by
  match j, hj with
  | 0, _ => rfl
  | 1, _ => rfl
  | 2, _ => rfl
  | 3, _ => rfl
  | 4, _ => rfl, (wcons trivial (wcons trivial (wcons (show inR 0 by decide) (wcons (show inR 0 by decide) (wcons (show inR 0 by decide) (fun v h => by cases h))))))⟩
theorem nl_RX4_17 : NL RX4 17 1 5 [.inr none, .inl 0, .inl 0, .inl 0, .inl 0] := ⟨RX1, TX1, tyX1, rfl, inG1, tyX1_ok, gk_RX4_17, gn_RX1, gi_RX1, fun j hj => by
  match j, hj with
  | 0, _ => rfl
  | 1, _ => rfl
  | 2, _ => rfl
  | 3, _ => rfl
  | 4, _ => rfl, (wcons trivial (wcons (show inR 0 by decide) (wcons (show inR 0 by decide) (wcons (show inR 0 by decide) (wcons (show inR 0 by decide) (fun v h => by cases h))))))⟩
theorem nl_RX5_9 : NL RX5 9 4 6 [.inr none, .inr none, .inl 0, .inl 0, .inl 0, .inl 0] := ⟨RX4, TX4, tyX4, rfl, inG4, tyX4_ok, gk_RX5_9, gn_RX4, gi_RX4, fun j hj => by
  match j, hj with
  | 0, _ => rfl
  | 1, _ => rfl
  | 2, _ => rfl
  | 3, _ => rfl
  | 4, _ => rfl
  | 5, _ => rfl, (wcons trivial (wcons trivial (wcons (show inR 0 by decide) (wcons (show inR 0 by decide) (wcons (show inR 0 by decide) (wcons (show inR 0 by decide) (fun v h => by cases h)))))))⟩
theorem nl_RX5_72 : NL RX5 72 3 5 [.inr none, .inl 0, .inr none, .inl 0, .inl 0] := ⟨RX3, TX3, tyX3, rfl, inG3, tyX3_ok, gk_RX5_72, gn_RX3, gi_RX3, fun j hj => by
  match j, hj with
  | 0, _ => rfl
  | 1, _ => rfl
  | 2, _ => rfl
  | 3, _ => rfl
  | 4, _ => rfl, (wcons trivial (wcons (show inR 0 by decide) (wcons trivial (wcons (show inR 0 by decide) (wcons (show inR 0 by decide) (fun v h => by cases h))))))⟩
theorem ca_X5_init : callee kX5_init 0 := ⟨gc_X5_init, gi_RX5, ⟨by decide, by decide⟩, by decide +kernel⟩
theorem call_X5_init {G : GX} {y : MK} {R : Room} {Qf : QF} {pc pc' : Nat} {L : List (Option AV)} {st : List AV} {sz : Nat} {m : Mem} {k n d2 mc ms idx : Nat} {P : PO} {a : Nat} (h : At y pc (.invokespecial idx) 3 pc') (hl : Cond.methodLink y.1.cls idx yX5_init ∈ GW) (ok : Ok G kX5_init d2 [.inr (some a)] sz m mc ms P) (h8 : st.length ≤ 8) (hr : (d2 + 1 ≤ R.frames ∧ 8 + (2 + 11) + 40 * d2 ≤ R.locals) ∧ k + mc ≤ R.cells ∧ n + ms ≤ R.slots) (kk : ∀ (r : Option AV) (sz' : Nat) (m' : Mem), P r sz' m' → V G y R Qf pc' L (r.toList ++ st) sz' m' (k + mc) (n + ms)) : V G y R Qf pc L (.inr (some a) :: st) sz m k n := V.callI (args2 := []) h hl ca_X5_init gm_X5_init rfl rfl rfl ok rfl h8 hr kk
theorem ca_X4_init : callee kX4_init 0 := ⟨gc_X4_init, gi_RX4, ⟨by decide, by decide⟩, by decide +kernel⟩
theorem call_X4_init {G : GX} {y : MK} {R : Room} {Qf : QF} {pc pc' : Nat} {L : List (Option AV)} {st : List AV} {sz : Nat} {m : Mem} {k n d2 mc ms idx : Nat} {P : PO} {a : Nat} (h : At y pc (.invokespecial idx) 3 pc') (hl : Cond.methodLink y.1.cls idx yX4_init ∈ GW) (ok : Ok G kX4_init d2 [.inr (some a)] sz m mc ms P) (h8 : st.length ≤ 8) (hr : (d2 + 1 ≤ R.frames ∧ 8 + (2 + 11) + 40 * d2 ≤ R.locals) ∧ k + mc ≤ R.cells ∧ n + ms ≤ R.slots) (kk : ∀ (r : Option AV) (sz' : Nat) (m' : Mem), P r sz' m' → V G y R Qf pc' L (r.toList ++ st) sz' m' (k + mc) (n + ms)) : V G y R Qf pc L (.inr (some a) :: st) sz m k n := V.callI (args2 := []) h hl ca_X4_init gm_X4_init rfl rfl rfl ok rfl h8 hr kk
theorem ca_X1_init : callee kX1_init 0 := ⟨gc_X1_init, gi_RX1, ⟨by decide, by decide⟩, by decide +kernel⟩
theorem call_X1_init {G : GX} {y : MK} {R : Room} {Qf : QF} {pc pc' : Nat} {L : List (Option AV)} {st : List AV} {sz : Nat} {m : Mem} {k n d2 mc ms idx : Nat} {P : PO} {a : Nat} (h : At y pc (.invokespecial idx) 3 pc') (ho : y.1.cls = RX4) (hl : idx = 19) (ok : Ok G kX1_init d2 [.inr (some a)] sz m mc ms P) (h8 : st.length ≤ 8) (hr : (d2 + 1 ≤ R.frames ∧ 8 + (1 + 11) + 40 * d2 ≤ R.locals) ∧ k + mc ≤ R.cells ∧ n + ms ≤ R.slots) (kk : ∀ (r : Option AV) (sz' : Nat) (m' : Mem), P r sz' m' → V G y R Qf pc' L (r.toList ++ st) sz' m' (k + mc) (n + ms)) : V G y R Qf pc L (.inr (some a) :: st) sz m k n := V.callN h ho (Or.inl ⟨hl, rfl⟩) ca_X1_init gm_X1_init rfl rfl ok h8 hr kk
theorem ca_X2_init : callee kX2_init 0 := ⟨gc_X2_init, gi_RX2, ⟨by decide, by decide⟩, by decide +kernel⟩
theorem call_X2_init {G : GX} {y : MK} {R : Room} {Qf : QF} {pc pc' : Nat} {L : List (Option AV)} {st : List AV} {sz : Nat} {m : Mem} {k n d2 mc ms idx : Nat} {P : PO} {a : Nat} (h : At y pc (.invokespecial idx) 3 pc') (ho : y.1.cls = RX4) (hl : idx = 28) (ok : Ok G kX2_init d2 [.inr (some a)] sz m mc ms P) (h8 : st.length ≤ 8) (hr : (d2 + 1 ≤ R.frames ∧ 8 + (1 + 11) + 40 * d2 ≤ R.locals) ∧ k + mc ≤ R.cells ∧ n + ms ≤ R.slots) (kk : ∀ (r : Option AV) (sz' : Nat) (m' : Mem), P r sz' m' → V G y R Qf pc' L (r.toList ++ st) sz' m' (k + mc) (n + ms)) : V G y R Qf pc L (.inr (some a) :: st) sz m k n := V.callN h ho (Or.inr ⟨hl, rfl⟩) ca_X2_init gm_X2_init rfl rfl ok h8 hr kk
theorem ca_X5_fill : callee kX5_fill 4 := ⟨gc_X5_fill, gi_RX5, ⟨by decide, by decide⟩, by decide +kernel⟩
theorem call_X5_fill {G : GX} {y : MK} {R : Room} {Qf : QF} {pc pc' : Nat} {L : List (Option AV)} {st : List AV} {sz : Nat} {m : Mem} {k n d2 mc ms idx : Nat} {x0 x1 x2 x3 : AV} {P : PO} {a : Nat} {fs : List AV} (h : At y pc (.invokevirtual idx) 3 pc') (hl : Cond.methodLink y.1.cls idx yX5_fill ∈ GW) (ok : Ok G kX5_fill d2 [.inr (some a), x0, x1, x2, x3] sz m mc ms P) (hm : m a = obj 5 fs) (h8 : st.length ≤ 8) (hr : (d2 + 1 ≤ R.frames ∧ 8 + (5 + 11) + 40 * d2 ≤ R.locals) ∧ k + mc ≤ R.cells ∧ n + ms ≤ R.slots) (kk : ∀ (r : Option AV) (sz' : Nat) (m' : Mem), P r sz' m' → V G y R Qf pc' L (r.toList ++ st) sz' m' (k + mc) (n + ms)) : V G y R Qf pc L (x3 :: x2 :: x1 :: x0 :: .inr (some a) :: st) sz m k n := V.callV (args2 := [x0, x1, x2, x3]) h hl ca_X5_fill gm_X5_fill ge_X5_fill rfl rfl ok hm rfl h8 hr kk
theorem ca_X5_isPage : callee kX5_isPage 1 := ⟨gc_X5_isPage, gi_RX5, ⟨by decide, by decide⟩, by decide +kernel⟩
theorem call_X5_isPage {G : GX} {y : MK} {R : Room} {Qf : QF} {pc pc' : Nat} {L : List (Option AV)} {st : List AV} {sz : Nat} {m : Mem} {k n d2 mc ms idx : Nat} {x0 : AV} {P : PO} (h : At y pc (.invokestatic idx) 3 pc') (hl : Cond.methodLink y.1.cls idx yX5_isPage ∈ GW) (ok : Ok G kX5_isPage d2 [x0] sz m mc ms P) (h8 : st.length ≤ 8) (hr : (d2 + 1 ≤ R.frames ∧ 8 + (1 + 11) + 40 * d2 ≤ R.locals) ∧ k + mc ≤ R.cells ∧ n + ms ≤ R.slots) (kk : ∀ (r : Option AV) (sz' : Nat) (m' : Mem), P r sz' m' → V G y R Qf pc' L (r.toList ++ st) sz' m' (k + mc) (n + ms)) : V G y R Qf pc L (x0 :: st) sz m k n := V.callS (args2 := [x0]) h hl ca_X5_isPage gs_X5_isPage rfl ok rfl h8 hr kk
theorem ca_X5_isCell : callee kX5_isCell 1 := ⟨gc_X5_isCell, gi_RX5, ⟨by decide, by decide⟩, by decide +kernel⟩
theorem call_X5_isCell {G : GX} {y : MK} {R : Room} {Qf : QF} {pc pc' : Nat} {L : List (Option AV)} {st : List AV} {sz : Nat} {m : Mem} {k n d2 mc ms idx : Nat} {x0 : AV} {P : PO} (h : At y pc (.invokestatic idx) 3 pc') (hl : Cond.methodLink y.1.cls idx yX5_isCell ∈ GW) (ok : Ok G kX5_isCell d2 [x0] sz m mc ms P) (h8 : st.length ≤ 8) (hr : (d2 + 1 ≤ R.frames ∧ 8 + (1 + 11) + 40 * d2 ≤ R.locals) ∧ k + mc ≤ R.cells ∧ n + ms ≤ R.slots) (kk : ∀ (r : Option AV) (sz' : Nat) (m' : Mem), P r sz' m' → V G y R Qf pc' L (r.toList ++ st) sz' m' (k + mc) (n + ms)) : V G y R Qf pc L (x0 :: st) sz m k n := V.callS (args2 := [x0]) h hl ca_X5_isCell gs_X5_isCell rfl ok rfl h8 hr kk
theorem ca_X5_isValue : callee kX5_isValue 1 := ⟨gc_X5_isValue, gi_RX5, ⟨by decide, by decide⟩, by decide +kernel⟩
theorem call_X5_isValue {G : GX} {y : MK} {R : Room} {Qf : QF} {pc pc' : Nat} {L : List (Option AV)} {st : List AV} {sz : Nat} {m : Mem} {k n d2 mc ms idx : Nat} {x0 : AV} {P : PO} (h : At y pc (.invokestatic idx) 3 pc') (hl : Cond.methodLink y.1.cls idx yX5_isValue ∈ GW) (ok : Ok G kX5_isValue d2 [x0] sz m mc ms P) (h8 : st.length ≤ 8) (hr : (d2 + 1 ≤ R.frames ∧ 8 + (1 + 11) + 40 * d2 ≤ R.locals) ∧ k + mc ≤ R.cells ∧ n + ms ≤ R.slots) (kk : ∀ (r : Option AV) (sz' : Nat) (m' : Mem), P r sz' m' → V G y R Qf pc' L (r.toList ++ st) sz' m' (k + mc) (n + ms)) : V G y R Qf pc L (x0 :: st) sz m k n := V.callS (args2 := [x0]) h hl ca_X5_isValue gs_X5_isValue rfl ok rfl h8 hr kk
theorem ca_X5_begin : callee kX5_begin 0 := ⟨gc_X5_begin, gi_RX5, ⟨by decide, by decide⟩, by decide +kernel⟩
theorem call_X5_begin {G : GX} {y : MK} {R : Room} {Qf : QF} {pc pc' : Nat} {L : List (Option AV)} {st : List AV} {sz : Nat} {m : Mem} {k n d2 mc ms idx : Nat} {P : PO} {a : Nat} {fs : List AV} (h : At y pc (.invokevirtual idx) 3 pc') (hl : Cond.methodLink y.1.cls idx yX5_begin ∈ GW) (ok : Ok G kX5_begin d2 [.inr (some a)] sz m mc ms P) (hm : m a = obj 5 fs) (h8 : st.length ≤ 8) (hr : (d2 + 1 ≤ R.frames ∧ 8 + (1 + 11) + 40 * d2 ≤ R.locals) ∧ k + mc ≤ R.cells ∧ n + ms ≤ R.slots) (kk : ∀ (r : Option AV) (sz' : Nat) (m' : Mem), P r sz' m' → V G y R Qf pc' L (r.toList ++ st) sz' m' (k + mc) (n + ms)) : V G y R Qf pc L (.inr (some a) :: st) sz m k n := V.callV (args2 := []) h hl ca_X5_begin gm_X5_begin ge_X5_begin rfl rfl ok hm rfl h8 hr kk
theorem ca_X4_copyFrom : callee kX4_copyFrom 1 := ⟨gc_X4_copyFrom, gi_RX4, ⟨by decide, by decide⟩, by decide +kernel⟩
theorem call_X4_copyFrom {G : GX} {y : MK} {R : Room} {Qf : QF} {pc pc' : Nat} {L : List (Option AV)} {st : List AV} {sz : Nat} {m : Mem} {k n d2 mc ms idx : Nat} {x0 : AV} {P : PO} {a : Nat} {fs : List AV} (h : At y pc (.invokevirtual idx) 3 pc') (hl : Cond.methodLink y.1.cls idx yX4_copyFrom ∈ GW) (ok : Ok G kX4_copyFrom d2 [.inr (some a), x0] sz m mc ms P) (hm : m a = obj 4 fs) (h8 : st.length ≤ 8) (hr : (d2 + 1 ≤ R.frames ∧ 8 + (3 + 11) + 40 * d2 ≤ R.locals) ∧ k + mc ≤ R.cells ∧ n + ms ≤ R.slots) (kk : ∀ (r : Option AV) (sz' : Nat) (m' : Mem), P r sz' m' → V G y R Qf pc' L (r.toList ++ st) sz' m' (k + mc) (n + ms)) : V G y R Qf pc L (x0 :: .inr (some a) :: st) sz m k n := V.callV (args2 := [x0]) h hl ca_X4_copyFrom gm_X4_copyFrom ge_X4_copyFrom rfl rfl ok hm rfl h8 hr kk
theorem ca_X2_copyFrom : callee kX2_copyFrom 1 := ⟨gc_X2_copyFrom, gi_RX2, ⟨by decide, by decide⟩, by decide +kernel⟩
theorem call_X2_copyFrom {G : GX} {y : MK} {R : Room} {Qf : QF} {pc pc' : Nat} {L : List (Option AV)} {st : List AV} {sz : Nat} {m : Mem} {k n d2 mc ms idx : Nat} {x0 : AV} {P : PO} {a : Nat} {fs : List AV} (h : At y pc (.invokevirtual idx) 3 pc') (hl : Cond.methodLink y.1.cls idx yX2_copyFrom ∈ GW) (ok : Ok G kX2_copyFrom d2 [.inr (some a), x0] sz m mc ms P) (hm : m a = obj 2 fs) (h8 : st.length ≤ 8) (hr : (d2 + 1 ≤ R.frames ∧ 8 + (2 + 11) + 40 * d2 ≤ R.locals) ∧ k + mc ≤ R.cells ∧ n + ms ≤ R.slots) (kk : ∀ (r : Option AV) (sz' : Nat) (m' : Mem), P r sz' m' → V G y R Qf pc' L (r.toList ++ st) sz' m' (k + mc) (n + ms)) : V G y R Qf pc L (x0 :: .inr (some a) :: st) sz m k n := V.callV (args2 := [x0]) h hl ca_X2_copyFrom gm_X2_copyFrom ge_X2_copyFrom rfl rfl ok hm rfl h8 hr kk
theorem ca_X1_copyFrom : callee kX1_copyFrom 1 := ⟨gc_X1_copyFrom, gi_RX1, ⟨by decide, by decide⟩, by decide +kernel⟩
theorem call_X1_copyFrom {G : GX} {y : MK} {R : Room} {Qf : QF} {pc pc' : Nat} {L : List (Option AV)} {st : List AV} {sz : Nat} {m : Mem} {k n d2 mc ms idx : Nat} {x0 : AV} {P : PO} {a : Nat} {fs : List AV} (h : At y pc (.invokevirtual idx) 3 pc') (hl : Cond.methodLink y.1.cls idx yX1_copyFrom ∈ GW) (ok : Ok G kX1_copyFrom d2 [.inr (some a), x0] sz m mc ms P) (hm : m a = obj 1 fs) (h8 : st.length ≤ 8) (hr : (d2 + 1 ≤ R.frames ∧ 8 + (3 + 11) + 40 * d2 ≤ R.locals) ∧ k + mc ≤ R.cells ∧ n + ms ≤ R.slots) (kk : ∀ (r : Option AV) (sz' : Nat) (m' : Mem), P r sz' m' → V G y R Qf pc' L (r.toList ++ st) sz' m' (k + mc) (n + ms)) : V G y R Qf pc L (x0 :: .inr (some a) :: st) sz m k n := V.callV (args2 := [x0]) h hl ca_X1_copyFrom gm_X1_copyFrom ge_X1_copyFrom rfl rfl ok hm rfl h8 hr kk
theorem ca_X0_ofCells : callee kX0_ofCells 5 := ⟨gc_X0_ofCells, gi_RX0, ⟨by decide, by decide⟩, by decide +kernel⟩
theorem call_X0_ofCells {G : GX} {y : MK} {R : Room} {Qf : QF} {pc pc' : Nat} {L : List (Option AV)} {st : List AV} {sz : Nat} {m : Mem} {k n d2 mc ms idx : Nat} {x0 x1 x2 x3 x4 : AV} {P : PO} (h : At y pc (.invokestatic idx) 3 pc') (hl : Cond.methodLink y.1.cls idx yX0_ofCells ∈ GW) (ok : Ok G kX0_ofCells d2 [x0, x1, x2, x3, x4] sz m mc ms P) (h8 : st.length ≤ 8) (hr : (d2 + 1 ≤ R.frames ∧ 8 + (5 + 11) + 40 * d2 ≤ R.locals) ∧ k + mc ≤ R.cells ∧ n + ms ≤ R.slots) (kk : ∀ (r : Option AV) (sz' : Nat) (m' : Mem), P r sz' m' → V G y R Qf pc' L (r.toList ++ st) sz' m' (k + mc) (n + ms)) : V G y R Qf pc L (x4 :: x3 :: x2 :: x1 :: x0 :: st) sz m k n := V.callS (args2 := [x0, x1, x2, x3, x4]) h hl ca_X0_ofCells gs_X0_ofCells rfl ok rfl h8 hr kk
theorem ca_X0_init : callee kX0_init 7 := ⟨gc_X0_init, gi_RX0, ⟨by decide, by decide⟩, by decide +kernel⟩
theorem call_X0_init {G : GX} {y : MK} {R : Room} {Qf : QF} {pc pc' : Nat} {L : List (Option AV)} {st : List AV} {sz : Nat} {m : Mem} {k n d2 mc ms idx : Nat} {x0 x1 x2 x3 x4 x5 x6 : AV} {P : PO} {a : Nat} (h : At y pc (.invokespecial idx) 3 pc') (hl : Cond.methodLink y.1.cls idx yX0_init ∈ GW) (ok : Ok G kX0_init d2 [.inr (some a), x0, x1, x2, x3, x4, x5, x6] sz m mc ms P) (h8 : st.length ≤ 8) (hr : (d2 + 1 ≤ R.frames ∧ 8 + (8 + 11) + 40 * d2 ≤ R.locals) ∧ k + mc ≤ R.cells ∧ n + ms ≤ R.slots) (kk : ∀ (r : Option AV) (sz' : Nat) (m' : Mem), P r sz' m' → V G y R Qf pc' L (r.toList ++ st) sz' m' (k + mc) (n + ms)) : V G y R Qf pc L (x6 :: x5 :: x4 :: x3 :: x2 :: x1 :: x0 :: .inr (some a) :: st) sz m k n := V.callI (args2 := [x0, x1, x2, x3, x4, x5, x6]) h hl ca_X0_init gm_X0_init rfl rfl rfl ok rfl h8 hr kk
theorem ca_X0_sizeOfPicture : callee kX0_sizeOfPicture 1 := ⟨gc_X0_sizeOfPicture, gi_RX0, ⟨by decide, by decide⟩, by decide +kernel⟩
theorem call_X0_sizeOfPicture {G : GX} {y : MK} {R : Room} {Qf : QF} {pc pc' : Nat} {L : List (Option AV)} {st : List AV} {sz : Nat} {m : Mem} {k n d2 mc ms idx : Nat} {x0 : AV} {P : PO} (h : At y pc (.invokestatic idx) 3 pc') (hl : Cond.methodLink y.1.cls idx yX0_sizeOfPicture ∈ GW) (ok : Ok G kX0_sizeOfPicture d2 [x0] sz m mc ms P) (h8 : st.length ≤ 8) (hr : (d2 + 1 ≤ R.frames ∧ 8 + (3 + 11) + 40 * d2 ≤ R.locals) ∧ k + mc ≤ R.cells ∧ n + ms ≤ R.slots) (kk : ∀ (r : Option AV) (sz' : Nat) (m' : Mem), P r sz' m' → V G y R Qf pc' L (r.toList ++ st) sz' m' (k + mc) (n + ms)) : V G y R Qf pc L (x0 :: st) sz m k n := V.callS (args2 := [x0]) h hl ca_X0_sizeOfPicture gs_X0_sizeOfPicture rfl ok rfl h8 hr kk
theorem ca_X4_carryOut : callee kX4_carryOut 1 := ⟨gc_X4_carryOut, gi_RX4, ⟨by decide, by decide⟩, by decide +kernel⟩
theorem call_X4_carryOut {G : GX} {y : MK} {R : Room} {Qf : QF} {pc pc' : Nat} {L : List (Option AV)} {st : List AV} {sz : Nat} {m : Mem} {k n d2 mc ms idx : Nat} {x0 : AV} {P : PO} {a : Nat} {fs : List AV} (h : At y pc (.invokevirtual idx) 3 pc') (hl : Cond.methodLink y.1.cls idx yX4_carryOut ∈ GW) (ok : Ok G kX4_carryOut d2 [.inr (some a), x0] sz m mc ms P) (hm : m a = obj 4 fs) (h8 : st.length ≤ 8) (hr : (d2 + 1 ≤ R.frames ∧ 8 + (4 + 11) + 40 * d2 ≤ R.locals) ∧ k + mc ≤ R.cells ∧ n + ms ≤ R.slots) (kk : ∀ (r : Option AV) (sz' : Nat) (m' : Mem), P r sz' m' → V G y R Qf pc' L (r.toList ++ st) sz' m' (k + mc) (n + ms)) : V G y R Qf pc L (x0 :: .inr (some a) :: st) sz m k n := V.callV (args2 := [x0]) h hl ca_X4_carryOut gm_X4_carryOut ge_X4_carryOut rfl rfl ok hm rfl h8 hr kk
theorem ca_X4_rowBehind : callee kX4_rowBehind 1 := ⟨gc_X4_rowBehind, gi_RX4, ⟨by decide, by decide⟩, by decide +kernel⟩
theorem call_X4_rowBehind {G : GX} {y : MK} {R : Room} {Qf : QF} {pc pc' : Nat} {L : List (Option AV)} {st : List AV} {sz : Nat} {m : Mem} {k n d2 mc ms idx : Nat} {x0 : AV} {P : PO} {a : Nat} {fs : List AV} (h : At y pc (.invokevirtual idx) 3 pc') (hl : Cond.methodLink y.1.cls idx yX4_rowBehind ∈ GW) (ok : Ok G kX4_rowBehind d2 [.inr (some a), x0] sz m mc ms P) (hm : m a = obj 4 fs) (h8 : st.length ≤ 8) (hr : (d2 + 1 ≤ R.frames ∧ 8 + (3 + 11) + 40 * d2 ≤ R.locals) ∧ k + mc ≤ R.cells ∧ n + ms ≤ R.slots) (kk : ∀ (r : Option AV) (sz' : Nat) (m' : Mem), P r sz' m' → V G y R Qf pc' L (r.toList ++ st) sz' m' (k + mc) (n + ms)) : V G y R Qf pc L (x0 :: .inr (some a) :: st) sz m k n := V.callV (args2 := [x0]) h hl ca_X4_rowBehind gm_X4_rowBehind ge_X4_rowBehind rfl rfl ok hm rfl h8 hr kk
theorem ca_X0_applyTo : callee kX0_applyTo 1 := ⟨gc_X0_applyTo, gi_RX0, ⟨by decide, by decide⟩, by decide +kernel⟩
theorem call_X0_applyTo {G : GX} {y : MK} {R : Room} {Qf : QF} {pc pc' : Nat} {L : List (Option AV)} {st : List AV} {sz : Nat} {m : Mem} {k n d2 mc ms idx : Nat} {x0 : AV} {P : PO} {a : Nat} {fs : List AV} (h : At y pc (.invokevirtual idx) 3 pc') (hl : Cond.methodLink y.1.cls idx yX0_applyTo ∈ GW) (ok : Ok G kX0_applyTo d2 [.inr (some a), x0] sz m mc ms P) (hm : m a = obj 0 fs) (h8 : st.length ≤ 8) (hr : (d2 + 1 ≤ R.frames ∧ 8 + (3 + 11) + 40 * d2 ≤ R.locals) ∧ k + mc ≤ R.cells ∧ n + ms ≤ R.slots) (kk : ∀ (r : Option AV) (sz' : Nat) (m' : Mem), P r sz' m' → V G y R Qf pc' L (r.toList ++ st) sz' m' (k + mc) (n + ms)) : V G y R Qf pc L (x0 :: .inr (some a) :: st) sz m k n := V.callV (args2 := [x0]) h hl ca_X0_applyTo gm_X0_applyTo ge_X0_applyTo rfl rfl ok hm rfl h8 hr kk
theorem ca_X0_turnRow : callee kX0_turnRow 1 := ⟨gc_X0_turnRow, gi_RX0, ⟨by decide, by decide⟩, by decide +kernel⟩
theorem call_X0_turnRow {G : GX} {y : MK} {R : Room} {Qf : QF} {pc pc' : Nat} {L : List (Option AV)} {st : List AV} {sz : Nat} {m : Mem} {k n d2 mc ms idx : Nat} {x0 : AV} {P : PO} {a : Nat} {fs : List AV} (h : At y pc (.invokevirtual idx) 3 pc') (hl : Cond.methodLink y.1.cls idx yX0_turnRow ∈ GW) (ok : Ok G kX0_turnRow d2 [.inr (some a), x0] sz m mc ms P) (hm : m a = obj 0 fs) (h8 : st.length ≤ 8) (hr : (d2 + 1 ≤ R.frames ∧ 8 + (2 + 11) + 40 * d2 ≤ R.locals) ∧ k + mc ≤ R.cells ∧ n + ms ≤ R.slots) (kk : ∀ (r : Option AV) (sz' : Nat) (m' : Mem), P r sz' m' → V G y R Qf pc' L (r.toList ++ st) sz' m' (k + mc) (n + ms)) : V G y R Qf pc L (x0 :: .inr (some a) :: st) sz m k n := V.callV (args2 := [x0]) h hl ca_X0_turnRow gm_X0_turnRow ge_X0_turnRow rfl rfl ok hm rfl h8 hr kk
theorem ca_X0_reverse : callee kX0_reverse 3 := ⟨gc_X0_reverse, gi_RX0, ⟨by decide, by decide⟩, by decide +kernel⟩
theorem call_X0_reverse {G : GX} {y : MK} {R : Room} {Qf : QF} {pc pc' : Nat} {L : List (Option AV)} {st : List AV} {sz : Nat} {m : Mem} {k n d2 mc ms idx : Nat} {x0 x1 x2 : AV} {P : PO} (h : At y pc (.invokestatic idx) 3 pc') (hl : Cond.methodLink y.1.cls idx yX0_reverse ∈ GW) (ok : Ok G kX0_reverse d2 [x0, x1, x2] sz m mc ms P) (h8 : st.length ≤ 8) (hr : (d2 + 1 ≤ R.frames ∧ 8 + (6 + 11) + 40 * d2 ≤ R.locals) ∧ k + mc ≤ R.cells ∧ n + ms ≤ R.slots) (kk : ∀ (r : Option AV) (sz' : Nat) (m' : Mem), P r sz' m' → V G y R Qf pc' L (r.toList ++ st) sz' m' (k + mc) (n + ms)) : V G y R Qf pc L (x2 :: x1 :: x0 :: st) sz m k n := V.callS (args2 := [x0, x1, x2]) h hl ca_X0_reverse gs_X0_reverse rfl ok rfl h8 hr kk
theorem ca_X0_valueFor : callee kX0_valueFor 2 := ⟨gc_X0_valueFor, gi_RX0, ⟨by decide, by decide⟩, by decide +kernel⟩
theorem call_X0_valueFor {G : GX} {y : MK} {R : Room} {Qf : QF} {pc pc' : Nat} {L : List (Option AV)} {st : List AV} {sz : Nat} {m : Mem} {k n d2 mc ms idx : Nat} {x0 x1 : AV} {P : PO} {a : Nat} {fs : List AV} (h : At y pc (.invokevirtual idx) 3 pc') (hl : Cond.methodLink y.1.cls idx yX0_valueFor ∈ GW) (ok : Ok G kX0_valueFor d2 [.inr (some a), x0, x1] sz m mc ms P) (hm : m a = obj 0 fs) (h8 : st.length ≤ 8) (hr : (d2 + 1 ≤ R.frames ∧ 8 + (4 + 11) + 40 * d2 ≤ R.locals) ∧ k + mc ≤ R.cells ∧ n + ms ≤ R.slots) (kk : ∀ (r : Option AV) (sz' : Nat) (m' : Mem), P r sz' m' → V G y R Qf pc' L (r.toList ++ st) sz' m' (k + mc) (n + ms)) : V G y R Qf pc L (x1 :: x0 :: .inr (some a) :: st) sz m k n := V.callV (args2 := [x0, x1]) h hl ca_X0_valueFor gm_X0_valueFor ge_X0_valueFor rfl rfl ok hm rfl h8 hr kk
theorem ca_X4_isLoggedAsPicture : callee kX4_isLoggedAsPicture 2 := ⟨gc_X4_isLoggedAsPicture, gi_RX4, ⟨by decide, by decide⟩, by decide +kernel⟩
theorem call_X4_isLoggedAsPicture {G : GX} {y : MK} {R : Room} {Qf : QF} {pc pc' : Nat} {L : List (Option AV)} {st : List AV} {sz : Nat} {m : Mem} {k n d2 mc ms idx : Nat} {x0 x1 : AV} {P : PO} {a : Nat} {fs : List AV} (h : At y pc (.invokevirtual idx) 3 pc') (hl : Cond.methodLink y.1.cls idx yX4_isLoggedAsPicture ∈ GW) (ok : Ok G kX4_isLoggedAsPicture d2 [.inr (some a), x0, x1] sz m mc ms P) (hm : m a = obj 4 fs) (h8 : st.length ≤ 8) (hr : (d2 + 1 ≤ R.frames ∧ 8 + (3 + 11) + 40 * d2 ≤ R.locals) ∧ k + mc ≤ R.cells ∧ n + ms ≤ R.slots) (kk : ∀ (r : Option AV) (sz' : Nat) (m' : Mem), P r sz' m' → V G y R Qf pc' L (r.toList ++ st) sz' m' (k + mc) (n + ms)) : V G y R Qf pc L (x1 :: x0 :: .inr (some a) :: st) sz m k n := V.callV (args2 := [x0, x1]) h hl ca_X4_isLoggedAsPicture gm_X4_isLoggedAsPicture ge_X4_isLoggedAsPicture rfl rfl ok hm rfl h8 hr kk
theorem ca_X4_timeToRestore : callee kX4_timeToRestore 1 := ⟨gc_X4_timeToRestore, gi_RX4, ⟨by decide, by decide⟩, by decide +kernel⟩
theorem call_X4_timeToRestore {G : GX} {y : MK} {R : Room} {Qf : QF} {pc pc' : Nat} {L : List (Option AV)} {st : List AV} {sz : Nat} {m : Mem} {k n d2 mc ms idx : Nat} {x0 : AV} {P : PO} {a : Nat} {fs : List AV} (h : At y pc (.invokevirtual idx) 3 pc') (hl : Cond.methodLink y.1.cls idx yX4_timeToRestore ∈ GW) (ok : Ok G kX4_timeToRestore d2 [.inr (some a), x0] sz m mc ms P) (hm : m a = obj 4 fs) (h8 : st.length ≤ 8) (hr : (d2 + 1 ≤ R.frames ∧ 8 + (6 + 11) + 40 * d2 ≤ R.locals) ∧ k + mc ≤ R.cells ∧ n + ms ≤ R.slots) (kk : ∀ (r : Option AV) (sz' : Nat) (m' : Mem), P r sz' m' → V G y R Qf pc' L (r.toList ++ st) sz' m' (k + mc) (n + ms)) : V G y R Qf pc L (x0 :: .inr (some a) :: st) sz m k n := V.callV (args2 := [x0]) h hl ca_X4_timeToRestore gm_X4_timeToRestore ge_X4_timeToRestore rfl rfl ok hm rfl h8 hr kk
theorem ca_X1_next : callee kX1_next 0 := ⟨gc_X1_next, gi_RX1, ⟨by decide, by decide⟩, by decide +kernel⟩
theorem call_X1_next {G : GX} {y : MK} {R : Room} {Qf : QF} {pc pc' : Nat} {L : List (Option AV)} {st : List AV} {sz : Nat} {m : Mem} {k n d2 mc ms idx : Nat} {P : PO} {a : Nat} {fs : List AV} (h : At y pc (.invokevirtual idx) 3 pc') (hl : Cond.methodLink y.1.cls idx yX1_next ∈ GW) (ok : Ok G kX1_next d2 [.inr (some a)] sz m mc ms P) (hm : m a = obj 1 fs) (h8 : st.length ≤ 8) (hr : (d2 + 1 ≤ R.frames ∧ 8 + (1 + 11) + 40 * d2 ≤ R.locals) ∧ k + mc ≤ R.cells ∧ n + ms ≤ R.slots) (kk : ∀ (r : Option AV) (sz' : Nat) (m' : Mem), P r sz' m' → V G y R Qf pc' L (r.toList ++ st) sz' m' (k + mc) (n + ms)) : V G y R Qf pc L (.inr (some a) :: st) sz m k n := V.callV (args2 := []) h hl ca_X1_next gm_X1_next ge_X1_next rfl rfl ok hm rfl h8 hr kk
theorem ca_X4_firstNeeded : callee kX4_firstNeeded 2 := ⟨gc_X4_firstNeeded, gi_RX4, ⟨by decide, by decide⟩, by decide +kernel⟩
theorem call_X4_firstNeeded {G : GX} {y : MK} {R : Room} {Qf : QF} {pc pc' : Nat} {L : List (Option AV)} {st : List AV} {sz : Nat} {m : Mem} {k n d2 mc ms idx : Nat} {x0 x1 : AV} {P : PO} {a : Nat} {fs : List AV} (h : At y pc (.invokevirtual idx) 3 pc') (hl : Cond.methodLink y.1.cls idx yX4_firstNeeded ∈ GW) (ok : Ok G kX4_firstNeeded d2 [.inr (some a), x0, x1] sz m mc ms P) (hm : m a = obj 4 fs) (h8 : st.length ≤ 8) (hr : (d2 + 1 ≤ R.frames ∧ 8 + (7 + 11) + 40 * d2 ≤ R.locals) ∧ k + mc ≤ R.cells ∧ n + ms ≤ R.slots) (kk : ∀ (r : Option AV) (sz' : Nat) (m' : Mem), P r sz' m' → V G y R Qf pc' L (r.toList ++ st) sz' m' (k + mc) (n + ms)) : V G y R Qf pc L (x1 :: x0 :: .inr (some a) :: st) sz m k n := V.callV (args2 := [x0, x1]) h hl ca_X4_firstNeeded gm_X4_firstNeeded ge_X4_firstNeeded rfl rfl ok hm rfl h8 hr kk
theorem ca_X1_at : callee kX1_at 1 := ⟨gc_X1_at, gi_RX1, ⟨by decide, by decide⟩, by decide +kernel⟩
theorem call_X1_at {G : GX} {y : MK} {R : Room} {Qf : QF} {pc pc' : Nat} {L : List (Option AV)} {st : List AV} {sz : Nat} {m : Mem} {k n d2 mc ms idx : Nat} {x0 : AV} {P : PO} {a : Nat} {fs : List AV} (h : At y pc (.invokevirtual idx) 3 pc') (hl : Cond.methodLink y.1.cls idx yX1_at ∈ GW) (ok : Ok G kX1_at d2 [.inr (some a), x0] sz m mc ms P) (hm : m a = obj 1 fs) (h8 : st.length ≤ 8) (hr : (d2 + 1 ≤ R.frames ∧ 8 + (3 + 11) + 40 * d2 ≤ R.locals) ∧ k + mc ≤ R.cells ∧ n + ms ≤ R.slots) (kk : ∀ (r : Option AV) (sz' : Nat) (m' : Mem), P r sz' m' → V G y R Qf pc' L (r.toList ++ st) sz' m' (k + mc) (n + ms)) : V G y R Qf pc L (x0 :: .inr (some a) :: st) sz m k n := V.callV (args2 := [x0]) h hl ca_X1_at gm_X1_at ge_X1_at rfl rfl ok hm rfl h8 hr kk
theorem ca_X1_timesOf : callee kX1_timesOf 3 := ⟨gc_X1_timesOf, gi_RX1, ⟨by decide, by decide⟩, by decide +kernel⟩
theorem call_X1_timesOf {G : GX} {y : MK} {R : Room} {Qf : QF} {pc pc' : Nat} {L : List (Option AV)} {st : List AV} {sz : Nat} {m : Mem} {k n d2 mc ms idx : Nat} {x0 x1 x2 : AV} {P : PO} {a : Nat} {fs : List AV} (h : At y pc (.invokevirtual idx) 3 pc') (hl : Cond.methodLink y.1.cls idx yX1_timesOf ∈ GW) (ok : Ok G kX1_timesOf d2 [.inr (some a), x0, x1, x2] sz m mc ms P) (hm : m a = obj 1 fs) (h8 : st.length ≤ 8) (hr : (d2 + 1 ≤ R.frames ∧ 8 + (7 + 11) + 40 * d2 ≤ R.locals) ∧ k + mc ≤ R.cells ∧ n + ms ≤ R.slots) (kk : ∀ (r : Option AV) (sz' : Nat) (m' : Mem), P r sz' m' → V G y R Qf pc' L (r.toList ++ st) sz' m' (k + mc) (n + ms)) : V G y R Qf pc L (x2 :: x1 :: x0 :: .inr (some a) :: st) sz m k n := V.callV (args2 := [x0, x1, x2]) h hl ca_X1_timesOf gm_X1_timesOf ge_X1_timesOf rfl rfl ok hm rfl h8 hr kk
theorem ca_X0_time : callee kX0_time 0 := ⟨gc_X0_time, gi_RX0, ⟨by decide, by decide⟩, by decide +kernel⟩
theorem call_X0_time {G : GX} {y : MK} {R : Room} {Qf : QF} {pc pc' : Nat} {L : List (Option AV)} {st : List AV} {sz : Nat} {m : Mem} {k n d2 mc ms idx : Nat} {P : PO} {a : Nat} {fs : List AV} (h : At y pc (.invokevirtual idx) 3 pc') (hl : Cond.methodLink y.1.cls idx yX0_time ∈ GW) (ok : Ok G kX0_time d2 [.inr (some a)] sz m mc ms P) (hm : m a = obj 0 fs) (h8 : st.length ≤ 8) (hr : (d2 + 1 ≤ R.frames ∧ 8 + (1 + 11) + 40 * d2 ≤ R.locals) ∧ k + mc ≤ R.cells ∧ n + ms ≤ R.slots) (kk : ∀ (r : Option AV) (sz' : Nat) (m' : Mem), P r sz' m' → V G y R Qf pc' L (r.toList ++ st) sz' m' (k + mc) (n + ms)) : V G y R Qf pc L (.inr (some a) :: st) sz m k n := V.callV (args2 := []) h hl ca_X0_time gm_X0_time ge_X0_time rfl rfl ok hm rfl h8 hr kk
theorem ca_X0_ofPicture : callee kX0_ofPicture 2 := ⟨gc_X0_ofPicture, gi_RX0, ⟨by decide, by decide⟩, by decide +kernel⟩
theorem call_X0_ofPicture {G : GX} {y : MK} {R : Room} {Qf : QF} {pc pc' : Nat} {L : List (Option AV)} {st : List AV} {sz : Nat} {m : Mem} {k n d2 mc ms idx : Nat} {x0 x1 : AV} {P : PO} (h : At y pc (.invokestatic idx) 3 pc') (hl : Cond.methodLink y.1.cls idx yX0_ofPicture ∈ GW) (ok : Ok G kX0_ofPicture d2 [x0, x1] sz m mc ms P) (h8 : st.length ≤ 8) (hr : (d2 + 1 ≤ R.frames ∧ 8 + (2 + 11) + 40 * d2 ≤ R.locals) ∧ k + mc ≤ R.cells ∧ n + ms ≤ R.slots) (kk : ∀ (r : Option AV) (sz' : Nat) (m' : Mem), P r sz' m' → V G y R Qf pc' L (r.toList ++ st) sz' m' (k + mc) (n + ms)) : V G y R Qf pc L (x1 :: x0 :: st) sz m k n := V.callS (args2 := [x0, x1]) h hl ca_X0_ofPicture gs_X0_ofPicture rfl ok rfl h8 hr kk
theorem ca_X4_append : callee kX4_append 1 := ⟨gc_X4_append, gi_RX4, ⟨by decide, by decide⟩, by decide +kernel⟩
theorem call_X4_append {G : GX} {y : MK} {R : Room} {Qf : QF} {pc pc' : Nat} {L : List (Option AV)} {st : List AV} {sz : Nat} {m : Mem} {k n d2 mc ms idx : Nat} {x0 : AV} {P : PO} {a : Nat} {fs : List AV} (h : At y pc (.invokevirtual idx) 3 pc') (hl : Cond.methodLink y.1.cls idx yX4_append ∈ GW) (ok : Ok G kX4_append d2 [.inr (some a), x0] sz m mc ms P) (hm : m a = obj 4 fs) (h8 : st.length ≤ 8) (hr : (d2 + 1 ≤ R.frames ∧ 8 + (2 + 11) + 40 * d2 ≤ R.locals) ∧ k + mc ≤ R.cells ∧ n + ms ≤ R.slots) (kk : ∀ (r : Option AV) (sz' : Nat) (m' : Mem), P r sz' m' → V G y R Qf pc' L (r.toList ++ st) sz' m' (k + mc) (n + ms)) : V G y R Qf pc L (x0 :: .inr (some a) :: st) sz m k n := V.callV (args2 := [x0]) h hl ca_X4_append gm_X4_append ge_X4_append rfl rfl ok hm rfl h8 hr kk
theorem ca_X4_dropDownTo : callee kX4_dropDownTo 1 := ⟨gc_X4_dropDownTo, gi_RX4, ⟨by decide, by decide⟩, by decide +kernel⟩
theorem call_X4_dropDownTo {G : GX} {y : MK} {R : Room} {Qf : QF} {pc pc' : Nat} {L : List (Option AV)} {st : List AV} {sz : Nat} {m : Mem} {k n d2 mc ms idx : Nat} {x0 : AV} {P : PO} {a : Nat} {fs : List AV} (h : At y pc (.invokevirtual idx) 3 pc') (hl : Cond.methodLink y.1.cls idx yX4_dropDownTo ∈ GW) (ok : Ok G kX4_dropDownTo d2 [.inr (some a), x0] sz m mc ms P) (hm : m a = obj 4 fs) (h8 : st.length ≤ 8) (hr : (d2 + 1 ≤ R.frames ∧ 8 + (3 + 11) + 40 * d2 ≤ R.locals) ∧ k + mc ≤ R.cells ∧ n + ms ≤ R.slots) (kk : ∀ (r : Option AV) (sz' : Nat) (m' : Mem), P r sz' m' → V G y R Qf pc' L (r.toList ++ st) sz' m' (k + mc) (n + ms)) : V G y R Qf pc L (x0 :: .inr (some a) :: st) sz m k n := V.callV (args2 := [x0]) h hl ca_X4_dropDownTo gm_X4_dropDownTo ge_X4_dropDownTo rfl rfl ok hm rfl h8 hr kk
theorem ca_X1_sizes : callee kX1_sizes 0 := ⟨gc_X1_sizes, gi_RX1, ⟨by decide, by decide⟩, by decide +kernel⟩
theorem call_X1_sizes {G : GX} {y : MK} {R : Room} {Qf : QF} {pc pc' : Nat} {L : List (Option AV)} {st : List AV} {sz : Nat} {m : Mem} {k n d2 mc ms idx : Nat} {P : PO} {a : Nat} {fs : List AV} (h : At y pc (.invokevirtual idx) 3 pc') (hl : Cond.methodLink y.1.cls idx yX1_sizes ∈ GW) (ok : Ok G kX1_sizes d2 [.inr (some a)] sz m mc ms P) (hm : m a = obj 1 fs) (h8 : st.length ≤ 8) (hr : (d2 + 1 ≤ R.frames ∧ 8 + (4 + 11) + 40 * d2 ≤ R.locals) ∧ k + mc ≤ R.cells ∧ n + ms ≤ R.slots) (kk : ∀ (r : Option AV) (sz' : Nat) (m' : Mem), P r sz' m' → V G y R Qf pc' L (r.toList ++ st) sz' m' (k + mc) (n + ms)) : V G y R Qf pc L (.inr (some a) :: st) sz m k n := V.callV (args2 := []) h hl ca_X1_sizes gm_X1_sizes ge_X1_sizes rfl rfl ok hm rfl h8 hr kk
theorem ca_X4_isNeeded : callee kX4_isNeeded 1 := ⟨gc_X4_isNeeded, gi_RX4, ⟨by decide, by decide⟩, by decide +kernel⟩
theorem call_X4_isNeeded {G : GX} {y : MK} {R : Room} {Qf : QF} {pc pc' : Nat} {L : List (Option AV)} {st : List AV} {sz : Nat} {m : Mem} {k n d2 mc ms idx : Nat} {x0 : AV} {P : PO} {a : Nat} {fs : List AV} (h : At y pc (.invokevirtual idx) 3 pc') (hl : Cond.methodLink y.1.cls idx yX4_isNeeded ∈ GW) (ok : Ok G kX4_isNeeded d2 [.inr (some a), x0] sz m mc ms P) (hm : m a = obj 4 fs) (h8 : st.length ≤ 8) (hr : (d2 + 1 ≤ R.frames ∧ 8 + (3 + 11) + 40 * d2 ≤ R.locals) ∧ k + mc ≤ R.cells ∧ n + ms ≤ R.slots) (kk : ∀ (r : Option AV) (sz' : Nat) (m' : Mem), P r sz' m' → V G y R Qf pc' L (r.toList ++ st) sz' m' (k + mc) (n + ms)) : V G y R Qf pc L (x0 :: .inr (some a) :: st) sz m k n := V.callV (args2 := [x0]) h hl ca_X4_isNeeded gm_X4_isNeeded ge_X4_isNeeded rfl rfl ok hm rfl h8 hr kk
theorem ca_X4_dropOldest : callee kX4_dropOldest 0 := ⟨gc_X4_dropOldest, gi_RX4, ⟨by decide, by decide⟩, by decide +kernel⟩
theorem call_X4_dropOldest {G : GX} {y : MK} {R : Room} {Qf : QF} {pc pc' : Nat} {L : List (Option AV)} {st : List AV} {sz : Nat} {m : Mem} {k n d2 mc ms idx : Nat} {P : PO} {a : Nat} {fs : List AV} (h : At y pc (.invokevirtual idx) 3 pc') (hl : Cond.methodLink y.1.cls idx yX4_dropOldest ∈ GW) (ok : Ok G kX4_dropOldest d2 [.inr (some a)] sz m mc ms P) (hm : m a = obj 4 fs) (h8 : st.length ≤ 8) (hr : (d2 + 1 ≤ R.frames ∧ 8 + (2 + 11) + 40 * d2 ≤ R.locals) ∧ k + mc ≤ R.cells ∧ n + ms ≤ R.slots) (kk : ∀ (r : Option AV) (sz' : Nat) (m' : Mem), P r sz' m' → V G y R Qf pc' L (r.toList ++ st) sz' m' (k + mc) (n + ms)) : V G y R Qf pc L (.inr (some a) :: st) sz m k n := V.callV (args2 := []) h hl ca_X4_dropOldest gm_X4_dropOldest ge_X4_dropOldest rfl rfl ok hm rfl h8 hr kk
theorem ca_X1_dropFirst : callee kX1_dropFirst 0 := ⟨gc_X1_dropFirst, gi_RX1, ⟨by decide, by decide⟩, by decide +kernel⟩
theorem call_X1_dropFirst {G : GX} {y : MK} {R : Room} {Qf : QF} {pc pc' : Nat} {L : List (Option AV)} {st : List AV} {sz : Nat} {m : Mem} {k n d2 mc ms idx : Nat} {P : PO} {a : Nat} {fs : List AV} (h : At y pc (.invokevirtual idx) 3 pc') (hl : Cond.methodLink y.1.cls idx yX1_dropFirst ∈ GW) (ok : Ok G kX1_dropFirst d2 [.inr (some a)] sz m mc ms P) (hm : m a = obj 1 fs) (h8 : st.length ≤ 8) (hr : (d2 + 1 ≤ R.frames ∧ 8 + (2 + 11) + 40 * d2 ≤ R.locals) ∧ k + mc ≤ R.cells ∧ n + ms ≤ R.slots) (kk : ∀ (r : Option AV) (sz' : Nat) (m' : Mem), P r sz' m' → V G y R Qf pc' L (r.toList ++ st) sz' m' (k + mc) (n + ms)) : V G y R Qf pc L (.inr (some a) :: st) sz m k n := V.callV (args2 := []) h hl ca_X1_dropFirst gm_X1_dropFirst ge_X1_dropFirst rfl rfl ok hm rfl h8 hr kk
theorem ca_X1_append : callee kX1_append 1 := ⟨gc_X1_append, gi_RX1, ⟨by decide, by decide⟩, by decide +kernel⟩
theorem call_X1_append {G : GX} {y : MK} {R : Room} {Qf : QF} {pc pc' : Nat} {L : List (Option AV)} {st : List AV} {sz : Nat} {m : Mem} {k n d2 mc ms idx : Nat} {x0 : AV} {P : PO} {a : Nat} {fs : List AV} (h : At y pc (.invokevirtual idx) 3 pc') (hl : Cond.methodLink y.1.cls idx yX1_append ∈ GW) (ok : Ok G kX1_append d2 [.inr (some a), x0] sz m mc ms P) (hm : m a = obj 1 fs) (h8 : st.length ≤ 8) (hr : (d2 + 1 ≤ R.frames ∧ 8 + (2 + 11) + 40 * d2 ≤ R.locals) ∧ k + mc ≤ R.cells ∧ n + ms ≤ R.slots) (kk : ∀ (r : Option AV) (sz' : Nat) (m' : Mem), P r sz' m' → V G y R Qf pc' L (r.toList ++ st) sz' m' (k + mc) (n + ms)) : V G y R Qf pc L (x0 :: .inr (some a) :: st) sz m k n := V.callV (args2 := [x0]) h hl ca_X1_append gm_X1_append ge_X1_append rfl rfl ok hm rfl h8 hr kk
theorem ca_X5_end : callee kX5_end 1 := ⟨gc_X5_end, gi_RX5, ⟨by decide, by decide⟩, by decide +kernel⟩
theorem call_X5_end {G : GX} {y : MK} {R : Room} {Qf : QF} {pc pc' : Nat} {L : List (Option AV)} {st : List AV} {sz : Nat} {m : Mem} {k n d2 mc ms idx : Nat} {x0 : AV} {P : PO} {a : Nat} {fs : List AV} (h : At y pc (.invokevirtual idx) 3 pc') (hl : Cond.methodLink y.1.cls idx yX5_end ∈ GW) (ok : Ok G kX5_end d2 [.inr (some a), x0] sz m mc ms P) (hm : m a = obj 5 fs) (h8 : st.length ≤ 8) (hr : (d2 + 1 ≤ R.frames ∧ 8 + (2 + 11) + 40 * d2 ≤ R.locals) ∧ k + mc ≤ R.cells ∧ n + ms ≤ R.slots) (kk : ∀ (r : Option AV) (sz' : Nat) (m' : Mem), P r sz' m' → V G y R Qf pc' L (r.toList ++ st) sz' m' (k + mc) (n + ms)) : V G y R Qf pc L (x0 :: .inr (some a) :: st) sz m k n := V.callV (args2 := [x0]) h hl ca_X5_end gm_X5_end ge_X5_end rfl rfl ok hm rfl h8 hr kk
theorem ca_X5_forgetOldest : callee kX5_forgetOldest 0 := ⟨gc_X5_forgetOldest, gi_RX5, ⟨by decide, by decide⟩, by decide +kernel⟩
theorem call_X5_forgetOldest {G : GX} {y : MK} {R : Room} {Qf : QF} {pc pc' : Nat} {L : List (Option AV)} {st : List AV} {sz : Nat} {m : Mem} {k n d2 mc ms idx : Nat} {P : PO} {a : Nat} {fs : List AV} (h : At y pc (.invokevirtual idx) 3 pc') (hl : Cond.methodLink y.1.cls idx yX5_forgetOldest ∈ GW) (ok : Ok G kX5_forgetOldest d2 [.inr (some a)] sz m mc ms P) (hm : m a = obj 5 fs) (h8 : st.length ≤ 8) (hr : (d2 + 1 ≤ R.frames ∧ 8 + (3 + 11) + 40 * d2 ≤ R.locals) ∧ k + mc ≤ R.cells ∧ n + ms ≤ R.slots) (kk : ∀ (r : Option AV) (sz' : Nat) (m' : Mem), P r sz' m' → V G y R Qf pc' L (r.toList ++ st) sz' m' (k + mc) (n + ms)) : V G y R Qf pc L (.inr (some a) :: st) sz m k n := V.callV (args2 := []) h hl ca_X5_forgetOldest gm_X5_forgetOldest ge_X5_forgetOldest rfl rfl ok hm rfl h8 hr kk
theorem ca_X5_add : callee kX5_add 4 := ⟨gc_X5_add, gi_RX5, ⟨by decide, by decide⟩, by decide +kernel⟩
theorem call_X5_add {G : GX} {y : MK} {R : Room} {Qf : QF} {pc pc' : Nat} {L : List (Option AV)} {st : List AV} {sz : Nat} {m : Mem} {k n d2 mc ms idx : Nat} {x0 x1 x2 x3 : AV} {P : PO} {a : Nat} {fs : List AV} (h : At y pc (.invokevirtual idx) 3 pc') (hl : Cond.methodLink y.1.cls idx yX5_add ∈ GW) (ok : Ok G kX5_add d2 [.inr (some a), x0, x1, x2, x3] sz m mc ms P) (hm : m a = obj 5 fs) (h8 : st.length ≤ 8) (hr : (d2 + 1 ≤ R.frames ∧ 8 + (5 + 11) + 40 * d2 ≤ R.locals) ∧ k + mc ≤ R.cells ∧ n + ms ≤ R.slots) (kk : ∀ (r : Option AV) (sz' : Nat) (m' : Mem), P r sz' m' → V G y R Qf pc' L (r.toList ++ st) sz' m' (k + mc) (n + ms)) : V G y R Qf pc L (x3 :: x2 :: x1 :: x0 :: .inr (some a) :: st) sz m k n := V.callV (args2 := [x0, x1, x2, x3]) h hl ca_X5_add gm_X5_add ge_X5_add rfl rfl ok hm rfl h8 hr kk
theorem ca_X5_turn : callee kX5_turn 2 := ⟨gc_X5_turn, gi_RX5, ⟨by decide, by decide⟩, by decide +kernel⟩
theorem call_X5_turn {G : GX} {y : MK} {R : Room} {Qf : QF} {pc pc' : Nat} {L : List (Option AV)} {st : List AV} {sz : Nat} {m : Mem} {k n d2 mc ms idx : Nat} {x0 x1 : AV} {P : PO} {a : Nat} {fs : List AV} (h : At y pc (.invokevirtual idx) 3 pc') (hl : Cond.methodLink y.1.cls idx yX5_turn ∈ GW) (ok : Ok G kX5_turn d2 [.inr (some a), x0, x1] sz m mc ms P) (hm : m a = obj 5 fs) (h8 : st.length ≤ 8) (hr : (d2 + 1 ≤ R.frames ∧ 8 + (3 + 11) + 40 * d2 ≤ R.locals) ∧ k + mc ≤ R.cells ∧ n + ms ≤ R.slots) (kk : ∀ (r : Option AV) (sz' : Nat) (m' : Mem), P r sz' m' → V G y R Qf pc' L (r.toList ++ st) sz' m' (k + mc) (n + ms)) : V G y R Qf pc L (x1 :: x0 :: .inr (some a) :: st) sz m k n := V.callV (args2 := [x0, x1]) h hl ca_X5_turn gm_X5_turn ge_X5_turn rfl rfl ok hm rfl h8 hr kk
theorem ca_X0_ofTurn : callee kX0_ofTurn 2 := ⟨gc_X0_ofTurn, gi_RX0, ⟨by decide, by decide⟩, by decide +kernel⟩
theorem call_X0_ofTurn {G : GX} {y : MK} {R : Room} {Qf : QF} {pc pc' : Nat} {L : List (Option AV)} {st : List AV} {sz : Nat} {m : Mem} {k n d2 mc ms idx : Nat} {x0 x1 : AV} {P : PO} (h : At y pc (.invokestatic idx) 3 pc') (hl : Cond.methodLink y.1.cls idx yX0_ofTurn ∈ GW) (ok : Ok G kX0_ofTurn d2 [x0, x1] sz m mc ms P) (h8 : st.length ≤ 8) (hr : (d2 + 1 ≤ R.frames ∧ 8 + (2 + 11) + 40 * d2 ≤ R.locals) ∧ k + mc ≤ R.cells ∧ n + ms ≤ R.slots) (kk : ∀ (r : Option AV) (sz' : Nat) (m' : Mem), P r sz' m' → V G y R Qf pc' L (r.toList ++ st) sz' m' (k + mc) (n + ms)) : V G y R Qf pc L (x1 :: x0 :: st) sz m k n := V.callS (args2 := [x0, x1]) h hl ca_X0_ofTurn gs_X0_ofTurn rfl ok rfl h8 hr kk
theorem ca_X5_renew : callee kX5_renew 1 := ⟨gc_X5_renew, gi_RX5, ⟨by decide, by decide⟩, by decide +kernel⟩
theorem call_X5_renew {G : GX} {y : MK} {R : Room} {Qf : QF} {pc pc' : Nat} {L : List (Option AV)} {st : List AV} {sz : Nat} {m : Mem} {k n d2 mc ms idx : Nat} {x0 : AV} {P : PO} {a : Nat} {fs : List AV} (h : At y pc (.invokevirtual idx) 3 pc') (hl : Cond.methodLink y.1.cls idx yX5_renew ∈ GW) (ok : Ok G kX5_renew d2 [.inr (some a), x0] sz m mc ms P) (hm : m a = obj 5 fs) (h8 : st.length ≤ 8) (hr : (d2 + 1 ≤ R.frames ∧ 8 + (3 + 11) + 40 * d2 ≤ R.locals) ∧ k + mc ≤ R.cells ∧ n + ms ≤ R.slots) (kk : ∀ (r : Option AV) (sz' : Nat) (m' : Mem), P r sz' m' → V G y R Qf pc' L (r.toList ++ st) sz' m' (k + mc) (n + ms)) : V G y R Qf pc L (x0 :: .inr (some a) :: st) sz m k n := V.callV (args2 := [x0]) h hl ca_X5_renew gm_X5_renew ge_X5_renew rfl rfl ok hm rfl h8 hr kk
theorem ca_X0_ofRenewal : callee kX0_ofRenewal 1 := ⟨gc_X0_ofRenewal, gi_RX0, ⟨by decide, by decide⟩, by decide +kernel⟩
theorem call_X0_ofRenewal {G : GX} {y : MK} {R : Room} {Qf : QF} {pc pc' : Nat} {L : List (Option AV)} {st : List AV} {sz : Nat} {m : Mem} {k n d2 mc ms idx : Nat} {x0 : AV} {P : PO} (h : At y pc (.invokestatic idx) 3 pc') (hl : Cond.methodLink y.1.cls idx yX0_ofRenewal ∈ GW) (ok : Ok G kX0_ofRenewal d2 [x0] sz m mc ms P) (h8 : st.length ≤ 8) (hr : (d2 + 1 ≤ R.frames ∧ 8 + (1 + 11) + 40 * d2 ≤ R.locals) ∧ k + mc ≤ R.cells ∧ n + ms ≤ R.slots) (kk : ∀ (r : Option AV) (sz' : Nat) (m' : Mem), P r sz' m' → V G y R Qf pc' L (r.toList ++ st) sz' m' (k + mc) (n + ms)) : V G y R Qf pc L (x0 :: st) sz m k n := V.callS (args2 := [x0]) h hl ca_X0_ofRenewal gs_X0_ofRenewal rfl ok rfl h8 hr kk
theorem ca_X5_readOrders : callee kX5_readOrders 0 := ⟨gc_X5_readOrders, gi_RX5, ⟨by decide, by decide⟩, by decide +kernel⟩
theorem call_X5_readOrders {G : GX} {y : MK} {R : Room} {Qf : QF} {pc pc' : Nat} {L : List (Option AV)} {st : List AV} {sz : Nat} {m : Mem} {k n d2 mc ms idx : Nat} {P : PO} {a : Nat} {fs : List AV} (h : At y pc (.invokevirtual idx) 3 pc') (hl : Cond.methodLink y.1.cls idx yX5_readOrders ∈ GW) (ok : Ok G kX5_readOrders d2 [.inr (some a)] sz m mc ms P) (hm : m a = obj 5 fs) (h8 : st.length ≤ 8) (hr : (d2 + 1 ≤ R.frames ∧ 8 + (5 + 11) + 40 * d2 ≤ R.locals) ∧ k + mc ≤ R.cells ∧ n + ms ≤ R.slots) (kk : ∀ (r : Option AV) (sz' : Nat) (m' : Mem), P r sz' m' → V G y R Qf pc' L (r.toList ++ st) sz' m' (k + mc) (n + ms)) : V G y R Qf pc L (.inr (some a) :: st) sz m k n := V.callV (args2 := []) h hl ca_X5_readOrders gm_X5_readOrders ge_X5_readOrders rfl rfl ok hm rfl h8 hr kk
theorem ca_X3_init : callee kX3_init 2 := ⟨gc_X3_init, gi_RX3, ⟨by decide, by decide⟩, by decide +kernel⟩
theorem call_X3_init {G : GX} {y : MK} {R : Room} {Qf : QF} {pc pc' : Nat} {L : List (Option AV)} {st : List AV} {sz : Nat} {m : Mem} {k n d2 mc ms idx : Nat} {x0 x1 : AV} {P : PO} {a : Nat} (h : At y pc (.invokespecial idx) 3 pc') (hl : Cond.methodLink y.1.cls idx yX3_init ∈ GW) (ok : Ok G kX3_init d2 [.inr (some a), x0, x1] sz m mc ms P) (h8 : st.length ≤ 8) (hr : (d2 + 1 ≤ R.frames ∧ 8 + (3 + 11) + 40 * d2 ≤ R.locals) ∧ k + mc ≤ R.cells ∧ n + ms ≤ R.slots) (kk : ∀ (r : Option AV) (sz' : Nat) (m' : Mem), P r sz' m' → V G y R Qf pc' L (r.toList ++ st) sz' m' (k + mc) (n + ms)) : V G y R Qf pc L (x1 :: x0 :: .inr (some a) :: st) sz m k n := V.callI (args2 := [x0, x1]) h hl ca_X3_init gm_X3_init rfl rfl rfl ok rfl h8 hr kk
theorem ca_X3_readAll : callee kX3_readAll 0 := ⟨gc_X3_readAll, gi_RX3, ⟨by decide, by decide⟩, by decide +kernel⟩
theorem call_X3_readAll {G : GX} {y : MK} {R : Room} {Qf : QF} {pc pc' : Nat} {L : List (Option AV)} {st : List AV} {sz : Nat} {m : Mem} {k n d2 mc ms idx : Nat} {P : PO} {a : Nat} {fs : List AV} (h : At y pc (.invokevirtual idx) 3 pc') (hl : Cond.methodLink y.1.cls idx yX3_readAll ∈ GW) (ok : Ok G kX3_readAll d2 [.inr (some a)] sz m mc ms P) (hm : m a = obj 3 fs) (h8 : st.length ≤ 8) (hr : (d2 + 1 ≤ R.frames ∧ 8 + (2 + 11) + 40 * d2 ≤ R.locals) ∧ k + mc ≤ R.cells ∧ n + ms ≤ R.slots) (kk : ∀ (r : Option AV) (sz' : Nat) (m' : Mem), P r sz' m' → V G y R Qf pc' L (r.toList ++ st) sz' m' (k + mc) (n + ms)) : V G y R Qf pc L (.inr (some a) :: st) sz m k n := V.callV (args2 := []) h hl ca_X3_readAll gm_X3_readAll ge_X3_readAll rfl rfl ok hm rfl h8 hr kk
theorem ca_X3_readOrder : callee kX3_readOrder 0 := ⟨gc_X3_readOrder, gi_RX3, ⟨by decide, by decide⟩, by decide +kernel⟩
theorem call_X3_readOrder {G : GX} {y : MK} {R : Room} {Qf : QF} {pc pc' : Nat} {L : List (Option AV)} {st : List AV} {sz : Nat} {m : Mem} {k n d2 mc ms idx : Nat} {P : PO} {a : Nat} {fs : List AV} (h : At y pc (.invokevirtual idx) 3 pc') (hl : Cond.methodLink y.1.cls idx yX3_readOrder ∈ GW) (ok : Ok G kX3_readOrder d2 [.inr (some a)] sz m mc ms P) (hm : m a = obj 3 fs) (h8 : st.length ≤ 8) (hr : (d2 + 1 ≤ R.frames ∧ 8 + (3 + 11) + 40 * d2 ≤ R.locals) ∧ k + mc ≤ R.cells ∧ n + ms ≤ R.slots) (kk : ∀ (r : Option AV) (sz' : Nat) (m' : Mem), P r sz' m' → V G y R Qf pc' L (r.toList ++ st) sz' m' (k + mc) (n + ms)) : V G y R Qf pc L (.inr (some a) :: st) sz m k n := V.callV (args2 := []) h hl ca_X3_readOrder gm_X3_readOrder ge_X3_readOrder rfl rfl ok hm rfl h8 hr kk
theorem ca_X3_readDigit : callee kX3_readDigit 2 := ⟨gc_X3_readDigit, gi_RX3, ⟨by decide, by decide⟩, by decide +kernel⟩
theorem call_X3_readDigit {G : GX} {y : MK} {R : Room} {Qf : QF} {pc pc' : Nat} {L : List (Option AV)} {st : List AV} {sz : Nat} {m : Mem} {k n d2 mc ms idx : Nat} {x0 x1 : AV} {P : PO} {a : Nat} {fs : List AV} (h : At y pc (.invokevirtual idx) 3 pc') (hl : Cond.methodLink y.1.cls idx yX3_readDigit ∈ GW) (ok : Ok G kX3_readDigit d2 [.inr (some a), x0, x1] sz m mc ms P) (hm : m a = obj 3 fs) (h8 : st.length ≤ 8) (hr : (d2 + 1 ≤ R.frames ∧ 8 + (4 + 11) + 40 * d2 ≤ R.locals) ∧ k + mc ≤ R.cells ∧ n + ms ≤ R.slots) (kk : ∀ (r : Option AV) (sz' : Nat) (m' : Mem), P r sz' m' → V G y R Qf pc' L (r.toList ++ st) sz' m' (k + mc) (n + ms)) : V G y R Qf pc L (x1 :: x0 :: .inr (some a) :: st) sz m k n := V.callV (args2 := [x0, x1]) h hl ca_X3_readDigit gm_X3_readDigit ge_X3_readDigit rfl rfl ok hm rfl h8 hr kk
theorem ca_X3_hasDigit : callee kX3_hasDigit 2 := ⟨gc_X3_hasDigit, gi_RX3, ⟨by decide, by decide⟩, by decide +kernel⟩
theorem call_X3_hasDigit {G : GX} {y : MK} {R : Room} {Qf : QF} {pc pc' : Nat} {L : List (Option AV)} {st : List AV} {sz : Nat} {m : Mem} {k n d2 mc ms idx : Nat} {x0 x1 : AV} {P : PO} {a : Nat} {fs : List AV} (h : At y pc (.invokevirtual idx) 3 pc') (hl : Cond.methodLink y.1.cls idx yX3_hasDigit ∈ GW) (ok : Ok G kX3_hasDigit d2 [.inr (some a), x0, x1] sz m mc ms P) (hm : m a = obj 3 fs) (h8 : st.length ≤ 8) (hr : (d2 + 1 ≤ R.frames ∧ 8 + (4 + 11) + 40 * d2 ≤ R.locals) ∧ k + mc ≤ R.cells ∧ n + ms ≤ R.slots) (kk : ∀ (r : Option AV) (sz' : Nat) (m' : Mem), P r sz' m' → V G y R Qf pc' L (r.toList ++ st) sz' m' (k + mc) (n + ms)) : V G y R Qf pc L (x1 :: x0 :: .inr (some a) :: st) sz m k n := V.callV (args2 := [x0, x1]) h hl ca_X3_hasDigit gm_X3_hasDigit ge_X3_hasDigit rfl rfl ok hm rfl h8 hr kk
theorem ca_X3_readSign : callee kX3_readSign 1 := ⟨gc_X3_readSign, gi_RX3, ⟨by decide, by decide⟩, by decide +kernel⟩
theorem call_X3_readSign {G : GX} {y : MK} {R : Room} {Qf : QF} {pc pc' : Nat} {L : List (Option AV)} {st : List AV} {sz : Nat} {m : Mem} {k n d2 mc ms idx : Nat} {x0 : AV} {P : PO} {a : Nat} {fs : List AV} (h : At y pc (.invokevirtual idx) 3 pc') (hl : Cond.methodLink y.1.cls idx yX3_readSign ∈ GW) (ok : Ok G kX3_readSign d2 [.inr (some a), x0] sz m mc ms P) (hm : m a = obj 3 fs) (h8 : st.length ≤ 8) (hr : (d2 + 1 ≤ R.frames ∧ 8 + (2 + 11) + 40 * d2 ≤ R.locals) ∧ k + mc ≤ R.cells ∧ n + ms ≤ R.slots) (kk : ∀ (r : Option AV) (sz' : Nat) (m' : Mem), P r sz' m' → V G y R Qf pc' L (r.toList ++ st) sz' m' (k + mc) (n + ms)) : V G y R Qf pc L (x0 :: .inr (some a) :: st) sz m k n := V.callV (args2 := [x0]) h hl ca_X3_readSign gm_X3_readSign ge_X3_readSign rfl rfl ok hm rfl h8 hr kk
theorem ca_X3_readCells : callee kX3_readCells 4 := ⟨gc_X3_readCells, gi_RX3, ⟨by decide, by decide⟩, by decide +kernel⟩
theorem call_X3_readCells {G : GX} {y : MK} {R : Room} {Qf : QF} {pc pc' : Nat} {L : List (Option AV)} {st : List AV} {sz : Nat} {m : Mem} {k n d2 mc ms idx : Nat} {x0 x1 x2 x3 : AV} {P : PO} {a : Nat} {fs : List AV} (h : At y pc (.invokevirtual idx) 3 pc') (hl : Cond.methodLink y.1.cls idx yX3_readCells ∈ GW) (ok : Ok G kX3_readCells d2 [.inr (some a), x0, x1, x2, x3] sz m mc ms P) (hm : m a = obj 3 fs) (h8 : st.length ≤ 8) (hr : (d2 + 1 ≤ R.frames ∧ 8 + (8 + 11) + 40 * d2 ≤ R.locals) ∧ k + mc ≤ R.cells ∧ n + ms ≤ R.slots) (kk : ∀ (r : Option AV) (sz' : Nat) (m' : Mem), P r sz' m' → V G y R Qf pc' L (r.toList ++ st) sz' m' (k + mc) (n + ms)) : V G y R Qf pc L (x3 :: x2 :: x1 :: x0 :: .inr (some a) :: st) sz m k n := V.callV (args2 := [x0, x1, x2, x3]) h hl ca_X3_readCells gm_X3_readCells ge_X3_readCells rfl rfl ok hm rfl h8 hr kk
theorem ca_X3_readNumber : callee kX3_readNumber 1 := ⟨gc_X3_readNumber, gi_RX3, ⟨by decide, by decide⟩, by decide +kernel⟩
theorem call_X3_readNumber {G : GX} {y : MK} {R : Room} {Qf : QF} {pc pc' : Nat} {L : List (Option AV)} {st : List AV} {sz : Nat} {m : Mem} {k n d2 mc ms idx : Nat} {x0 : AV} {P : PO} {a : Nat} {fs : List AV} (h : At y pc (.invokevirtual idx) 3 pc') (hl : Cond.methodLink y.1.cls idx yX3_readNumber ∈ GW) (ok : Ok G kX3_readNumber d2 [.inr (some a), x0] sz m mc ms P) (hm : m a = obj 3 fs) (h8 : st.length ≤ 8) (hr : (d2 + 1 ≤ R.frames ∧ 8 + (3 + 11) + 40 * d2 ≤ R.locals) ∧ k + mc ≤ R.cells ∧ n + ms ≤ R.slots) (kk : ∀ (r : Option AV) (sz' : Nat) (m' : Mem), P r sz' m' → V G y R Qf pc' L (r.toList ++ st) sz' m' (k + mc) (n + ms)) : V G y R Qf pc L (x0 :: .inr (some a) :: st) sz m k n := V.callV (args2 := [x0]) h hl ca_X3_readNumber gm_X3_readNumber ge_X3_readNumber rfl rfl ok hm rfl h8 hr kk
theorem ca_X3_readRow : callee kX3_readRow 1 := ⟨gc_X3_readRow, gi_RX3, ⟨by decide, by decide⟩, by decide +kernel⟩
theorem call_X3_readRow {G : GX} {y : MK} {R : Room} {Qf : QF} {pc pc' : Nat} {L : List (Option AV)} {st : List AV} {sz : Nat} {m : Mem} {k n d2 mc ms idx : Nat} {x0 : AV} {P : PO} {a : Nat} {fs : List AV} (h : At y pc (.invokevirtual idx) 3 pc') (hl : Cond.methodLink y.1.cls idx yX3_readRow ∈ GW) (ok : Ok G kX3_readRow d2 [.inr (some a), x0] sz m mc ms P) (hm : m a = obj 3 fs) (h8 : st.length ≤ 8) (hr : (d2 + 1 ≤ R.frames ∧ 8 + (5 + 11) + 40 * d2 ≤ R.locals) ∧ k + mc ≤ R.cells ∧ n + ms ≤ R.slots) (kk : ∀ (r : Option AV) (sz' : Nat) (m' : Mem), P r sz' m' → V G y R Qf pc' L (r.toList ++ st) sz' m' (k + mc) (n + ms)) : V G y R Qf pc L (x0 :: .inr (some a) :: st) sz m k n := V.callV (args2 := [x0]) h hl ca_X3_readRow gm_X3_readRow ge_X3_readRow rfl rfl ok hm rfl h8 hr kk
theorem ca_J7_copyOf_59c91 : callee kJ7_copyOf_59c91 2 := ⟨gc_J7_copyOf_59c91, gi_RJ7, ⟨by decide, by decide⟩, by decide +kernel⟩
theorem call_J7_copyOf_59c91 {G : GX} {y : MK} {R : Room} {Qf : QF} {pc pc' : Nat} {L : List (Option AV)} {st : List AV} {sz : Nat} {m : Mem} {k n d2 mc ms idx : Nat} {x0 x1 : AV} {P : PO} (h : At y pc (.invokestatic idx) 3 pc') (hl : Cond.methodLink y.1.cls idx yJ7_copyOf_59c91 ∈ GW) (ok : Ok G kJ7_copyOf_59c91 d2 [x0, x1] sz m mc ms P) (h8 : st.length ≤ 8) (hr : (d2 + 1 ≤ R.frames ∧ 8 + (3 + 11) + 40 * d2 ≤ R.locals) ∧ k + mc ≤ R.cells ∧ n + ms ≤ R.slots) (kk : ∀ (r : Option AV) (sz' : Nat) (m' : Mem), P r sz' m' → V G y R Qf pc' L (r.toList ++ st) sz' m' (k + mc) (n + ms)) : V G y R Qf pc L (x1 :: x0 :: st) sz m k n := V.callS (args2 := [x0, x1]) h hl ca_J7_copyOf_59c91 gs_J7_copyOf_59c91 rfl ok rfl h8 hr kk
theorem ca_X0_ofRow : callee kX0_ofRow 3 := ⟨gc_X0_ofRow, gi_RX0, ⟨by decide, by decide⟩, by decide +kernel⟩
theorem call_X0_ofRow {G : GX} {y : MK} {R : Room} {Qf : QF} {pc pc' : Nat} {L : List (Option AV)} {st : List AV} {sz : Nat} {m : Mem} {k n d2 mc ms idx : Nat} {x0 x1 x2 : AV} {P : PO} (h : At y pc (.invokestatic idx) 3 pc') (hl : Cond.methodLink y.1.cls idx yX0_ofRow ∈ GW) (ok : Ok G kX0_ofRow d2 [x0, x1, x2] sz m mc ms P) (h8 : st.length ≤ 8) (hr : (d2 + 1 ≤ R.frames ∧ 8 + (3 + 11) + 40 * d2 ≤ R.locals) ∧ k + mc ≤ R.cells ∧ n + ms ≤ R.slots) (kk : ∀ (r : Option AV) (sz' : Nat) (m' : Mem), P r sz' m' → V G y R Qf pc' L (r.toList ++ st) sz' m' (k + mc) (n + ms)) : V G y R Qf pc L (x2 :: x1 :: x0 :: st) sz m k n := V.callS (args2 := [x0, x1, x2]) h hl ca_X0_ofRow gs_X0_ofRow rfl ok rfl h8 hr kk
theorem ca_X3_order : callee kX3_order 1 := ⟨gc_X3_order, gi_RX3, ⟨by decide, by decide⟩, by decide +kernel⟩
theorem call_X3_order {G : GX} {y : MK} {R : Room} {Qf : QF} {pc pc' : Nat} {L : List (Option AV)} {st : List AV} {sz : Nat} {m : Mem} {k n d2 mc ms idx : Nat} {x0 : AV} {P : PO} {a : Nat} {fs : List AV} (h : At y pc (.invokevirtual idx) 3 pc') (hl : Cond.methodLink y.1.cls idx yX3_order ∈ GW) (ok : Ok G kX3_order d2 [.inr (some a), x0] sz m mc ms P) (hm : m a = obj 3 fs) (h8 : st.length ≤ 8) (hr : (d2 + 1 ≤ R.frames ∧ 8 + (2 + 11) + 40 * d2 ≤ R.locals) ∧ k + mc ≤ R.cells ∧ n + ms ≤ R.slots) (kk : ∀ (r : Option AV) (sz' : Nat) (m' : Mem), P r sz' m' → V G y R Qf pc' L (r.toList ++ st) sz' m' (k + mc) (n + ms)) : V G y R Qf pc L (x0 :: .inr (some a) :: st) sz m k n := V.callV (args2 := [x0]) h hl ca_X3_order gm_X3_order ge_X3_order rfl rfl ok hm rfl h8 hr kk
theorem ca_X5_setWay : callee kX5_setWay 1 := ⟨gc_X5_setWay, gi_RX5, ⟨by decide, by decide⟩, by decide +kernel⟩
theorem call_X5_setWay {G : GX} {y : MK} {R : Room} {Qf : QF} {pc pc' : Nat} {L : List (Option AV)} {st : List AV} {sz : Nat} {m : Mem} {k n d2 mc ms idx : Nat} {x0 : AV} {P : PO} {a : Nat} {fs : List AV} (h : At y pc (.invokevirtual idx) 3 pc') (hl : Cond.methodLink y.1.cls idx yX5_setWay ∈ GW) (ok : Ok G kX5_setWay d2 [.inr (some a), x0] sz m mc ms P) (hm : m a = obj 5 fs) (h8 : st.length ≤ 8) (hr : (d2 + 1 ≤ R.frames ∧ 8 + (2 + 11) + 40 * d2 ≤ R.locals) ∧ k + mc ≤ R.cells ∧ n + ms ≤ R.slots) (kk : ∀ (r : Option AV) (sz' : Nat) (m' : Mem), P r sz' m' → V G y R Qf pc' L (r.toList ++ st) sz' m' (k + mc) (n + ms)) : V G y R Qf pc L (x0 :: .inr (some a) :: st) sz m k n := V.callV (args2 := [x0]) h hl ca_X5_setWay gm_X5_setWay ge_X5_setWay rfl rfl ok hm rfl h8 hr kk
theorem ca_X4_changeWay : callee kX4_changeWay 1 := ⟨gc_X4_changeWay, gi_RX4, ⟨by decide, by decide⟩, by decide +kernel⟩
theorem call_X4_changeWay {G : GX} {y : MK} {R : Room} {Qf : QF} {pc pc' : Nat} {L : List (Option AV)} {st : List AV} {sz : Nat} {m : Mem} {k n d2 mc ms idx : Nat} {x0 : AV} {P : PO} {a : Nat} {fs : List AV} (h : At y pc (.invokevirtual idx) 3 pc') (hl : Cond.methodLink y.1.cls idx yX4_changeWay ∈ GW) (ok : Ok G kX4_changeWay d2 [.inr (some a), x0] sz m mc ms P) (hm : m a = obj 4 fs) (h8 : st.length ≤ 8) (hr : (d2 + 1 ≤ R.frames ∧ 8 + (3 + 11) + 40 * d2 ≤ R.locals) ∧ k + mc ≤ R.cells ∧ n + ms ≤ R.slots) (kk : ∀ (r : Option AV) (sz' : Nat) (m' : Mem), P r sz' m' → V G y R Qf pc' L (r.toList ++ st) sz' m' (k + mc) (n + ms)) : V G y R Qf pc L (x0 :: .inr (some a) :: st) sz m k n := V.callV (args2 := [x0]) h hl ca_X4_changeWay gm_X4_changeWay ge_X4_changeWay rfl rfl ok hm rfl h8 hr kk
theorem ca_X5_setRoom : callee kX5_setRoom 1 := ⟨gc_X5_setRoom, gi_RX5, ⟨by decide, by decide⟩, by decide +kernel⟩
theorem call_X5_setRoom {G : GX} {y : MK} {R : Room} {Qf : QF} {pc pc' : Nat} {L : List (Option AV)} {st : List AV} {sz : Nat} {m : Mem} {k n d2 mc ms idx : Nat} {x0 : AV} {P : PO} {a : Nat} {fs : List AV} (h : At y pc (.invokevirtual idx) 3 pc') (hl : Cond.methodLink y.1.cls idx yX5_setRoom ∈ GW) (ok : Ok G kX5_setRoom d2 [.inr (some a), x0] sz m mc ms P) (hm : m a = obj 5 fs) (h8 : st.length ≤ 8) (hr : (d2 + 1 ≤ R.frames ∧ 8 + (2 + 11) + 40 * d2 ≤ R.locals) ∧ k + mc ≤ R.cells ∧ n + ms ≤ R.slots) (kk : ∀ (r : Option AV) (sz' : Nat) (m' : Mem), P r sz' m' → V G y R Qf pc' L (r.toList ++ st) sz' m' (k + mc) (n + ms)) : V G y R Qf pc L (x0 :: .inr (some a) :: st) sz m k n := V.callV (args2 := [x0]) h hl ca_X5_setRoom gm_X5_setRoom ge_X5_setRoom rfl rfl ok hm rfl h8 hr kk
theorem ca_X4_changeRoom : callee kX4_changeRoom 1 := ⟨gc_X4_changeRoom, gi_RX4, ⟨by decide, by decide⟩, by decide +kernel⟩
theorem call_X4_changeRoom {G : GX} {y : MK} {R : Room} {Qf : QF} {pc pc' : Nat} {L : List (Option AV)} {st : List AV} {sz : Nat} {m : Mem} {k n d2 mc ms idx : Nat} {x0 : AV} {P : PO} {a : Nat} {fs : List AV} (h : At y pc (.invokevirtual idx) 3 pc') (hl : Cond.methodLink y.1.cls idx yX4_changeRoom ∈ GW) (ok : Ok G kX4_changeRoom d2 [.inr (some a), x0] sz m mc ms P) (hm : m a = obj 4 fs) (h8 : st.length ≤ 8) (hr : (d2 + 1 ≤ R.frames ∧ 8 + (3 + 11) + 40 * d2 ≤ R.locals) ∧ k + mc ≤ R.cells ∧ n + ms ≤ R.slots) (kk : ∀ (r : Option AV) (sz' : Nat) (m' : Mem), P r sz' m' → V G y R Qf pc' L (r.toList ++ st) sz' m' (k + mc) (n + ms)) : V G y R Qf pc L (x0 :: .inr (some a) :: st) sz m k n := V.callV (args2 := [x0]) h hl ca_X4_changeRoom gm_X4_changeRoom ge_X4_changeRoom rfl rfl ok hm rfl h8 hr kk
theorem ca_X5_flush : callee kX5_flush 0 := ⟨gc_X5_flush, gi_RX5, ⟨by decide, by decide⟩, by decide +kernel⟩
theorem call_X5_flush {G : GX} {y : MK} {R : Room} {Qf : QF} {pc pc' : Nat} {L : List (Option AV)} {st : List AV} {sz : Nat} {m : Mem} {k n d2 mc ms idx : Nat} {P : PO} {a : Nat} {fs : List AV} (h : At y pc (.invokevirtual idx) 3 pc') (hl : Cond.methodLink y.1.cls idx yX5_flush ∈ GW) (ok : Ok G kX5_flush d2 [.inr (some a)] sz m mc ms P) (hm : m a = obj 5 fs) (h8 : st.length ≤ 8) (hr : (d2 + 1 ≤ R.frames ∧ 8 + (1 + 11) + 40 * d2 ≤ R.locals) ∧ k + mc ≤ R.cells ∧ n + ms ≤ R.slots) (kk : ∀ (r : Option AV) (sz' : Nat) (m' : Mem), P r sz' m' → V G y R Qf pc' L (r.toList ++ st) sz' m' (k + mc) (n + ms)) : V G y R Qf pc L (.inr (some a) :: st) sz m k n := V.callV (args2 := []) h hl ca_X5_flush gm_X5_flush ge_X5_flush rfl rfl ok hm rfl h8 hr kk
theorem ca_X4_flushAll : callee kX4_flushAll 0 := ⟨gc_X4_flushAll, gi_RX4, ⟨by decide, by decide⟩, by decide +kernel⟩
theorem call_X4_flushAll {G : GX} {y : MK} {R : Room} {Qf : QF} {pc pc' : Nat} {L : List (Option AV)} {st : List AV} {sz : Nat} {m : Mem} {k n d2 mc ms idx : Nat} {P : PO} {a : Nat} {fs : List AV} (h : At y pc (.invokevirtual idx) 3 pc') (hl : Cond.methodLink y.1.cls idx yX4_flushAll ∈ GW) (ok : Ok G kX4_flushAll d2 [.inr (some a)] sz m mc ms P) (hm : m a = obj 4 fs) (h8 : st.length ≤ 8) (hr : (d2 + 1 ≤ R.frames ∧ 8 + (2 + 11) + 40 * d2 ≤ R.locals) ∧ k + mc ≤ R.cells ∧ n + ms ≤ R.slots) (kk : ∀ (r : Option AV) (sz' : Nat) (m' : Mem), P r sz' m' → V G y R Qf pc' L (r.toList ++ st) sz' m' (k + mc) (n + ms)) : V G y R Qf pc L (.inr (some a) :: st) sz m k n := V.callV (args2 := []) h hl ca_X4_flushAll gm_X4_flushAll ge_X4_flushAll rfl rfl ok hm rfl h8 hr kk
theorem ca_X5_store : callee kX5_store 1 := ⟨gc_X5_store, gi_RX5, ⟨by decide, by decide⟩, by decide +kernel⟩
theorem call_X5_store {G : GX} {y : MK} {R : Room} {Qf : QF} {pc pc' : Nat} {L : List (Option AV)} {st : List AV} {sz : Nat} {m : Mem} {k n d2 mc ms idx : Nat} {x0 : AV} {P : PO} {a : Nat} {fs : List AV} (h : At y pc (.invokevirtual idx) 3 pc') (hl : Cond.methodLink y.1.cls idx yX5_store ∈ GW) (ok : Ok G kX5_store d2 [.inr (some a), x0] sz m mc ms P) (hm : m a = obj 5 fs) (h8 : st.length ≤ 8) (hr : (d2 + 1 ≤ R.frames ∧ 8 + (2 + 11) + 40 * d2 ≤ R.locals) ∧ k + mc ≤ R.cells ∧ n + ms ≤ R.slots) (kk : ∀ (r : Option AV) (sz' : Nat) (m' : Mem), P r sz' m' → V G y R Qf pc' L (r.toList ++ st) sz' m' (k + mc) (n + ms)) : V G y R Qf pc L (x0 :: .inr (some a) :: st) sz m k n := V.callV (args2 := [x0]) h hl ca_X5_store gm_X5_store ge_X5_store rfl rfl ok hm rfl h8 hr kk
theorem ca_X4_storePage : callee kX4_storePage 1 := ⟨gc_X4_storePage, gi_RX4, ⟨by decide, by decide⟩, by decide +kernel⟩
theorem call_X4_storePage {G : GX} {y : MK} {R : Room} {Qf : QF} {pc pc' : Nat} {L : List (Option AV)} {st : List AV} {sz : Nat} {m : Mem} {k n d2 mc ms idx : Nat} {x0 : AV} {P : PO} {a : Nat} {fs : List AV} (h : At y pc (.invokevirtual idx) 3 pc') (hl : Cond.methodLink y.1.cls idx yX4_storePage ∈ GW) (ok : Ok G kX4_storePage d2 [.inr (some a), x0] sz m mc ms P) (hm : m a = obj 4 fs) (h8 : st.length ≤ 8) (hr : (d2 + 1 ≤ R.frames ∧ 8 + (4 + 11) + 40 * d2 ≤ R.locals) ∧ k + mc ≤ R.cells ∧ n + ms ≤ R.slots) (kk : ∀ (r : Option AV) (sz' : Nat) (m' : Mem), P r sz' m' → V G y R Qf pc' L (r.toList ++ st) sz' m' (k + mc) (n + ms)) : V G y R Qf pc L (x0 :: .inr (some a) :: st) sz m k n := V.callV (args2 := [x0]) h hl ca_X4_storePage gm_X4_storePage ge_X4_storePage rfl rfl ok hm rfl h8 hr kk
theorem ca_X1_entriesOf : callee kX1_entriesOf 3 := ⟨gc_X1_entriesOf, gi_RX1, ⟨by decide, by decide⟩, by decide +kernel⟩
theorem call_X1_entriesOf {G : GX} {y : MK} {R : Room} {Qf : QF} {pc pc' : Nat} {L : List (Option AV)} {st : List AV} {sz : Nat} {m : Mem} {k n d2 mc ms idx : Nat} {x0 x1 x2 : AV} {P : PO} {a : Nat} {fs : List AV} (h : At y pc (.invokevirtual idx) 3 pc') (hl : Cond.methodLink y.1.cls idx yX1_entriesOf ∈ GW) (ok : Ok G kX1_entriesOf d2 [.inr (some a), x0, x1, x2] sz m mc ms P) (hm : m a = obj 1 fs) (h8 : st.length ≤ 8) (hr : (d2 + 1 ≤ R.frames ∧ 8 + (7 + 11) + 40 * d2 ≤ R.locals) ∧ k + mc ≤ R.cells ∧ n + ms ≤ R.slots) (kk : ∀ (r : Option AV) (sz' : Nat) (m' : Mem), P r sz' m' → V G y R Qf pc' L (r.toList ++ st) sz' m' (k + mc) (n + ms)) : V G y R Qf pc L (x2 :: x1 :: x0 :: .inr (some a) :: st) sz m k n := V.callV (args2 := [x0, x1, x2]) h hl ca_X1_entriesOf gm_X1_entriesOf ge_X1_entriesOf rfl rfl ok hm rfl h8 hr kk
theorem ca_X4_neededEntries : callee kX4_neededEntries 0 := ⟨gc_X4_neededEntries, gi_RX4, ⟨by decide, by decide⟩, by decide +kernel⟩
theorem call_X4_neededEntries {G : GX} {y : MK} {R : Room} {Qf : QF} {pc pc' : Nat} {L : List (Option AV)} {st : List AV} {sz : Nat} {m : Mem} {k n d2 mc ms idx : Nat} {P : PO} {a : Nat} {fs : List AV} (h : At y pc (.invokevirtual idx) 3 pc') (hl : Cond.methodLink y.1.cls idx yX4_neededEntries ∈ GW) (ok : Ok G kX4_neededEntries d2 [.inr (some a)] sz m mc ms P) (hm : m a = obj 4 fs) (h8 : st.length ≤ 8) (hr : (d2 + 1 ≤ R.frames ∧ 8 + (3 + 11) + 40 * d2 ≤ R.locals) ∧ k + mc ≤ R.cells ∧ n + ms ≤ R.slots) (kk : ∀ (r : Option AV) (sz' : Nat) (m' : Mem), P r sz' m' → V G y R Qf pc' L (r.toList ++ st) sz' m' (k + mc) (n + ms)) : V G y R Qf pc L (.inr (some a) :: st) sz m k n := V.callV (args2 := []) h hl ca_X4_neededEntries gm_X4_neededEntries ge_X4_neededEntries rfl rfl ok hm rfl h8 hr kk
theorem ca_X5_trim : callee kX5_trim 0 := ⟨gc_X5_trim, gi_RX5, ⟨by decide, by decide⟩, by decide +kernel⟩
theorem call_X5_trim {G : GX} {y : MK} {R : Room} {Qf : QF} {pc pc' : Nat} {L : List (Option AV)} {st : List AV} {sz : Nat} {m : Mem} {k n d2 mc ms idx : Nat} {P : PO} {a : Nat} {fs : List AV} (h : At y pc (.invokevirtual idx) 3 pc') (hl : Cond.methodLink y.1.cls idx yX5_trim ∈ GW) (ok : Ok G kX5_trim d2 [.inr (some a)] sz m mc ms P) (hm : m a = obj 5 fs) (h8 : st.length ≤ 8) (hr : (d2 + 1 ≤ R.frames ∧ 8 + (2 + 11) + 40 * d2 ≤ R.locals) ∧ k + mc ≤ R.cells ∧ n + ms ≤ R.slots) (kk : ∀ (r : Option AV) (sz' : Nat) (m' : Mem), P r sz' m' → V G y R Qf pc' L (r.toList ++ st) sz' m' (k + mc) (n + ms)) : V G y R Qf pc L (.inr (some a) :: st) sz m k n := V.callV (args2 := []) h hl ca_X5_trim gm_X5_trim ge_X5_trim rfl rfl ok hm rfl h8 hr kk
theorem ca_X5_damage : callee kX5_damage 1 := ⟨gc_X5_damage, gi_RX5, ⟨by decide, by decide⟩, by decide +kernel⟩
theorem call_X5_damage {G : GX} {y : MK} {R : Room} {Qf : QF} {pc pc' : Nat} {L : List (Option AV)} {st : List AV} {sz : Nat} {m : Mem} {k n d2 mc ms idx : Nat} {x0 : AV} {P : PO} {a : Nat} {fs : List AV} (h : At y pc (.invokevirtual idx) 3 pc') (hl : Cond.methodLink y.1.cls idx yX5_damage ∈ GW) (ok : Ok G kX5_damage d2 [.inr (some a), x0] sz m mc ms P) (hm : m a = obj 5 fs) (h8 : st.length ≤ 8) (hr : (d2 + 1 ≤ R.frames ∧ 8 + (2 + 11) + 40 * d2 ≤ R.locals) ∧ k + mc ≤ R.cells ∧ n + ms ≤ R.slots) (kk : ∀ (r : Option AV) (sz' : Nat) (m' : Mem), P r sz' m' → V G y R Qf pc' L (r.toList ++ st) sz' m' (k + mc) (n + ms)) : V G y R Qf pc L (x0 :: .inr (some a) :: st) sz m k n := V.callV (args2 := [x0]) h hl ca_X5_damage gm_X5_damage ge_X5_damage rfl rfl ok hm rfl h8 hr kk
theorem ca_X1_holds : callee kX1_holds 1 := ⟨gc_X1_holds, gi_RX1, ⟨by decide, by decide⟩, by decide +kernel⟩
theorem call_X1_holds {G : GX} {y : MK} {R : Room} {Qf : QF} {pc pc' : Nat} {L : List (Option AV)} {st : List AV} {sz : Nat} {m : Mem} {k n d2 mc ms idx : Nat} {x0 : AV} {P : PO} {a : Nat} {fs : List AV} (h : At y pc (.invokevirtual idx) 3 pc') (hl : Cond.methodLink y.1.cls idx yX1_holds ∈ GW) (ok : Ok G kX1_holds d2 [.inr (some a), x0] sz m mc ms P) (hm : m a = obj 1 fs) (h8 : st.length ≤ 8) (hr : (d2 + 1 ≤ R.frames ∧ 8 + (2 + 11) + 40 * d2 ≤ R.locals) ∧ k + mc ≤ R.cells ∧ n + ms ≤ R.slots) (kk : ∀ (r : Option AV) (sz' : Nat) (m' : Mem), P r sz' m' → V G y R Qf pc' L (r.toList ++ st) sz' m' (k + mc) (n + ms)) : V G y R Qf pc L (x0 :: .inr (some a) :: st) sz m k n := V.callV (args2 := [x0]) h hl ca_X1_holds gm_X1_holds ge_X1_holds rfl rfl ok hm rfl h8 hr kk
theorem ca_X4_harm : callee kX4_harm 1 := ⟨gc_X4_harm, gi_RX4, ⟨by decide, by decide⟩, by decide +kernel⟩
theorem call_X4_harm {G : GX} {y : MK} {R : Room} {Qf : QF} {pc pc' : Nat} {L : List (Option AV)} {st : List AV} {sz : Nat} {m : Mem} {k n d2 mc ms idx : Nat} {x0 : AV} {P : PO} {a : Nat} {fs : List AV} (h : At y pc (.invokevirtual idx) 3 pc') (hl : Cond.methodLink y.1.cls idx yX4_harm ∈ GW) (ok : Ok G kX4_harm d2 [.inr (some a), x0] sz m mc ms P) (hm : m a = obj 4 fs) (h8 : st.length ≤ 8) (hr : (d2 + 1 ≤ R.frames ∧ 8 + (5 + 11) + 40 * d2 ≤ R.locals) ∧ k + mc ≤ R.cells ∧ n + ms ≤ R.slots) (kk : ∀ (r : Option AV) (sz' : Nat) (m' : Mem), P r sz' m' → V G y R Qf pc' L (r.toList ++ st) sz' m' (k + mc) (n + ms)) : V G y R Qf pc L (x0 :: .inr (some a) :: st) sz m k n := V.callV (args2 := [x0]) h hl ca_X4_harm gm_X4_harm ge_X4_harm rfl rfl ok hm rfl h8 hr kk
theorem ca_X0_asDamaged : callee kX0_asDamaged 0 := ⟨gc_X0_asDamaged, gi_RX0, ⟨by decide, by decide⟩, by decide +kernel⟩
theorem call_X0_asDamaged {G : GX} {y : MK} {R : Room} {Qf : QF} {pc pc' : Nat} {L : List (Option AV)} {st : List AV} {sz : Nat} {m : Mem} {k n d2 mc ms idx : Nat} {P : PO} {a : Nat} {fs : List AV} (h : At y pc (.invokevirtual idx) 3 pc') (hl : Cond.methodLink y.1.cls idx yX0_asDamaged ∈ GW) (ok : Ok G kX0_asDamaged d2 [.inr (some a)] sz m mc ms P) (hm : m a = obj 0 fs) (h8 : st.length ≤ 8) (hr : (d2 + 1 ≤ R.frames ∧ 8 + (1 + 11) + 40 * d2 ≤ R.locals) ∧ k + mc ≤ R.cells ∧ n + ms ≤ R.slots) (kk : ∀ (r : Option AV) (sz' : Nat) (m' : Mem), P r sz' m' → V G y R Qf pc' L (r.toList ++ st) sz' m' (k + mc) (n + ms)) : V G y R Qf pc L (.inr (some a) :: st) sz m k n := V.callV (args2 := []) h hl ca_X0_asDamaged gm_X0_asDamaged ge_X0_asDamaged rfl rfl ok hm rfl h8 hr kk
theorem ca_X1_replace : callee kX1_replace 2 := ⟨gc_X1_replace, gi_RX1, ⟨by decide, by decide⟩, by decide +kernel⟩
theorem call_X1_replace {G : GX} {y : MK} {R : Room} {Qf : QF} {pc pc' : Nat} {L : List (Option AV)} {st : List AV} {sz : Nat} {m : Mem} {k n d2 mc ms idx : Nat} {x0 x1 : AV} {P : PO} {a : Nat} {fs : List AV} (h : At y pc (.invokevirtual idx) 3 pc') (hl : Cond.methodLink y.1.cls idx yX1_replace ∈ GW) (ok : Ok G kX1_replace d2 [.inr (some a), x0, x1] sz m mc ms P) (hm : m a = obj 1 fs) (h8 : st.length ≤ 8) (hr : (d2 + 1 ≤ R.frames ∧ 8 + (4 + 11) + 40 * d2 ≤ R.locals) ∧ k + mc ≤ R.cells ∧ n + ms ≤ R.slots) (kk : ∀ (r : Option AV) (sz' : Nat) (m' : Mem), P r sz' m' → V G y R Qf pc' L (r.toList ++ st) sz' m' (k + mc) (n + ms)) : V G y R Qf pc L (x1 :: x0 :: .inr (some a) :: st) sz m k n := V.callV (args2 := [x0, x1]) h hl ca_X1_replace gm_X1_replace ge_X1_replace rfl rfl ok hm rfl h8 hr kk
theorem ca_X4_needsDamaged : callee kX4_needsDamaged 1 := ⟨gc_X4_needsDamaged, gi_RX4, ⟨by decide, by decide⟩, by decide +kernel⟩
theorem call_X4_needsDamaged {G : GX} {y : MK} {R : Room} {Qf : QF} {pc pc' : Nat} {L : List (Option AV)} {st : List AV} {sz : Nat} {m : Mem} {k n d2 mc ms idx : Nat} {x0 : AV} {P : PO} {a : Nat} {fs : List AV} (h : At y pc (.invokevirtual idx) 3 pc') (hl : Cond.methodLink y.1.cls idx yX4_needsDamaged ∈ GW) (ok : Ok G kX4_needsDamaged d2 [.inr (some a), x0] sz m mc ms P) (hm : m a = obj 4 fs) (h8 : st.length ≤ 8) (hr : (d2 + 1 ≤ R.frames ∧ 8 + (3 + 11) + 40 * d2 ≤ R.locals) ∧ k + mc ≤ R.cells ∧ n + ms ≤ R.slots) (kk : ∀ (r : Option AV) (sz' : Nat) (m' : Mem), P r sz' m' → V G y R Qf pc' L (r.toList ++ st) sz' m' (k + mc) (n + ms)) : V G y R Qf pc L (x0 :: .inr (some a) :: st) sz m k n := V.callV (args2 := [x0]) h hl ca_X4_needsDamaged gm_X4_needsDamaged ge_X4_needsDamaged rfl rfl ok hm rfl h8 hr kk
theorem ca_X1_firstDamaged : callee kX1_firstDamaged 3 := ⟨gc_X1_firstDamaged, gi_RX1, ⟨by decide, by decide⟩, by decide +kernel⟩
theorem call_X1_firstDamaged {G : GX} {y : MK} {R : Room} {Qf : QF} {pc pc' : Nat} {L : List (Option AV)} {st : List AV} {sz : Nat} {m : Mem} {k n d2 mc ms idx : Nat} {x0 x1 x2 : AV} {P : PO} {a : Nat} {fs : List AV} (h : At y pc (.invokevirtual idx) 3 pc') (hl : Cond.methodLink y.1.cls idx yX1_firstDamaged ∈ GW) (ok : Ok G kX1_firstDamaged d2 [.inr (some a), x0, x1, x2] sz m mc ms P) (hm : m a = obj 1 fs) (h8 : st.length ≤ 8) (hr : (d2 + 1 ≤ R.frames ∧ 8 + (6 + 11) + 40 * d2 ≤ R.locals) ∧ k + mc ≤ R.cells ∧ n + ms ≤ R.slots) (kk : ∀ (r : Option AV) (sz' : Nat) (m' : Mem), P r sz' m' → V G y R Qf pc' L (r.toList ++ st) sz' m' (k + mc) (n + ms)) : V G y R Qf pc L (x2 :: x1 :: x0 :: .inr (some a) :: st) sz m k n := V.callV (args2 := [x0, x1, x2]) h hl ca_X1_firstDamaged gm_X1_firstDamaged ge_X1_firstDamaged rfl rfl ok hm rfl h8 hr kk
theorem ca_X5_crash : callee kX5_crash 0 := ⟨gc_X5_crash, gi_RX5, ⟨by decide, by decide⟩, by decide +kernel⟩
theorem call_X5_crash {G : GX} {y : MK} {R : Room} {Qf : QF} {pc pc' : Nat} {L : List (Option AV)} {st : List AV} {sz : Nat} {m : Mem} {k n d2 mc ms idx : Nat} {P : PO} {a : Nat} {fs : List AV} (h : At y pc (.invokevirtual idx) 3 pc') (hl : Cond.methodLink y.1.cls idx yX5_crash ∈ GW) (ok : Ok G kX5_crash d2 [.inr (some a)] sz m mc ms P) (hm : m a = obj 5 fs) (h8 : st.length ≤ 8) (hr : (d2 + 1 ≤ R.frames ∧ 8 + (1 + 11) + 40 * d2 ≤ R.locals) ∧ k + mc ≤ R.cells ∧ n + ms ≤ R.slots) (kk : ∀ (r : Option AV) (sz' : Nat) (m' : Mem), P r sz' m' → V G y R Qf pc' L (r.toList ++ st) sz' m' (k + mc) (n + ms)) : V G y R Qf pc L (.inr (some a) :: st) sz m k n := V.callV (args2 := []) h hl ca_X5_crash gm_X5_crash ge_X5_crash rfl rfl ok hm rfl h8 hr kk
theorem ca_X4_breakDown : callee kX4_breakDown 0 := ⟨gc_X4_breakDown, gi_RX4, ⟨by decide, by decide⟩, by decide +kernel⟩
theorem call_X4_breakDown {G : GX} {y : MK} {R : Room} {Qf : QF} {pc pc' : Nat} {L : List (Option AV)} {st : List AV} {sz : Nat} {m : Mem} {k n d2 mc ms idx : Nat} {P : PO} {a : Nat} {fs : List AV} (h : At y pc (.invokevirtual idx) 3 pc') (hl : Cond.methodLink y.1.cls idx yX4_breakDown ∈ GW) (ok : Ok G kX4_breakDown d2 [.inr (some a)] sz m mc ms P) (hm : m a = obj 4 fs) (h8 : st.length ≤ 8) (hr : (d2 + 1 ≤ R.frames ∧ 8 + (4 + 11) + 40 * d2 ≤ R.locals) ∧ k + mc ≤ R.cells ∧ n + ms ≤ R.slots) (kk : ∀ (r : Option AV) (sz' : Nat) (m' : Mem), P r sz' m' → V G y R Qf pc' L (r.toList ++ st) sz' m' (k + mc) (n + ms)) : V G y R Qf pc L (.inr (some a) :: st) sz m k n := V.callV (args2 := []) h hl ca_X4_breakDown gm_X4_breakDown ge_X4_breakDown rfl rfl ok hm rfl h8 hr kk
theorem ca_X1_loseUnflushed : callee kX1_loseUnflushed 0 := ⟨gc_X1_loseUnflushed, gi_RX1, ⟨by decide, by decide⟩, by decide +kernel⟩
theorem call_X1_loseUnflushed {G : GX} {y : MK} {R : Room} {Qf : QF} {pc pc' : Nat} {L : List (Option AV)} {st : List AV} {sz : Nat} {m : Mem} {k n d2 mc ms idx : Nat} {P : PO} {a : Nat} {fs : List AV} (h : At y pc (.invokevirtual idx) 3 pc') (hl : Cond.methodLink y.1.cls idx yX1_loseUnflushed ∈ GW) (ok : Ok G kX1_loseUnflushed d2 [.inr (some a)] sz m mc ms P) (hm : m a = obj 1 fs) (h8 : st.length ≤ 8) (hr : (d2 + 1 ≤ R.frames ∧ 8 + (2 + 11) + 40 * d2 ≤ R.locals) ∧ k + mc ≤ R.cells ∧ n + ms ≤ R.slots) (kk : ∀ (r : Option AV) (sz' : Nat) (m' : Mem), P r sz' m' → V G y R Qf pc' L (r.toList ++ st) sz' m' (k + mc) (n + ms)) : V G y R Qf pc L (.inr (some a) :: st) sz m k n := V.callV (args2 := []) h hl ca_X1_loseUnflushed gm_X1_loseUnflushed ge_X1_loseUnflushed rfl rfl ok hm rfl h8 hr kk
theorem ca_X4_endOfSound : callee kX4_endOfSound 1 := ⟨gc_X4_endOfSound, gi_RX4, ⟨by decide, by decide⟩, by decide +kernel⟩
theorem call_X4_endOfSound {G : GX} {y : MK} {R : Room} {Qf : QF} {pc pc' : Nat} {L : List (Option AV)} {st : List AV} {sz : Nat} {m : Mem} {k n d2 mc ms idx : Nat} {x0 : AV} {P : PO} {a : Nat} {fs : List AV} (h : At y pc (.invokevirtual idx) 3 pc') (hl : Cond.methodLink y.1.cls idx yX4_endOfSound ∈ GW) (ok : Ok G kX4_endOfSound d2 [.inr (some a), x0] sz m mc ms P) (hm : m a = obj 4 fs) (h8 : st.length ≤ 8) (hr : (d2 + 1 ≤ R.frames ∧ 8 + (5 + 11) + 40 * d2 ≤ R.locals) ∧ k + mc ≤ R.cells ∧ n + ms ≤ R.slots) (kk : ∀ (r : Option AV) (sz' : Nat) (m' : Mem), P r sz' m' → V G y R Qf pc' L (r.toList ++ st) sz' m' (k + mc) (n + ms)) : V G y R Qf pc L (x0 :: .inr (some a) :: st) sz m k n := V.callV (args2 := [x0]) h hl ca_X4_endOfSound gm_X4_endOfSound ge_X4_endOfSound rfl rfl ok hm rfl h8 hr kk
theorem ca_X4_replay : callee kX4_replay 4 := ⟨gc_X4_replay, gi_RX4, ⟨by decide, by decide⟩, by decide +kernel⟩
theorem call_X4_replay {G : GX} {y : MK} {R : Room} {Qf : QF} {pc pc' : Nat} {L : List (Option AV)} {st : List AV} {sz : Nat} {m : Mem} {k n d2 mc ms idx : Nat} {x0 x1 x2 x3 : AV} {P : PO} {a : Nat} {fs : List AV} (h : At y pc (.invokevirtual idx) 3 pc') (hl : Cond.methodLink y.1.cls idx yX4_replay ∈ GW) (ok : Ok G kX4_replay d2 [.inr (some a), x0, x1, x2, x3] sz m mc ms P) (hm : m a = obj 4 fs) (h8 : st.length ≤ 8) (hr : (d2 + 1 ≤ R.frames ∧ 8 + (7 + 11) + 40 * d2 ≤ R.locals) ∧ k + mc ≤ R.cells ∧ n + ms ≤ R.slots) (kk : ∀ (r : Option AV) (sz' : Nat) (m' : Mem), P r sz' m' → V G y R Qf pc' L (r.toList ++ st) sz' m' (k + mc) (n + ms)) : V G y R Qf pc L (x3 :: x2 :: x1 :: x0 :: .inr (some a) :: st) sz m k n := V.callV (args2 := [x0, x1, x2, x3]) h hl ca_X4_replay gm_X4_replay ge_X4_replay rfl rfl ok hm rfl h8 hr kk
theorem ca_X5_type : callee kX5_type 1 := ⟨gc_X5_type, gi_RX5, ⟨by decide, by decide⟩, by decide +kernel⟩
theorem call_X5_type {G : GX} {y : MK} {R : Room} {Qf : QF} {pc pc' : Nat} {L : List (Option AV)} {st : List AV} {sz : Nat} {m : Mem} {k n d2 mc ms idx : Nat} {x0 : AV} {P : PO} {a : Nat} {fs : List AV} (h : At y pc (.invokevirtual idx) 3 pc') (hl : Cond.methodLink y.1.cls idx yX5_type ∈ GW) (ok : Ok G kX5_type d2 [.inr (some a), x0] sz m mc ms P) (hm : m a = obj 5 fs) (h8 : st.length ≤ 8) (hr : (d2 + 1 ≤ R.frames ∧ 8 + (2 + 11) + 40 * d2 ≤ R.locals) ∧ k + mc ≤ R.cells ∧ n + ms ≤ R.slots) (kk : ∀ (r : Option AV) (sz' : Nat) (m' : Mem), P r sz' m' → V G y R Qf pc' L (r.toList ++ st) sz' m' (k + mc) (n + ms)) : V G y R Qf pc L (x0 :: .inr (some a) :: st) sz m k n := V.callV (args2 := [x0]) h hl ca_X5_type gm_X5_type ge_X5_type rfl rfl ok hm rfl h8 hr kk
theorem ca_X5_clearText : callee kX5_clearText 0 := ⟨gc_X5_clearText, gi_RX5, ⟨by decide, by decide⟩, by decide +kernel⟩
theorem call_X5_clearText {G : GX} {y : MK} {R : Room} {Qf : QF} {pc pc' : Nat} {L : List (Option AV)} {st : List AV} {sz : Nat} {m : Mem} {k n d2 mc ms idx : Nat} {P : PO} {a : Nat} {fs : List AV} (h : At y pc (.invokevirtual idx) 3 pc') (hl : Cond.methodLink y.1.cls idx yX5_clearText ∈ GW) (ok : Ok G kX5_clearText d2 [.inr (some a)] sz m mc ms P) (hm : m a = obj 5 fs) (h8 : st.length ≤ 8) (hr : (d2 + 1 ≤ R.frames ∧ 8 + (2 + 11) + 40 * d2 ≤ R.locals) ∧ k + mc ≤ R.cells ∧ n + ms ≤ R.slots) (kk : ∀ (r : Option AV) (sz' : Nat) (m' : Mem), P r sz' m' → V G y R Qf pc' L (r.toList ++ st) sz' m' (k + mc) (n + ms)) : V G y R Qf pc L (.inr (some a) :: st) sz m k n := V.callV (args2 := []) h hl ca_X5_clearText gm_X5_clearText ge_X5_clearText rfl rfl ok hm rfl h8 hr kk
theorem ca_X5_undo : callee kX5_undo 0 := ⟨gc_X5_undo, gi_RX5, ⟨by decide, by decide⟩, by decide +kernel⟩
theorem call_X5_undo {G : GX} {y : MK} {R : Room} {Qf : QF} {pc pc' : Nat} {L : List (Option AV)} {st : List AV} {sz : Nat} {m : Mem} {k n d2 mc ms idx : Nat} {P : PO} {a : Nat} {fs : List AV} (h : At y pc (.invokevirtual idx) 3 pc') (hl : Cond.methodLink y.1.cls idx yX5_undo ∈ GW) (ok : Ok G kX5_undo d2 [.inr (some a)] sz m mc ms P) (hm : m a = obj 5 fs) (h8 : st.length ≤ 8) (hr : (d2 + 1 ≤ R.frames ∧ 8 + (1 + 11) + 40 * d2 ≤ R.locals) ∧ k + mc ≤ R.cells ∧ n + ms ≤ R.slots) (kk : ∀ (r : Option AV) (sz' : Nat) (m' : Mem), P r sz' m' → V G y R Qf pc' L (r.toList ++ st) sz' m' (k + mc) (n + ms)) : V G y R Qf pc L (.inr (some a) :: st) sz m k n := V.callV (args2 := []) h hl ca_X5_undo gm_X5_undo ge_X5_undo rfl rfl ok hm rfl h8 hr kk
theorem ca_X5_keep : callee kX5_keep 0 := ⟨gc_X5_keep, gi_RX5, ⟨by decide, by decide⟩, by decide +kernel⟩
theorem call_X5_keep {G : GX} {y : MK} {R : Room} {Qf : QF} {pc pc' : Nat} {L : List (Option AV)} {st : List AV} {sz : Nat} {m : Mem} {k n d2 mc ms idx : Nat} {P : PO} {a : Nat} {fs : List AV} (h : At y pc (.invokevirtual idx) 3 pc') (hl : Cond.methodLink y.1.cls idx yX5_keep ∈ GW) (ok : Ok G kX5_keep d2 [.inr (some a)] sz m mc ms P) (hm : m a = obj 5 fs) (h8 : st.length ≤ 8) (hr : (d2 + 1 ≤ R.frames ∧ 8 + (1 + 11) + 40 * d2 ≤ R.locals) ∧ k + mc ≤ R.cells ∧ n + ms ≤ R.slots) (kk : ∀ (r : Option AV) (sz' : Nat) (m' : Mem), P r sz' m' → V G y R Qf pc' L (r.toList ++ st) sz' m' (k + mc) (n + ms)) : V G y R Qf pc L (.inr (some a) :: st) sz m k n := V.callV (args2 := []) h hl ca_X5_keep gm_X5_keep ge_X5_keep rfl rfl ok hm rfl h8 hr kk
theorem ca_X5_restore : callee kX5_restore 0 := ⟨gc_X5_restore, gi_RX5, ⟨by decide, by decide⟩, by decide +kernel⟩
theorem call_X5_restore {G : GX} {y : MK} {R : Room} {Qf : QF} {pc pc' : Nat} {L : List (Option AV)} {st : List AV} {sz : Nat} {m : Mem} {k n d2 mc ms idx : Nat} {P : PO} {a : Nat} {fs : List AV} (h : At y pc (.invokevirtual idx) 3 pc') (hl : Cond.methodLink y.1.cls idx yX5_restore ∈ GW) (ok : Ok G kX5_restore d2 [.inr (some a)] sz m mc ms P) (hm : m a = obj 5 fs) (h8 : st.length ≤ 8) (hr : (d2 + 1 ≤ R.frames ∧ 8 + (1 + 11) + 40 * d2 ≤ R.locals) ∧ k + mc ≤ R.cells ∧ n + ms ≤ R.slots) (kk : ∀ (r : Option AV) (sz' : Nat) (m' : Mem), P r sz' m' → V G y R Qf pc' L (r.toList ++ st) sz' m' (k + mc) (n + ms)) : V G y R Qf pc L (.inr (some a) :: st) sz m k n := V.callV (args2 := []) h hl ca_X5_restore gm_X5_restore ge_X5_restore rfl rfl ok hm rfl h8 hr kk
theorem ca_X5_cell : callee kX5_cell 2 := ⟨gc_X5_cell, gi_RX5, ⟨by decide, by decide⟩, by decide +kernel⟩
theorem call_X5_cell {G : GX} {y : MK} {R : Room} {Qf : QF} {pc pc' : Nat} {L : List (Option AV)} {st : List AV} {sz : Nat} {m : Mem} {k n d2 mc ms idx : Nat} {x0 x1 : AV} {P : PO} {a : Nat} {fs : List AV} (h : At y pc (.invokevirtual idx) 3 pc') (hl : Cond.methodLink y.1.cls idx yX5_cell ∈ GW) (ok : Ok G kX5_cell d2 [.inr (some a), x0, x1] sz m mc ms P) (hm : m a = obj 5 fs) (h8 : st.length ≤ 8) (hr : (d2 + 1 ≤ R.frames ∧ 8 + (3 + 11) + 40 * d2 ≤ R.locals) ∧ k + mc ≤ R.cells ∧ n + ms ≤ R.slots) (kk : ∀ (r : Option AV) (sz' : Nat) (m' : Mem), P r sz' m' → V G y R Qf pc' L (r.toList ++ st) sz' m' (k + mc) (n + ms)) : V G y R Qf pc L (x1 :: x0 :: .inr (some a) :: st) sz m k n := V.callV (args2 := [x0, x1]) h hl ca_X5_cell gm_X5_cell ge_X5_cell rfl rfl ok hm rfl h8 hr kk
theorem ca_X5_page : callee kX5_page 2 := ⟨gc_X5_page, gi_RX5, ⟨by decide, by decide⟩, by decide +kernel⟩
theorem call_X5_page {G : GX} {y : MK} {R : Room} {Qf : QF} {pc pc' : Nat} {L : List (Option AV)} {st : List AV} {sz : Nat} {m : Mem} {k n d2 mc ms idx : Nat} {x0 x1 : AV} {P : PO} {a : Nat} {fs : List AV} (h : At y pc (.invokevirtual idx) 3 pc') (hl : Cond.methodLink y.1.cls idx yX5_page ∈ GW) (ok : Ok G kX5_page d2 [.inr (some a), x0, x1] sz m mc ms P) (hm : m a = obj 5 fs) (h8 : st.length ≤ 8) (hr : (d2 + 1 ≤ R.frames ∧ 8 + (5 + 11) + 40 * d2 ≤ R.locals) ∧ k + mc ≤ R.cells ∧ n + ms ≤ R.slots) (kk : ∀ (r : Option AV) (sz' : Nat) (m' : Mem), P r sz' m' → V G y R Qf pc' L (r.toList ++ st) sz' m' (k + mc) (n + ms)) : V G y R Qf pc L (x1 :: x0 :: .inr (some a) :: st) sz m k n := V.callV (args2 := [x0, x1]) h hl ca_X5_page gm_X5_page ge_X5_page rfl rfl ok hm rfl h8 hr kk
theorem ca_X5_asNumber : callee kX5_asNumber 1 := ⟨gc_X5_asNumber, gi_RX5, ⟨by decide, by decide⟩, by decide +kernel⟩
theorem call_X5_asNumber {G : GX} {y : MK} {R : Room} {Qf : QF} {pc pc' : Nat} {L : List (Option AV)} {st : List AV} {sz : Nat} {m : Mem} {k n d2 mc ms idx : Nat} {x0 : AV} {P : PO} (h : At y pc (.invokestatic idx) 3 pc') (hl : Cond.methodLink y.1.cls idx yX5_asNumber ∈ GW) (ok : Ok G kX5_asNumber d2 [x0] sz m mc ms P) (h8 : st.length ≤ 8) (hr : (d2 + 1 ≤ R.frames ∧ 8 + (1 + 11) + 40 * d2 ≤ R.locals) ∧ k + mc ≤ R.cells ∧ n + ms ≤ R.slots) (kk : ∀ (r : Option AV) (sz' : Nat) (m' : Mem), P r sz' m' → V G y R Qf pc' L (r.toList ++ st) sz' m' (k + mc) (n + ms)) : V G y R Qf pc L (x0 :: st) sz m k n := V.callS (args2 := [x0]) h hl ca_X5_asNumber gs_X5_asNumber rfl ok rfl h8 hr kk
theorem ca_X5_stored : callee kX5_stored 2 := ⟨gc_X5_stored, gi_RX5, ⟨by decide, by decide⟩, by decide +kernel⟩
theorem call_X5_stored {G : GX} {y : MK} {R : Room} {Qf : QF} {pc pc' : Nat} {L : List (Option AV)} {st : List AV} {sz : Nat} {m : Mem} {k n d2 mc ms idx : Nat} {x0 x1 : AV} {P : PO} {a : Nat} {fs : List AV} (h : At y pc (.invokevirtual idx) 3 pc') (hl : Cond.methodLink y.1.cls idx yX5_stored ∈ GW) (ok : Ok G kX5_stored d2 [.inr (some a), x0, x1] sz m mc ms P) (hm : m a = obj 5 fs) (h8 : st.length ≤ 8) (hr : (d2 + 1 ≤ R.frames ∧ 8 + (3 + 11) + 40 * d2 ≤ R.locals) ∧ k + mc ≤ R.cells ∧ n + ms ≤ R.slots) (kk : ∀ (r : Option AV) (sz' : Nat) (m' : Mem), P r sz' m' → V G y R Qf pc' L (r.toList ++ st) sz' m' (k + mc) (n + ms)) : V G y R Qf pc L (x1 :: x0 :: .inr (some a) :: st) sz m k n := V.callV (args2 := [x0, x1]) h hl ca_X5_stored gm_X5_stored ge_X5_stored rfl rfl ok hm rfl h8 hr kk
theorem ca_X5_entry : callee kX5_entry 2 := ⟨gc_X5_entry, gi_RX5, ⟨by decide, by decide⟩, by decide +kernel⟩
theorem call_X5_entry {G : GX} {y : MK} {R : Room} {Qf : QF} {pc pc' : Nat} {L : List (Option AV)} {st : List AV} {sz : Nat} {m : Mem} {k n d2 mc ms idx : Nat} {x0 x1 : AV} {P : PO} {a : Nat} {fs : List AV} (h : At y pc (.invokevirtual idx) 3 pc') (hl : Cond.methodLink y.1.cls idx yX5_entry ∈ GW) (ok : Ok G kX5_entry d2 [.inr (some a), x0, x1] sz m mc ms P) (hm : m a = obj 5 fs) (h8 : st.length ≤ 8) (hr : (d2 + 1 ≤ R.frames ∧ 8 + (4 + 11) + 40 * d2 ≤ R.locals) ∧ k + mc ≤ R.cells ∧ n + ms ≤ R.slots) (kk : ∀ (r : Option AV) (sz' : Nat) (m' : Mem), P r sz' m' → V G y R Qf pc' L (r.toList ++ st) sz' m' (k + mc) (n + ms)) : V G y R Qf pc L (x1 :: x0 :: .inr (some a) :: st) sz m k n := V.callV (args2 := [x0, x1]) h hl ca_X5_entry gm_X5_entry ge_X5_entry rfl rfl ok hm rfl h8 hr kk
theorem ca_X5_asOf : callee kX5_asOf 3 := ⟨gc_X5_asOf, gi_RX5, ⟨by decide, by decide⟩, by decide +kernel⟩
theorem call_X5_asOf {G : GX} {y : MK} {R : Room} {Qf : QF} {pc pc' : Nat} {L : List (Option AV)} {st : List AV} {sz : Nat} {m : Mem} {k n d2 mc ms idx : Nat} {x0 x1 x2 : AV} {P : PO} {a : Nat} {fs : List AV} (h : At y pc (.invokevirtual idx) 3 pc') (hl : Cond.methodLink y.1.cls idx yX5_asOf ∈ GW) (ok : Ok G kX5_asOf d2 [.inr (some a), x0, x1, x2] sz m mc ms P) (hm : m a = obj 5 fs) (h8 : st.length ≤ 8) (hr : (d2 + 1 ≤ R.frames ∧ 8 + (5 + 11) + 40 * d2 ≤ R.locals) ∧ k + mc ≤ R.cells ∧ n + ms ≤ R.slots) (kk : ∀ (r : Option AV) (sz' : Nat) (m' : Mem), P r sz' m' → V G y R Qf pc' L (r.toList ++ st) sz' m' (k + mc) (n + ms)) : V G y R Qf pc L (x2 :: x1 :: x0 :: .inr (some a) :: st) sz m k n := V.callV (args2 := [x0, x1, x2]) h hl ca_X5_asOf gm_X5_asOf ge_X5_asOf rfl rfl ok hm rfl h8 hr kk
theorem ca_X4_bringBackAsOf : callee kX4_bringBackAsOf 3 := ⟨gc_X4_bringBackAsOf, gi_RX4, ⟨by decide, by decide⟩, by decide +kernel⟩
theorem call_X4_bringBackAsOf {G : GX} {y : MK} {R : Room} {Qf : QF} {pc pc' : Nat} {L : List (Option AV)} {st : List AV} {sz : Nat} {m : Mem} {k n d2 mc ms idx : Nat} {x0 x1 x2 : AV} {P : PO} {a : Nat} {fs : List AV} (h : At y pc (.invokevirtual idx) 3 pc') (hl : Cond.methodLink y.1.cls idx yX4_bringBackAsOf ∈ GW) (ok : Ok G kX4_bringBackAsOf d2 [.inr (some a), x0, x1, x2] sz m mc ms P) (hm : m a = obj 4 fs) (h8 : st.length ≤ 8) (hr : (d2 + 1 ≤ R.frames ∧ 8 + (5 + 11) + 40 * d2 ≤ R.locals) ∧ k + mc ≤ R.cells ∧ n + ms ≤ R.slots) (kk : ∀ (r : Option AV) (sz' : Nat) (m' : Mem), P r sz' m' → V G y R Qf pc' L (r.toList ++ st) sz' m' (k + mc) (n + ms)) : V G y R Qf pc L (x2 :: x1 :: x0 :: .inr (some a) :: st) sz m k n := V.callV (args2 := [x0, x1, x2]) h hl ca_X4_bringBackAsOf gm_X4_bringBackAsOf ge_X4_bringBackAsOf rfl rfl ok hm rfl h8 hr kk
theorem ca_X1_latestPicture : callee kX1_latestPicture 2 := ⟨gc_X1_latestPicture, gi_RX1, ⟨by decide, by decide⟩, by decide +kernel⟩
theorem call_X1_latestPicture {G : GX} {y : MK} {R : Room} {Qf : QF} {pc pc' : Nat} {L : List (Option AV)} {st : List AV} {sz : Nat} {m : Mem} {k n d2 mc ms idx : Nat} {x0 x1 : AV} {P : PO} {a : Nat} {fs : List AV} (h : At y pc (.invokevirtual idx) 3 pc') (hl : Cond.methodLink y.1.cls idx yX1_latestPicture ∈ GW) (ok : Ok G kX1_latestPicture d2 [.inr (some a), x0, x1] sz m mc ms P) (hm : m a = obj 1 fs) (h8 : st.length ≤ 8) (hr : (d2 + 1 ≤ R.frames ∧ 8 + (5 + 11) + 40 * d2 ≤ R.locals) ∧ k + mc ≤ R.cells ∧ n + ms ≤ R.slots) (kk : ∀ (r : Option AV) (sz' : Nat) (m' : Mem), P r sz' m' → V G y R Qf pc' L (r.toList ++ st) sz' m' (k + mc) (n + ms)) : V G y R Qf pc L (x1 :: x0 :: .inr (some a) :: st) sz m k n := V.callV (args2 := [x0, x1]) h hl ca_X1_latestPicture gm_X1_latestPicture ge_X1_latestPicture rfl rfl ok hm rfl h8 hr kk
theorem ca_X5_wouldLog : callee kX5_wouldLog 2 := ⟨gc_X5_wouldLog, gi_RX5, ⟨by decide, by decide⟩, by decide +kernel⟩
theorem call_X5_wouldLog {G : GX} {y : MK} {R : Room} {Qf : QF} {pc pc' : Nat} {L : List (Option AV)} {st : List AV} {sz : Nat} {m : Mem} {k n d2 mc ms idx : Nat} {x0 x1 : AV} {P : PO} {a : Nat} {fs : List AV} (h : At y pc (.invokevirtual idx) 3 pc') (hl : Cond.methodLink y.1.cls idx yX5_wouldLog ∈ GW) (ok : Ok G kX5_wouldLog d2 [.inr (some a), x0, x1] sz m mc ms P) (hm : m a = obj 5 fs) (h8 : st.length ≤ 8) (hr : (d2 + 1 ≤ R.frames ∧ 8 + (4 + 11) + 40 * d2 ≤ R.locals) ∧ k + mc ≤ R.cells ∧ n + ms ≤ R.slots) (kk : ∀ (r : Option AV) (sz' : Nat) (m' : Mem), P r sz' m' → V G y R Qf pc' L (r.toList ++ st) sz' m' (k + mc) (n + ms)) : V G y R Qf pc L (x1 :: x0 :: .inr (some a) :: st) sz m k n := V.callV (args2 := [x0, x1]) h hl ca_X5_wouldLog gm_X5_wouldLog ge_X5_wouldLog rfl rfl ok hm rfl h8 hr kk
theorem ca_X5_bestRenewed : callee kX5_bestRenewed 0 := ⟨gc_X5_bestRenewed, gi_RX5, ⟨by decide, by decide⟩, by decide +kernel⟩
theorem call_X5_bestRenewed {G : GX} {y : MK} {R : Room} {Qf : QF} {pc pc' : Nat} {L : List (Option AV)} {st : List AV} {sz : Nat} {m : Mem} {k n d2 mc ms idx : Nat} {P : PO} {a : Nat} {fs : List AV} (h : At y pc (.invokevirtual idx) 3 pc') (hl : Cond.methodLink y.1.cls idx yX5_bestRenewed ∈ GW) (ok : Ok G kX5_bestRenewed d2 [.inr (some a)] sz m mc ms P) (hm : m a = obj 5 fs) (h8 : st.length ≤ 8) (hr : (d2 + 1 ≤ R.frames ∧ 8 + (5 + 11) + 40 * d2 ≤ R.locals) ∧ k + mc ≤ R.cells ∧ n + ms ≤ R.slots) (kk : ∀ (r : Option AV) (sz' : Nat) (m' : Mem), P r sz' m' → V G y R Qf pc' L (r.toList ++ st) sz' m' (k + mc) (n + ms)) : V G y R Qf pc L (.inr (some a) :: st) sz m k n := V.callV (args2 := []) h hl ca_X5_bestRenewed gm_X5_bestRenewed ge_X5_bestRenewed rfl rfl ok hm rfl h8 hr kk
theorem ca_X5_count : callee kX5_count 1 := ⟨gc_X5_count, gi_RX5, ⟨by decide, by decide⟩, by decide +kernel⟩
theorem call_X5_count {G : GX} {y : MK} {R : Room} {Qf : QF} {pc pc' : Nat} {L : List (Option AV)} {st : List AV} {sz : Nat} {m : Mem} {k n d2 mc ms idx : Nat} {x0 : AV} {P : PO} {a : Nat} {fs : List AV} (h : At y pc (.invokevirtual idx) 3 pc') (hl : Cond.methodLink y.1.cls idx yX5_count ∈ GW) (ok : Ok G kX5_count d2 [.inr (some a), x0] sz m mc ms P) (hm : m a = obj 5 fs) (h8 : st.length ≤ 8) (hr : (d2 + 1 ≤ R.frames ∧ 8 + (2 + 11) + 40 * d2 ≤ R.locals) ∧ k + mc ≤ R.cells ∧ n + ms ≤ R.slots) (kk : ∀ (r : Option AV) (sz' : Nat) (m' : Mem), P r sz' m' → V G y R Qf pc' L (r.toList ++ st) sz' m' (k + mc) (n + ms)) : V G y R Qf pc L (x0 :: .inr (some a) :: st) sz m k n := V.callV (args2 := [x0]) h hl ca_X5_count gm_X5_count ge_X5_count rfl rfl ok hm rfl h8 hr kk
theorem ca_X4_timeToRestoreAll : callee kX4_timeToRestoreAll 0 := ⟨gc_X4_timeToRestoreAll, gi_RX4, ⟨by decide, by decide⟩, by decide +kernel⟩
theorem call_X4_timeToRestoreAll {G : GX} {y : MK} {R : Room} {Qf : QF} {pc pc' : Nat} {L : List (Option AV)} {st : List AV} {sz : Nat} {m : Mem} {k n d2 mc ms idx : Nat} {P : PO} {a : Nat} {fs : List AV} (h : At y pc (.invokevirtual idx) 3 pc') (hl : Cond.methodLink y.1.cls idx yX4_timeToRestoreAll ∈ GW) (ok : Ok G kX4_timeToRestoreAll d2 [.inr (some a)] sz m mc ms P) (hm : m a = obj 4 fs) (h8 : st.length ≤ 8) (hr : (d2 + 1 ≤ R.frames ∧ 8 + (3 + 11) + 40 * d2 ≤ R.locals) ∧ k + mc ≤ R.cells ∧ n + ms ≤ R.slots) (kk : ∀ (r : Option AV) (sz' : Nat) (m' : Mem), P r sz' m' → V G y R Qf pc' L (r.toList ++ st) sz' m' (k + mc) (n + ms)) : V G y R Qf pc L (.inr (some a) :: st) sz m k n := V.callV (args2 := []) h hl ca_X4_timeToRestoreAll gm_X4_timeToRestoreAll ge_X4_timeToRestoreAll rfl rfl ok hm rfl h8 hr kk
theorem ca_X4_doubtfulPages : callee kX4_doubtfulPages 0 := ⟨gc_X4_doubtfulPages, gi_RX4, ⟨by decide, by decide⟩, by decide +kernel⟩
theorem call_X4_doubtfulPages {G : GX} {y : MK} {R : Room} {Qf : QF} {pc pc' : Nat} {L : List (Option AV)} {st : List AV} {sz : Nat} {m : Mem} {k n d2 mc ms idx : Nat} {P : PO} {a : Nat} {fs : List AV} (h : At y pc (.invokevirtual idx) 3 pc') (hl : Cond.methodLink y.1.cls idx yX4_doubtfulPages ∈ GW) (ok : Ok G kX4_doubtfulPages d2 [.inr (some a)] sz m mc ms P) (hm : m a = obj 4 fs) (h8 : st.length ≤ 8) (hr : (d2 + 1 ≤ R.frames ∧ 8 + (3 + 11) + 40 * d2 ≤ R.locals) ∧ k + mc ≤ R.cells ∧ n + ms ≤ R.slots) (kk : ∀ (r : Option AV) (sz' : Nat) (m' : Mem), P r sz' m' → V G y R Qf pc' L (r.toList ++ st) sz' m' (k + mc) (n + ms)) : V G y R Qf pc L (.inr (some a) :: st) sz m k n := V.callV (args2 := []) h hl ca_X4_doubtfulPages gm_X4_doubtfulPages ge_X4_doubtfulPages rfl rfl ok hm rfl h8 hr kk
theorem ca_X6_init : callee kX6_init 0 := ⟨gc_X6_init, gi_RX6, ⟨by decide, by decide⟩, by decide +kernel⟩
theorem call_X6_init {G : GX} {y : MK} {R : Room} {Qf : QF} {pc pc' : Nat} {L : List (Option AV)} {st : List AV} {sz : Nat} {m : Mem} {k n d2 mc ms idx : Nat} {P : PO} {a : Nat} (h : At y pc (.invokespecial idx) 3 pc') (hl : Cond.methodLink y.1.cls idx yX6_init ∈ GW) (ok : Ok G kX6_init d2 [.inr (some a)] sz m mc ms P) (h8 : st.length ≤ 8) (hr : (d2 + 1 ≤ R.frames ∧ 8 + (2 + 11) + 40 * d2 ≤ R.locals) ∧ k + mc ≤ R.cells ∧ n + ms ≤ R.slots) (kk : ∀ (r : Option AV) (sz' : Nat) (m' : Mem), P r sz' m' → V G y R Qf pc' L (r.toList ++ st) sz' m' (k + mc) (n + ms)) : V G y R Qf pc L (.inr (some a) :: st) sz m k n := V.callI (args2 := []) h hl ca_X6_init gm_X6_init rfl rfl rfl ok rfl h8 hr kk
theorem ca_X6_undo : callee kX6_undo 0 := ⟨gc_X6_undo, gi_RX6, ⟨by decide, by decide⟩, by decide +kernel⟩
theorem call_X6_undo {G : GX} {y : MK} {R : Room} {Qf : QF} {pc pc' : Nat} {L : List (Option AV)} {st : List AV} {sz : Nat} {m : Mem} {k n d2 mc ms idx : Nat} {P : PO} {a : Nat} {fs : List AV} (h : At y pc (.invokevirtual idx) 3 pc') (hl : Cond.methodLink y.1.cls idx yX6_undo ∈ GW) (ok : Ok G kX6_undo d2 [.inr (some a)] sz m mc ms P) (hm : m a = obj 6 fs) (h8 : st.length ≤ 8) (hr : (d2 + 1 ≤ R.frames ∧ 8 + (1 + 11) + 40 * d2 ≤ R.locals) ∧ k + mc ≤ R.cells ∧ n + ms ≤ R.slots) (kk : ∀ (r : Option AV) (sz' : Nat) (m' : Mem), P r sz' m' → V G y R Qf pc' L (r.toList ++ st) sz' m' (k + mc) (n + ms)) : V G y R Qf pc L (.inr (some a) :: st) sz m k n := V.callV (args2 := []) h hl ca_X6_undo gm_X6_undo ge_X6_undo rfl rfl ok hm rfl h8 hr kk
theorem ca_X6_lays : callee kX6_lays 4 := ⟨gc_X6_lays, gi_RX6, ⟨by decide, by decide⟩, by decide +kernel⟩
theorem call_X6_lays {G : GX} {y : MK} {R : Room} {Qf : QF} {pc pc' : Nat} {L : List (Option AV)} {st : List AV} {sz : Nat} {m : Mem} {k n d2 mc ms idx : Nat} {x0 x1 x2 x3 : AV} {P : PO} (h : At y pc (.invokestatic idx) 3 pc') (hl : Cond.methodLink y.1.cls idx yX6_lays ∈ GW) (ok : Ok G kX6_lays d2 [x0, x1, x2, x3] sz m mc ms P) (h8 : st.length ≤ 8) (hr : (d2 + 1 ≤ R.frames ∧ 8 + (5 + 11) + 40 * d2 ≤ R.locals) ∧ k + mc ≤ R.cells ∧ n + ms ≤ R.slots) (kk : ∀ (r : Option AV) (sz' : Nat) (m' : Mem), P r sz' m' → V G y R Qf pc' L (r.toList ++ st) sz' m' (k + mc) (n + ms)) : V G y R Qf pc L (x3 :: x2 :: x1 :: x0 :: st) sz m k n := V.callS (args2 := [x0, x1, x2, x3]) h hl ca_X6_lays gs_X6_lays rfl ok rfl h8 hr kk
theorem ca_X6_keep : callee kX6_keep 0 := ⟨gc_X6_keep, gi_RX6, ⟨by decide, by decide⟩, by decide +kernel⟩
theorem call_X6_keep {G : GX} {y : MK} {R : Room} {Qf : QF} {pc pc' : Nat} {L : List (Option AV)} {st : List AV} {sz : Nat} {m : Mem} {k n d2 mc ms idx : Nat} {P : PO} {a : Nat} {fs : List AV} (h : At y pc (.invokevirtual idx) 3 pc') (hl : Cond.methodLink y.1.cls idx yX6_keep ∈ GW) (ok : Ok G kX6_keep d2 [.inr (some a)] sz m mc ms P) (hm : m a = obj 6 fs) (h8 : st.length ≤ 8) (hr : (d2 + 1 ≤ R.frames ∧ 8 + (1 + 11) + 40 * d2 ≤ R.locals) ∧ k + mc ≤ R.cells ∧ n + ms ≤ R.slots) (kk : ∀ (r : Option AV) (sz' : Nat) (m' : Mem), P r sz' m' → V G y R Qf pc' L (r.toList ++ st) sz' m' (k + mc) (n + ms)) : V G y R Qf pc L (.inr (some a) :: st) sz m k n := V.callV (args2 := []) h hl ca_X6_keep gm_X6_keep ge_X6_keep rfl rfl ok hm rfl h8 hr kk
theorem ca_X6_restore : callee kX6_restore 0 := ⟨gc_X6_restore, gi_RX6, ⟨by decide, by decide⟩, by decide +kernel⟩
theorem call_X6_restore {G : GX} {y : MK} {R : Room} {Qf : QF} {pc pc' : Nat} {L : List (Option AV)} {st : List AV} {sz : Nat} {m : Mem} {k n d2 mc ms idx : Nat} {P : PO} {a : Nat} {fs : List AV} (h : At y pc (.invokevirtual idx) 3 pc') (hl : Cond.methodLink y.1.cls idx yX6_restore ∈ GW) (ok : Ok G kX6_restore d2 [.inr (some a)] sz m mc ms P) (hm : m a = obj 6 fs) (h8 : st.length ≤ 8) (hr : (d2 + 1 ≤ R.frames ∧ 8 + (1 + 11) + 40 * d2 ≤ R.locals) ∧ k + mc ≤ R.cells ∧ n + ms ≤ R.slots) (kk : ∀ (r : Option AV) (sz' : Nat) (m' : Mem), P r sz' m' → V G y R Qf pc' L (r.toList ++ st) sz' m' (k + mc) (n + ms)) : V G y R Qf pc L (.inr (some a) :: st) sz m k n := V.callV (args2 := []) h hl ca_X6_restore gm_X6_restore ge_X6_restore rfl rfl ok hm rfl h8 hr kk
theorem ca_X6_records : callee kX6_records 1 := ⟨gc_X6_records, gi_RX6, ⟨by decide, by decide⟩, by decide +kernel⟩
theorem call_X6_records {G : GX} {y : MK} {R : Room} {Qf : QF} {pc pc' : Nat} {L : List (Option AV)} {st : List AV} {sz : Nat} {m : Mem} {k n d2 mc ms idx : Nat} {x0 : AV} {P : PO} {a : Nat} {fs : List AV} (h : At y pc (.invokevirtual idx) 3 pc') (hl : Cond.methodLink y.1.cls idx yX6_records ∈ GW) (ok : Ok G kX6_records d2 [.inr (some a), x0] sz m mc ms P) (hm : m a = obj 6 fs) (h8 : st.length ≤ 8) (hr : (d2 + 1 ≤ R.frames ∧ 8 + (3 + 11) + 40 * d2 ≤ R.locals) ∧ k + mc ≤ R.cells ∧ n + ms ≤ R.slots) (kk : ∀ (r : Option AV) (sz' : Nat) (m' : Mem), P r sz' m' → V G y R Qf pc' L (r.toList ++ st) sz' m' (k + mc) (n + ms)) : V G y R Qf pc L (x0 :: .inr (some a) :: st) sz m k n := V.callV (args2 := [x0]) h hl ca_X6_records gm_X6_records ge_X6_records rfl rfl ok hm rfl h8 hr kk
theorem ca_X6_fill : callee kX6_fill 4 := ⟨gc_X6_fill, gi_RX6, ⟨by decide, by decide⟩, by decide +kernel⟩
theorem call_X6_fill {G : GX} {y : MK} {R : Room} {Qf : QF} {pc pc' : Nat} {L : List (Option AV)} {st : List AV} {sz : Nat} {m : Mem} {k n d2 mc ms idx : Nat} {x0 x1 x2 x3 : AV} {P : PO} {a : Nat} {fs : List AV} (h : At y pc (.invokevirtual idx) 3 pc') (hl : Cond.methodLink y.1.cls idx yX6_fill ∈ GW) (ok : Ok G kX6_fill d2 [.inr (some a), x0, x1, x2, x3] sz m mc ms P) (hm : m a = obj 6 fs) (h8 : st.length ≤ 8) (hr : (d2 + 1 ≤ R.frames ∧ 8 + (5 + 11) + 40 * d2 ≤ R.locals) ∧ k + mc ≤ R.cells ∧ n + ms ≤ R.slots) (kk : ∀ (r : Option AV) (sz' : Nat) (m' : Mem), P r sz' m' → V G y R Qf pc' L (r.toList ++ st) sz' m' (k + mc) (n + ms)) : V G y R Qf pc L (x3 :: x2 :: x1 :: x0 :: .inr (some a) :: st) sz m k n := V.callV (args2 := [x0, x1, x2, x3]) h hl ca_X6_fill gm_X6_fill ge_X6_fill rfl rfl ok hm rfl h8 hr kk
theorem ca_X6_isPage : callee kX6_isPage 1 := ⟨gc_X6_isPage, gi_RX6, ⟨by decide, by decide⟩, by decide +kernel⟩
theorem call_X6_isPage {G : GX} {y : MK} {R : Room} {Qf : QF} {pc pc' : Nat} {L : List (Option AV)} {st : List AV} {sz : Nat} {m : Mem} {k n d2 mc ms idx : Nat} {x0 : AV} {P : PO} (h : At y pc (.invokestatic idx) 3 pc') (hl : Cond.methodLink y.1.cls idx yX6_isPage ∈ GW) (ok : Ok G kX6_isPage d2 [x0] sz m mc ms P) (h8 : st.length ≤ 8) (hr : (d2 + 1 ≤ R.frames ∧ 8 + (1 + 11) + 40 * d2 ≤ R.locals) ∧ k + mc ≤ R.cells ∧ n + ms ≤ R.slots) (kk : ∀ (r : Option AV) (sz' : Nat) (m' : Mem), P r sz' m' → V G y R Qf pc' L (r.toList ++ st) sz' m' (k + mc) (n + ms)) : V G y R Qf pc L (x0 :: st) sz m k n := V.callS (args2 := [x0]) h hl ca_X6_isPage gs_X6_isPage rfl ok rfl h8 hr kk
theorem ca_X6_in : callee kX6_in 3 := ⟨gc_X6_in, gi_RX6, ⟨by decide, by decide⟩, by decide +kernel⟩
theorem call_X6_in {G : GX} {y : MK} {R : Room} {Qf : QF} {pc pc' : Nat} {L : List (Option AV)} {st : List AV} {sz : Nat} {m : Mem} {k n d2 mc ms idx : Nat} {x0 x1 x2 : AV} {P : PO} (h : At y pc (.invokestatic idx) 3 pc') (hl : Cond.methodLink y.1.cls idx yX6_in ∈ GW) (ok : Ok G kX6_in d2 [x0, x1, x2] sz m mc ms P) (h8 : st.length ≤ 8) (hr : (d2 + 1 ≤ R.frames ∧ 8 + (3 + 11) + 40 * d2 ≤ R.locals) ∧ k + mc ≤ R.cells ∧ n + ms ≤ R.slots) (kk : ∀ (r : Option AV) (sz' : Nat) (m' : Mem), P r sz' m' → V G y R Qf pc' L (r.toList ++ st) sz' m' (k + mc) (n + ms)) : V G y R Qf pc L (x2 :: x1 :: x0 :: st) sz m k n := V.callS (args2 := [x0, x1, x2]) h hl ca_X6_in gs_X6_in rfl ok rfl h8 hr kk
theorem ca_X6_isCell : callee kX6_isCell 1 := ⟨gc_X6_isCell, gi_RX6, ⟨by decide, by decide⟩, by decide +kernel⟩
theorem call_X6_isCell {G : GX} {y : MK} {R : Room} {Qf : QF} {pc pc' : Nat} {L : List (Option AV)} {st : List AV} {sz : Nat} {m : Mem} {k n d2 mc ms idx : Nat} {x0 : AV} {P : PO} (h : At y pc (.invokestatic idx) 3 pc') (hl : Cond.methodLink y.1.cls idx yX6_isCell ∈ GW) (ok : Ok G kX6_isCell d2 [x0] sz m mc ms P) (h8 : st.length ≤ 8) (hr : (d2 + 1 ≤ R.frames ∧ 8 + (1 + 11) + 40 * d2 ≤ R.locals) ∧ k + mc ≤ R.cells ∧ n + ms ≤ R.slots) (kk : ∀ (r : Option AV) (sz' : Nat) (m' : Mem), P r sz' m' → V G y R Qf pc' L (r.toList ++ st) sz' m' (k + mc) (n + ms)) : V G y R Qf pc L (x0 :: st) sz m k n := V.callS (args2 := [x0]) h hl ca_X6_isCell gs_X6_isCell rfl ok rfl h8 hr kk
theorem ca_X6_makes : callee kX6_makes 5 := ⟨gc_X6_makes, gi_RX6, ⟨by decide, by decide⟩, by decide +kernel⟩
theorem call_X6_makes {G : GX} {y : MK} {R : Room} {Qf : QF} {pc pc' : Nat} {L : List (Option AV)} {st : List AV} {sz : Nat} {m : Mem} {k n d2 mc ms idx : Nat} {x0 x1 x2 x3 x4 : AV} {P : PO} {a : Nat} {fs : List AV} (h : At y pc (.invokevirtual idx) 3 pc') (hl : Cond.methodLink y.1.cls idx yX6_makes ∈ GW) (ok : Ok G kX6_makes d2 [.inr (some a), x0, x1, x2, x3, x4] sz m mc ms P) (hm : m a = obj 6 fs) (h8 : st.length ≤ 8) (hr : (d2 + 1 ≤ R.frames ∧ 8 + (7 + 11) + 40 * d2 ≤ R.locals) ∧ k + mc ≤ R.cells ∧ n + ms ≤ R.slots) (kk : ∀ (r : Option AV) (sz' : Nat) (m' : Mem), P r sz' m' → V G y R Qf pc' L (r.toList ++ st) sz' m' (k + mc) (n + ms)) : V G y R Qf pc L (x4 :: x3 :: x2 :: x1 :: x0 :: .inr (some a) :: st) sz m k n := V.callV (args2 := [x0, x1, x2, x3, x4]) h hl ca_X6_makes gm_X6_makes ge_X6_makes rfl rfl ok hm rfl h8 hr kk
theorem ca_X6_acts : callee kX6_acts 0 := ⟨gc_X6_acts, gi_RX6, ⟨by decide, by decide⟩, by decide +kernel⟩
theorem call_X6_acts {G : GX} {y : MK} {R : Room} {Qf : QF} {pc pc' : Nat} {L : List (Option AV)} {st : List AV} {sz : Nat} {m : Mem} {k n d2 mc ms idx : Nat} {P : PO} {a : Nat} {fs : List AV} (h : At y pc (.invokevirtual idx) 3 pc') (hl : Cond.methodLink y.1.cls idx yX6_acts ∈ GW) (ok : Ok G kX6_acts d2 [.inr (some a)] sz m mc ms P) (hm : m a = obj 6 fs) (h8 : st.length ≤ 8) (hr : (d2 + 1 ≤ R.frames ∧ 8 + (1 + 11) + 40 * d2 ≤ R.locals) ∧ k + mc ≤ R.cells ∧ n + ms ≤ R.slots) (kk : ∀ (r : Option AV) (sz' : Nat) (m' : Mem), P r sz' m' → V G y R Qf pc' L (r.toList ++ st) sz' m' (k + mc) (n + ms)) : V G y R Qf pc L (.inr (some a) :: st) sz m k n := V.callV (args2 := []) h hl ca_X6_acts gm_X6_acts ge_X6_acts rfl rfl ok hm rfl h8 hr kk
theorem ca_X6_chooses : callee kX6_chooses 0 := ⟨gc_X6_chooses, gi_RX6, ⟨by decide, by decide⟩, by decide +kernel⟩
theorem call_X6_chooses {G : GX} {y : MK} {R : Room} {Qf : QF} {pc pc' : Nat} {L : List (Option AV)} {st : List AV} {sz : Nat} {m : Mem} {k n d2 mc ms idx : Nat} {P : PO} {a : Nat} {fs : List AV} (h : At y pc (.invokevirtual idx) 3 pc') (hl : Cond.methodLink y.1.cls idx yX6_chooses ∈ GW) (ok : Ok G kX6_chooses d2 [.inr (some a)] sz m mc ms P) (hm : m a = obj 6 fs) (h8 : st.length ≤ 8) (hr : (d2 + 1 ≤ R.frames ∧ 8 + (4 + 11) + 40 * d2 ≤ R.locals) ∧ k + mc ≤ R.cells ∧ n + ms ≤ R.slots) (kk : ∀ (r : Option AV) (sz' : Nat) (m' : Mem), P r sz' m' → V G y R Qf pc' L (r.toList ++ st) sz' m' (k + mc) (n + ms)) : V G y R Qf pc L (.inr (some a) :: st) sz m k n := V.callV (args2 := []) h hl ca_X6_chooses gm_X6_chooses ge_X6_chooses rfl rfl ok hm rfl h8 hr kk
theorem ca_X6_holds : callee kX6_holds 2 := ⟨gc_X6_holds, gi_RX6, ⟨by decide, by decide⟩, by decide +kernel⟩
theorem call_X6_holds {G : GX} {y : MK} {R : Room} {Qf : QF} {pc pc' : Nat} {L : List (Option AV)} {st : List AV} {sz : Nat} {m : Mem} {k n d2 mc ms idx : Nat} {x0 x1 : AV} {P : PO} {a : Nat} {fs : List AV} (h : At y pc (.invokevirtual idx) 3 pc') (hl : Cond.methodLink y.1.cls idx yX6_holds ∈ GW) (ok : Ok G kX6_holds d2 [.inr (some a), x0, x1] sz m mc ms P) (hm : m a = obj 6 fs) (h8 : st.length ≤ 8) (hr : (d2 + 1 ≤ R.frames ∧ 8 + (4 + 11) + 40 * d2 ≤ R.locals) ∧ k + mc ≤ R.cells ∧ n + ms ≤ R.slots) (kk : ∀ (r : Option AV) (sz' : Nat) (m' : Mem), P r sz' m' → V G y R Qf pc' L (r.toList ++ st) sz' m' (k + mc) (n + ms)) : V G y R Qf pc L (x1 :: x0 :: .inr (some a) :: st) sz m k n := V.callV (args2 := [x0, x1]) h hl ca_X6_holds gm_X6_holds ge_X6_holds rfl rfl ok hm rfl h8 hr kk
theorem ca_X6_timeOf : callee kX6_timeOf 1 := ⟨gc_X6_timeOf, gi_RX6, ⟨by decide, by decide⟩, by decide +kernel⟩
theorem call_X6_timeOf {G : GX} {y : MK} {R : Room} {Qf : QF} {pc pc' : Nat} {L : List (Option AV)} {st : List AV} {sz : Nat} {m : Mem} {k n d2 mc ms idx : Nat} {x0 : AV} {P : PO} {a : Nat} {fs : List AV} (h : At y pc (.invokevirtual idx) 3 pc') (hl : Cond.methodLink y.1.cls idx yX6_timeOf ∈ GW) (ok : Ok G kX6_timeOf d2 [.inr (some a), x0] sz m mc ms P) (hm : m a = obj 6 fs) (h8 : st.length ≤ 8) (hr : (d2 + 1 ≤ R.frames ∧ 8 + (4 + 11) + 40 * d2 ≤ R.locals) ∧ k + mc ≤ R.cells ∧ n + ms ≤ R.slots) (kk : ∀ (r : Option AV) (sz' : Nat) (m' : Mem), P r sz' m' → V G y R Qf pc' L (r.toList ++ st) sz' m' (k + mc) (n + ms)) : V G y R Qf pc L (x0 :: .inr (some a) :: st) sz m k n := V.callV (args2 := [x0]) h hl ca_X6_timeOf gm_X6_timeOf ge_X6_timeOf rfl rfl ok hm rfl h8 hr kk
theorem ca_X6_start : callee kX6_start 2 := ⟨gc_X6_start, gi_RX6, ⟨by decide, by decide⟩, by decide +kernel⟩
theorem call_X6_start {G : GX} {y : MK} {R : Room} {Qf : QF} {pc pc' : Nat} {L : List (Option AV)} {st : List AV} {sz : Nat} {m : Mem} {k n d2 mc ms idx : Nat} {x0 x1 : AV} {P : PO} {a : Nat} {fs : List AV} (h : At y pc (.invokevirtual idx) 3 pc') (hl : Cond.methodLink y.1.cls idx yX6_start ∈ GW) (ok : Ok G kX6_start d2 [.inr (some a), x0, x1] sz m mc ms P) (hm : m a = obj 6 fs) (h8 : st.length ≤ 8) (hr : (d2 + 1 ≤ R.frames ∧ 8 + (5 + 11) + 40 * d2 ≤ R.locals) ∧ k + mc ≤ R.cells ∧ n + ms ≤ R.slots) (kk : ∀ (r : Option AV) (sz' : Nat) (m' : Mem), P r sz' m' → V G y R Qf pc' L (r.toList ++ st) sz' m' (k + mc) (n + ms)) : V G y R Qf pc L (x1 :: x0 :: .inr (some a) :: st) sz m k n := V.callV (args2 := [x0, x1]) h hl ca_X6_start gm_X6_start ge_X6_start rfl rfl ok hm rfl h8 hr kk
theorem ca_X6_of : callee kX6_of 2 := ⟨gc_X6_of, gi_RX6, ⟨by decide, by decide⟩, by decide +kernel⟩
theorem call_X6_of {G : GX} {y : MK} {R : Room} {Qf : QF} {pc pc' : Nat} {L : List (Option AV)} {st : List AV} {sz : Nat} {m : Mem} {k n d2 mc ms idx : Nat} {x0 x1 : AV} {P : PO} {a : Nat} {fs : List AV} (h : At y pc (.invokevirtual idx) 3 pc') (hl : Cond.methodLink y.1.cls idx yX6_of ∈ GW) (ok : Ok G kX6_of d2 [.inr (some a), x0, x1] sz m mc ms P) (hm : m a = obj 6 fs) (h8 : st.length ≤ 8) (hr : (d2 + 1 ≤ R.frames ∧ 8 + (3 + 11) + 40 * d2 ≤ R.locals) ∧ k + mc ≤ R.cells ∧ n + ms ≤ R.slots) (kk : ∀ (r : Option AV) (sz' : Nat) (m' : Mem), P r sz' m' → V G y R Qf pc' L (r.toList ++ st) sz' m' (k + mc) (n + ms)) : V G y R Qf pc L (x1 :: x0 :: .inr (some a) :: st) sz m k n := V.callV (args2 := [x0, x1]) h hl ca_X6_of gm_X6_of ge_X6_of rfl rfl ok hm rfl h8 hr kk
theorem ca_X6_at : callee kX6_at 1 := ⟨gc_X6_at, gi_RX6, ⟨by decide, by decide⟩, by decide +kernel⟩
theorem call_X6_at {G : GX} {y : MK} {R : Room} {Qf : QF} {pc pc' : Nat} {L : List (Option AV)} {st : List AV} {sz : Nat} {m : Mem} {k n d2 mc ms idx : Nat} {x0 : AV} {P : PO} {a : Nat} {fs : List AV} (h : At y pc (.invokevirtual idx) 3 pc') (hl : Cond.methodLink y.1.cls idx yX6_at ∈ GW) (ok : Ok G kX6_at d2 [.inr (some a), x0] sz m mc ms P) (hm : m a = obj 6 fs) (h8 : st.length ≤ 8) (hr : (d2 + 1 ≤ R.frames ∧ 8 + (2 + 11) + 40 * d2 ≤ R.locals) ∧ k + mc ≤ R.cells ∧ n + ms ≤ R.slots) (kk : ∀ (r : Option AV) (sz' : Nat) (m' : Mem), P r sz' m' → V G y R Qf pc' L (r.toList ++ st) sz' m' (k + mc) (n + ms)) : V G y R Qf pc L (x0 :: .inr (some a) :: st) sz m k n := V.callV (args2 := [x0]) h hl ca_X6_at gm_X6_at ge_X6_at rfl rfl ok hm rfl h8 hr kk
theorem ca_X6_needs : callee kX6_needs 3 := ⟨gc_X6_needs, gi_RX6, ⟨by decide, by decide⟩, by decide +kernel⟩
theorem call_X6_needs {G : GX} {y : MK} {R : Room} {Qf : QF} {pc pc' : Nat} {L : List (Option AV)} {st : List AV} {sz : Nat} {m : Mem} {k n d2 mc ms idx : Nat} {x0 x1 x2 : AV} {P : PO} {a : Nat} {fs : List AV} (h : At y pc (.invokevirtual idx) 3 pc') (hl : Cond.methodLink y.1.cls idx yX6_needs ∈ GW) (ok : Ok G kX6_needs d2 [.inr (some a), x0, x1, x2] sz m mc ms P) (hm : m a = obj 6 fs) (h8 : st.length ≤ 8) (hr : (d2 + 1 ≤ R.frames ∧ 8 + (4 + 11) + 40 * d2 ≤ R.locals) ∧ k + mc ≤ R.cells ∧ n + ms ≤ R.slots) (kk : ∀ (r : Option AV) (sz' : Nat) (m' : Mem), P r sz' m' → V G y R Qf pc' L (r.toList ++ st) sz' m' (k + mc) (n + ms)) : V G y R Qf pc L (x2 :: x1 :: x0 :: .inr (some a) :: st) sz m k n := V.callV (args2 := [x0, x1, x2]) h hl ca_X6_needs gm_X6_needs ge_X6_needs rfl rfl ok hm rfl h8 hr kk
theorem ca_X6_timeAt : callee kX6_timeAt 2 := ⟨gc_X6_timeAt, gi_RX6, ⟨by decide, by decide⟩, by decide +kernel⟩
theorem call_X6_timeAt {G : GX} {y : MK} {R : Room} {Qf : QF} {pc pc' : Nat} {L : List (Option AV)} {st : List AV} {sz : Nat} {m : Mem} {k n d2 mc ms idx : Nat} {x0 x1 : AV} {P : PO} (h : At y pc (.invokestatic idx) 3 pc') (hl : Cond.methodLink y.1.cls idx yX6_timeAt ∈ GW) (ok : Ok G kX6_timeAt d2 [x0, x1] sz m mc ms P) (h8 : st.length ≤ 8) (hr : (d2 + 1 ≤ R.frames ∧ 8 + (3 + 11) + 40 * d2 ≤ R.locals) ∧ k + mc ≤ R.cells ∧ n + ms ≤ R.slots) (kk : ∀ (r : Option AV) (sz' : Nat) (m' : Mem), P r sz' m' → V G y R Qf pc' L (r.toList ++ st) sz' m' (k + mc) (n + ms)) : V G y R Qf pc L (x1 :: x0 :: st) sz m k n := V.callS (args2 := [x0, x1]) h hl ca_X6_timeAt gs_X6_timeAt rfl ok rfl h8 hr kk
theorem ca_X6_sizeAt : callee kX6_sizeAt 2 := ⟨gc_X6_sizeAt, gi_RX6, ⟨by decide, by decide⟩, by decide +kernel⟩
theorem call_X6_sizeAt {G : GX} {y : MK} {R : Room} {Qf : QF} {pc pc' : Nat} {L : List (Option AV)} {st : List AV} {sz : Nat} {m : Mem} {k n d2 mc ms idx : Nat} {x0 x1 : AV} {P : PO} (h : At y pc (.invokestatic idx) 3 pc') (hl : Cond.methodLink y.1.cls idx yX6_sizeAt ∈ GW) (ok : Ok G kX6_sizeAt d2 [x0, x1] sz m mc ms P) (h8 : st.length ≤ 8) (hr : (d2 + 1 ≤ R.frames ∧ 8 + (2 + 11) + 40 * d2 ≤ R.locals) ∧ k + mc ≤ R.cells ∧ n + ms ≤ R.slots) (kk : ∀ (r : Option AV) (sz' : Nat) (m' : Mem), P r sz' m' → V G y R Qf pc' L (r.toList ++ st) sz' m' (k + mc) (n + ms)) : V G y R Qf pc L (x1 :: x0 :: st) sz m k n := V.callS (args2 := [x0, x1]) h hl ca_X6_sizeAt gs_X6_sizeAt rfl ok rfl h8 hr kk
theorem ca_X6_pictured : callee kX6_pictured 2 := ⟨gc_X6_pictured, gi_RX6, ⟨by decide, by decide⟩, by decide +kernel⟩
theorem call_X6_pictured {G : GX} {y : MK} {R : Room} {Qf : QF} {pc pc' : Nat} {L : List (Option AV)} {st : List AV} {sz : Nat} {m : Mem} {k n d2 mc ms idx : Nat} {x0 x1 : AV} {P : PO} (h : At y pc (.invokestatic idx) 3 pc') (hl : Cond.methodLink y.1.cls idx yX6_pictured ∈ GW) (ok : Ok G kX6_pictured d2 [x0, x1] sz m mc ms P) (h8 : st.length ≤ 8) (hr : (d2 + 1 ≤ R.frames ∧ 8 + (4 + 11) + 40 * d2 ≤ R.locals) ∧ k + mc ≤ R.cells ∧ n + ms ≤ R.slots) (kk : ∀ (r : Option AV) (sz' : Nat) (m' : Mem), P r sz' m' → V G y R Qf pc' L (r.toList ++ st) sz' m' (k + mc) (n + ms)) : V G y R Qf pc L (x1 :: x0 :: st) sz m k n := V.callS (args2 := [x0, x1]) h hl ca_X6_pictured gs_X6_pictured rfl ok rfl h8 hr kk
theorem ca_X6_applies : callee kX6_applies 2 := ⟨gc_X6_applies, gi_RX6, ⟨by decide, by decide⟩, by decide +kernel⟩
theorem call_X6_applies {G : GX} {y : MK} {R : Room} {Qf : QF} {pc pc' : Nat} {L : List (Option AV)} {st : List AV} {sz : Nat} {m : Mem} {k n d2 mc ms idx : Nat} {x0 x1 : AV} {P : PO} {a : Nat} {fs : List AV} (h : At y pc (.invokevirtual idx) 3 pc') (hl : Cond.methodLink y.1.cls idx yX6_applies ∈ GW) (ok : Ok G kX6_applies d2 [.inr (some a), x0, x1] sz m mc ms P) (hm : m a = obj 6 fs) (h8 : st.length ≤ 8) (hr : (d2 + 1 ≤ R.frames ∧ 8 + (6 + 11) + 40 * d2 ≤ R.locals) ∧ k + mc ≤ R.cells ∧ n + ms ≤ R.slots) (kk : ∀ (r : Option AV) (sz' : Nat) (m' : Mem), P r sz' m' → V G y R Qf pc' L (r.toList ++ st) sz' m' (k + mc) (n + ms)) : V G y R Qf pc L (x1 :: x0 :: .inr (some a) :: st) sz m k n := V.callV (args2 := [x0, x1]) h hl ca_X6_applies gm_X6_applies ge_X6_applies rfl rfl ok hm rfl h8 hr kk
theorem ca_X6_pictures : callee kX6_pictures 1 := ⟨gc_X6_pictures, gi_RX6, ⟨by decide, by decide⟩, by decide +kernel⟩
theorem call_X6_pictures {G : GX} {y : MK} {R : Room} {Qf : QF} {pc pc' : Nat} {L : List (Option AV)} {st : List AV} {sz : Nat} {m : Mem} {k n d2 mc ms idx : Nat} {x0 : AV} {P : PO} {a : Nat} {fs : List AV} (h : At y pc (.invokevirtual idx) 3 pc') (hl : Cond.methodLink y.1.cls idx yX6_pictures ∈ GW) (ok : Ok G kX6_pictures d2 [.inr (some a), x0] sz m mc ms P) (hm : m a = obj 6 fs) (h8 : st.length ≤ 8) (hr : (d2 + 1 ≤ R.frames ∧ 8 + (3 + 11) + 40 * d2 ≤ R.locals) ∧ k + mc ≤ R.cells ∧ n + ms ≤ R.slots) (kk : ∀ (r : Option AV) (sz' : Nat) (m' : Mem), P r sz' m' → V G y R Qf pc' L (r.toList ++ st) sz' m' (k + mc) (n + ms)) : V G y R Qf pc L (x0 :: .inr (some a) :: st) sz m k n := V.callV (args2 := [x0]) h hl ca_X6_pictures gm_X6_pictures ge_X6_pictures rfl rfl ok hm rfl h8 hr kk
theorem ca_X6_hasRoom : callee kX6_hasRoom 0 := ⟨gc_X6_hasRoom, gi_RX6, ⟨by decide, by decide⟩, by decide +kernel⟩
theorem call_X6_hasRoom {G : GX} {y : MK} {R : Room} {Qf : QF} {pc pc' : Nat} {L : List (Option AV)} {st : List AV} {sz : Nat} {m : Mem} {k n d2 mc ms idx : Nat} {P : PO} {a : Nat} {fs : List AV} (h : At y pc (.invokevirtual idx) 3 pc') (hl : Cond.methodLink y.1.cls idx yX6_hasRoom ∈ GW) (ok : Ok G kX6_hasRoom d2 [.inr (some a)] sz m mc ms P) (hm : m a = obj 6 fs) (h8 : st.length ≤ 8) (hr : (d2 + 1 ≤ R.frames ∧ 8 + (2 + 11) + 40 * d2 ≤ R.locals) ∧ k + mc ≤ R.cells ∧ n + ms ≤ R.slots) (kk : ∀ (r : Option AV) (sz' : Nat) (m' : Mem), P r sz' m' → V G y R Qf pc' L (r.toList ++ st) sz' m' (k + mc) (n + ms)) : V G y R Qf pc L (.inr (some a) :: st) sz m k n := V.callV (args2 := []) h hl ca_X6_hasRoom gm_X6_hasRoom ge_X6_hasRoom rfl rfl ok hm rfl h8 hr kk
theorem ca_X6_droppable : callee kX6_droppable 1 := ⟨gc_X6_droppable, gi_RX6, ⟨by decide, by decide⟩, by decide +kernel⟩
theorem call_X6_droppable {G : GX} {y : MK} {R : Room} {Qf : QF} {pc pc' : Nat} {L : List (Option AV)} {st : List AV} {sz : Nat} {m : Mem} {k n d2 mc ms idx : Nat} {x0 : AV} {P : PO} {a : Nat} {fs : List AV} (h : At y pc (.invokevirtual idx) 3 pc') (hl : Cond.methodLink y.1.cls idx yX6_droppable ∈ GW) (ok : Ok G kX6_droppable d2 [.inr (some a), x0] sz m mc ms P) (hm : m a = obj 6 fs) (h8 : st.length ≤ 8) (hr : (d2 + 1 ≤ R.frames ∧ 8 + (4 + 11) + 40 * d2 ≤ R.locals) ∧ k + mc ≤ R.cells ∧ n + ms ≤ R.slots) (kk : ∀ (r : Option AV) (sz' : Nat) (m' : Mem), P r sz' m' → V G y R Qf pc' L (r.toList ++ st) sz' m' (k + mc) (n + ms)) : V G y R Qf pc L (x0 :: .inr (some a) :: st) sz m k n := V.callV (args2 := [x0]) h hl ca_X6_droppable gm_X6_droppable ge_X6_droppable rfl rfl ok hm rfl h8 hr kk
theorem ca_X6_used : callee kX6_used 0 := ⟨gc_X6_used, gi_RX6, ⟨by decide, by decide⟩, by decide +kernel⟩
theorem call_X6_used {G : GX} {y : MK} {R : Room} {Qf : QF} {pc pc' : Nat} {L : List (Option AV)} {st : List AV} {sz : Nat} {m : Mem} {k n d2 mc ms idx : Nat} {P : PO} {a : Nat} {fs : List AV} (h : At y pc (.invokevirtual idx) 3 pc') (hl : Cond.methodLink y.1.cls idx yX6_used ∈ GW) (ok : Ok G kX6_used d2 [.inr (some a)] sz m mc ms P) (hm : m a = obj 6 fs) (h8 : st.length ≤ 8) (hr : (d2 + 1 ≤ R.frames ∧ 8 + (3 + 11) + 40 * d2 ≤ R.locals) ∧ k + mc ≤ R.cells ∧ n + ms ≤ R.slots) (kk : ∀ (r : Option AV) (sz' : Nat) (m' : Mem), P r sz' m' → V G y R Qf pc' L (r.toList ++ st) sz' m' (k + mc) (n + ms)) : V G y R Qf pc L (.inr (some a) :: st) sz m k n := V.callV (args2 := []) h hl ca_X6_used gm_X6_used ge_X6_used rfl rfl ok hm rfl h8 hr kk
theorem ca_X6_isNeeded : callee kX6_isNeeded 1 := ⟨gc_X6_isNeeded, gi_RX6, ⟨by decide, by decide⟩, by decide +kernel⟩
theorem call_X6_isNeeded {G : GX} {y : MK} {R : Room} {Qf : QF} {pc pc' : Nat} {L : List (Option AV)} {st : List AV} {sz : Nat} {m : Mem} {k n d2 mc ms idx : Nat} {x0 : AV} {P : PO} {a : Nat} {fs : List AV} (h : At y pc (.invokevirtual idx) 3 pc') (hl : Cond.methodLink y.1.cls idx yX6_isNeeded ∈ GW) (ok : Ok G kX6_isNeeded d2 [.inr (some a), x0] sz m mc ms P) (hm : m a = obj 6 fs) (h8 : st.length ≤ 8) (hr : (d2 + 1 ≤ R.frames ∧ 8 + (3 + 11) + 40 * d2 ≤ R.locals) ∧ k + mc ≤ R.cells ∧ n + ms ≤ R.slots) (kk : ∀ (r : Option AV) (sz' : Nat) (m' : Mem), P r sz' m' → V G y R Qf pc' L (r.toList ++ st) sz' m' (k + mc) (n + ms)) : V G y R Qf pc L (x0 :: .inr (some a) :: st) sz m k n := V.callV (args2 := [x0]) h hl ca_X6_isNeeded gm_X6_isNeeded ge_X6_isNeeded rfl rfl ok hm rfl h8 hr kk
theorem ca_X6_usedWithout : callee kX6_usedWithout 1 := ⟨gc_X6_usedWithout, gi_RX6, ⟨by decide, by decide⟩, by decide +kernel⟩
theorem call_X6_usedWithout {G : GX} {y : MK} {R : Room} {Qf : QF} {pc pc' : Nat} {L : List (Option AV)} {st : List AV} {sz : Nat} {m : Mem} {k n d2 mc ms idx : Nat} {x0 : AV} {P : PO} {a : Nat} {fs : List AV} (h : At y pc (.invokevirtual idx) 3 pc') (hl : Cond.methodLink y.1.cls idx yX6_usedWithout ∈ GW) (ok : Ok G kX6_usedWithout d2 [.inr (some a), x0] sz m mc ms P) (hm : m a = obj 6 fs) (h8 : st.length ≤ 8) (hr : (d2 + 1 ≤ R.frames ∧ 8 + (4 + 11) + 40 * d2 ≤ R.locals) ∧ k + mc ≤ R.cells ∧ n + ms ≤ R.slots) (kk : ∀ (r : Option AV) (sz' : Nat) (m' : Mem), P r sz' m' → V G y R Qf pc' L (r.toList ++ st) sz' m' (k + mc) (n + ms)) : V G y R Qf pc L (x0 :: .inr (some a) :: st) sz m k n := V.callV (args2 := [x0]) h hl ca_X6_usedWithout gm_X6_usedWithout ge_X6_usedWithout rfl rfl ok hm rfl h8 hr kk
theorem ca_X6_logs : callee kX6_logs 0 := ⟨gc_X6_logs, gi_RX6, ⟨by decide, by decide⟩, by decide +kernel⟩
theorem call_X6_logs {G : GX} {y : MK} {R : Room} {Qf : QF} {pc pc' : Nat} {L : List (Option AV)} {st : List AV} {sz : Nat} {m : Mem} {k n d2 mc ms idx : Nat} {P : PO} {a : Nat} {fs : List AV} (h : At y pc (.invokevirtual idx) 3 pc') (hl : Cond.methodLink y.1.cls idx yX6_logs ∈ GW) (ok : Ok G kX6_logs d2 [.inr (some a)] sz m mc ms P) (hm : m a = obj 6 fs) (h8 : st.length ≤ 8) (hr : (d2 + 1 ≤ R.frames ∧ 8 + (4 + 11) + 40 * d2 ≤ R.locals) ∧ k + mc ≤ R.cells ∧ n + ms ≤ R.slots) (kk : ∀ (r : Option AV) (sz' : Nat) (m' : Mem), P r sz' m' → V G y R Qf pc' L (r.toList ++ st) sz' m' (k + mc) (n + ms)) : V G y R Qf pc L (.inr (some a) :: st) sz m k n := V.callV (args2 := []) h hl ca_X6_logs gm_X6_logs ge_X6_logs rfl rfl ok hm rfl h8 hr kk
theorem ca_X6_drops : callee kX6_drops 1 := ⟨gc_X6_drops, gi_RX6, ⟨by decide, by decide⟩, by decide +kernel⟩
theorem call_X6_drops {G : GX} {y : MK} {R : Room} {Qf : QF} {pc pc' : Nat} {L : List (Option AV)} {st : List AV} {sz : Nat} {m : Mem} {k n d2 mc ms idx : Nat} {x0 : AV} {P : PO} {a : Nat} {fs : List AV} (h : At y pc (.invokevirtual idx) 3 pc') (hl : Cond.methodLink y.1.cls idx yX6_drops ∈ GW) (ok : Ok G kX6_drops d2 [.inr (some a), x0] sz m mc ms P) (hm : m a = obj 6 fs) (h8 : st.length ≤ 8) (hr : (d2 + 1 ≤ R.frames ∧ 8 + (3 + 11) + 40 * d2 ≤ R.locals) ∧ k + mc ≤ R.cells ∧ n + ms ≤ R.slots) (kk : ∀ (r : Option AV) (sz' : Nat) (m' : Mem), P r sz' m' → V G y R Qf pc' L (r.toList ++ st) sz' m' (k + mc) (n + ms)) : V G y R Qf pc L (x0 :: .inr (some a) :: st) sz m k n := V.callV (args2 := [x0]) h hl ca_X6_drops gm_X6_drops ge_X6_drops rfl rfl ok hm rfl h8 hr kk
theorem ca_X6_add : callee kX6_add 4 := ⟨gc_X6_add, gi_RX6, ⟨by decide, by decide⟩, by decide +kernel⟩
theorem call_X6_add {G : GX} {y : MK} {R : Room} {Qf : QF} {pc pc' : Nat} {L : List (Option AV)} {st : List AV} {sz : Nat} {m : Mem} {k n d2 mc ms idx : Nat} {x0 x1 x2 x3 : AV} {P : PO} {a : Nat} {fs : List AV} (h : At y pc (.invokevirtual idx) 3 pc') (hl : Cond.methodLink y.1.cls idx yX6_add ∈ GW) (ok : Ok G kX6_add d2 [.inr (some a), x0, x1, x2, x3] sz m mc ms P) (hm : m a = obj 6 fs) (h8 : st.length ≤ 8) (hr : (d2 + 1 ≤ R.frames ∧ 8 + (5 + 11) + 40 * d2 ≤ R.locals) ∧ k + mc ≤ R.cells ∧ n + ms ≤ R.slots) (kk : ∀ (r : Option AV) (sz' : Nat) (m' : Mem), P r sz' m' → V G y R Qf pc' L (r.toList ++ st) sz' m' (k + mc) (n + ms)) : V G y R Qf pc L (x3 :: x2 :: x1 :: x0 :: .inr (some a) :: st) sz m k n := V.callV (args2 := [x0, x1, x2, x3]) h hl ca_X6_add gm_X6_add ge_X6_add rfl rfl ok hm rfl h8 hr kk
theorem ca_X6_turn : callee kX6_turn 2 := ⟨gc_X6_turn, gi_RX6, ⟨by decide, by decide⟩, by decide +kernel⟩
theorem call_X6_turn {G : GX} {y : MK} {R : Room} {Qf : QF} {pc pc' : Nat} {L : List (Option AV)} {st : List AV} {sz : Nat} {m : Mem} {k n d2 mc ms idx : Nat} {x0 x1 : AV} {P : PO} {a : Nat} {fs : List AV} (h : At y pc (.invokevirtual idx) 3 pc') (hl : Cond.methodLink y.1.cls idx yX6_turn ∈ GW) (ok : Ok G kX6_turn d2 [.inr (some a), x0, x1] sz m mc ms P) (hm : m a = obj 6 fs) (h8 : st.length ≤ 8) (hr : (d2 + 1 ≤ R.frames ∧ 8 + (3 + 11) + 40 * d2 ≤ R.locals) ∧ k + mc ≤ R.cells ∧ n + ms ≤ R.slots) (kk : ∀ (r : Option AV) (sz' : Nat) (m' : Mem), P r sz' m' → V G y R Qf pc' L (r.toList ++ st) sz' m' (k + mc) (n + ms)) : V G y R Qf pc L (x1 :: x0 :: .inr (some a) :: st) sz m k n := V.callV (args2 := [x0, x1]) h hl ca_X6_turn gm_X6_turn ge_X6_turn rfl rfl ok hm rfl h8 hr kk
theorem ca_X6_renew : callee kX6_renew 1 := ⟨gc_X6_renew, gi_RX6, ⟨by decide, by decide⟩, by decide +kernel⟩
theorem call_X6_renew {G : GX} {y : MK} {R : Room} {Qf : QF} {pc pc' : Nat} {L : List (Option AV)} {st : List AV} {sz : Nat} {m : Mem} {k n d2 mc ms idx : Nat} {x0 : AV} {P : PO} {a : Nat} {fs : List AV} (h : At y pc (.invokevirtual idx) 3 pc') (hl : Cond.methodLink y.1.cls idx yX6_renew ∈ GW) (ok : Ok G kX6_renew d2 [.inr (some a), x0] sz m mc ms P) (hm : m a = obj 6 fs) (h8 : st.length ≤ 8) (hr : (d2 + 1 ≤ R.frames ∧ 8 + (2 + 11) + 40 * d2 ≤ R.locals) ∧ k + mc ≤ R.cells ∧ n + ms ≤ R.slots) (kk : ∀ (r : Option AV) (sz' : Nat) (m' : Mem), P r sz' m' → V G y R Qf pc' L (r.toList ++ st) sz' m' (k + mc) (n + ms)) : V G y R Qf pc L (x0 :: .inr (some a) :: st) sz m k n := V.callV (args2 := [x0]) h hl ca_X6_renew gm_X6_renew ge_X6_renew rfl rfl ok hm rfl h8 hr kk
theorem ca_X6_type : callee kX6_type 1 := ⟨gc_X6_type, gi_RX6, ⟨by decide, by decide⟩, by decide +kernel⟩
theorem call_X6_type {G : GX} {y : MK} {R : Room} {Qf : QF} {pc pc' : Nat} {L : List (Option AV)} {st : List AV} {sz : Nat} {m : Mem} {k n d2 mc ms idx : Nat} {x0 : AV} {P : PO} {a : Nat} {fs : List AV} (h : At y pc (.invokevirtual idx) 3 pc') (hl : Cond.methodLink y.1.cls idx yX6_type ∈ GW) (ok : Ok G kX6_type d2 [.inr (some a), x0] sz m mc ms P) (hm : m a = obj 6 fs) (h8 : st.length ≤ 8) (hr : (d2 + 1 ≤ R.frames ∧ 8 + (2 + 11) + 40 * d2 ≤ R.locals) ∧ k + mc ≤ R.cells ∧ n + ms ≤ R.slots) (kk : ∀ (r : Option AV) (sz' : Nat) (m' : Mem), P r sz' m' → V G y R Qf pc' L (r.toList ++ st) sz' m' (k + mc) (n + ms)) : V G y R Qf pc L (x0 :: .inr (some a) :: st) sz m k n := V.callV (args2 := [x0]) h hl ca_X6_type gm_X6_type ge_X6_type rfl rfl ok hm rfl h8 hr kk
theorem ca_X6_clearText : callee kX6_clearText 0 := ⟨gc_X6_clearText, gi_RX6, ⟨by decide, by decide⟩, by decide +kernel⟩
theorem call_X6_clearText {G : GX} {y : MK} {R : Room} {Qf : QF} {pc pc' : Nat} {L : List (Option AV)} {st : List AV} {sz : Nat} {m : Mem} {k n d2 mc ms idx : Nat} {P : PO} {a : Nat} {fs : List AV} (h : At y pc (.invokevirtual idx) 3 pc') (hl : Cond.methodLink y.1.cls idx yX6_clearText ∈ GW) (ok : Ok G kX6_clearText d2 [.inr (some a)] sz m mc ms P) (hm : m a = obj 6 fs) (h8 : st.length ≤ 8) (hr : (d2 + 1 ≤ R.frames ∧ 8 + (2 + 11) + 40 * d2 ≤ R.locals) ∧ k + mc ≤ R.cells ∧ n + ms ≤ R.slots) (kk : ∀ (r : Option AV) (sz' : Nat) (m' : Mem), P r sz' m' → V G y R Qf pc' L (r.toList ++ st) sz' m' (k + mc) (n + ms)) : V G y R Qf pc L (.inr (some a) :: st) sz m k n := V.callV (args2 := []) h hl ca_X6_clearText gm_X6_clearText ge_X6_clearText rfl rfl ok hm rfl h8 hr kk
theorem ca_X6_readOrders : callee kX6_readOrders 0 := ⟨gc_X6_readOrders, gi_RX6, ⟨by decide, by decide⟩, by decide +kernel⟩
theorem call_X6_readOrders {G : GX} {y : MK} {R : Room} {Qf : QF} {pc pc' : Nat} {L : List (Option AV)} {st : List AV} {sz : Nat} {m : Mem} {k n d2 mc ms idx : Nat} {P : PO} {a : Nat} {fs : List AV} (h : At y pc (.invokevirtual idx) 3 pc') (hl : Cond.methodLink y.1.cls idx yX6_readOrders ∈ GW) (ok : Ok G kX6_readOrders d2 [.inr (some a)] sz m mc ms P) (hm : m a = obj 6 fs) (h8 : st.length ≤ 8) (hr : (d2 + 1 ≤ R.frames ∧ 8 + (2 + 11) + 40 * d2 ≤ R.locals) ∧ k + mc ≤ R.cells ∧ n + ms ≤ R.slots) (kk : ∀ (r : Option AV) (sz' : Nat) (m' : Mem), P r sz' m' → V G y R Qf pc' L (r.toList ++ st) sz' m' (k + mc) (n + ms)) : V G y R Qf pc L (.inr (some a) :: st) sz m k n := V.callV (args2 := []) h hl ca_X6_readOrders gm_X6_readOrders ge_X6_readOrders rfl rfl ok hm rfl h8 hr kk
theorem ca_X6_isText : callee kX6_isText 0 := ⟨gc_X6_isText, gi_RX6, ⟨by decide, by decide⟩, by decide +kernel⟩
theorem call_X6_isText {G : GX} {y : MK} {R : Room} {Qf : QF} {pc pc' : Nat} {L : List (Option AV)} {st : List AV} {sz : Nat} {m : Mem} {k n d2 mc ms idx : Nat} {P : PO} {a : Nat} {fs : List AV} (h : At y pc (.invokevirtual idx) 3 pc') (hl : Cond.methodLink y.1.cls idx yX6_isText ∈ GW) (ok : Ok G kX6_isText d2 [.inr (some a)] sz m mc ms P) (hm : m a = obj 6 fs) (h8 : st.length ≤ 8) (hr : (d2 + 1 ≤ R.frames ∧ 8 + (2 + 11) + 40 * d2 ≤ R.locals) ∧ k + mc ≤ R.cells ∧ n + ms ≤ R.slots) (kk : ∀ (r : Option AV) (sz' : Nat) (m' : Mem), P r sz' m' → V G y R Qf pc' L (r.toList ++ st) sz' m' (k + mc) (n + ms)) : V G y R Qf pc L (.inr (some a) :: st) sz m k n := V.callV (args2 := []) h hl ca_X6_isText gm_X6_isText ge_X6_isText rfl rfl ok hm rfl h8 hr kk
theorem ca_X6_readsOrder : callee kX6_readsOrder 0 := ⟨gc_X6_readsOrder, gi_RX6, ⟨by decide, by decide⟩, by decide +kernel⟩
theorem call_X6_readsOrder {G : GX} {y : MK} {R : Room} {Qf : QF} {pc pc' : Nat} {L : List (Option AV)} {st : List AV} {sz : Nat} {m : Mem} {k n d2 mc ms idx : Nat} {P : PO} {a : Nat} {fs : List AV} (h : At y pc (.invokevirtual idx) 3 pc') (hl : Cond.methodLink y.1.cls idx yX6_readsOrder ∈ GW) (ok : Ok G kX6_readsOrder d2 [.inr (some a)] sz m mc ms P) (hm : m a = obj 6 fs) (h8 : st.length ≤ 8) (hr : (d2 + 1 ≤ R.frames ∧ 8 + (3 + 11) + 40 * d2 ≤ R.locals) ∧ k + mc ≤ R.cells ∧ n + ms ≤ R.slots) (kk : ∀ (r : Option AV) (sz' : Nat) (m' : Mem), P r sz' m' → V G y R Qf pc' L (r.toList ++ st) sz' m' (k + mc) (n + ms)) : V G y R Qf pc L (.inr (some a) :: st) sz m k n := V.callV (args2 := []) h hl ca_X6_readsOrder gm_X6_readsOrder ge_X6_readsOrder rfl rfl ok hm rfl h8 hr kk
theorem ca_X6_sees : callee kX6_sees 2 := ⟨gc_X6_sees, gi_RX6, ⟨by decide, by decide⟩, by decide +kernel⟩
theorem call_X6_sees {G : GX} {y : MK} {R : Room} {Qf : QF} {pc pc' : Nat} {L : List (Option AV)} {st : List AV} {sz : Nat} {m : Mem} {k n d2 mc ms idx : Nat} {x0 x1 : AV} {P : PO} {a : Nat} {fs : List AV} (h : At y pc (.invokevirtual idx) 3 pc') (hl : Cond.methodLink y.1.cls idx yX6_sees ∈ GW) (ok : Ok G kX6_sees d2 [.inr (some a), x0, x1] sz m mc ms P) (hm : m a = obj 6 fs) (h8 : st.length ≤ 8) (hr : (d2 + 1 ≤ R.frames ∧ 8 + (3 + 11) + 40 * d2 ≤ R.locals) ∧ k + mc ≤ R.cells ∧ n + ms ≤ R.slots) (kk : ∀ (r : Option AV) (sz' : Nat) (m' : Mem), P r sz' m' → V G y R Qf pc' L (r.toList ++ st) sz' m' (k + mc) (n + ms)) : V G y R Qf pc L (x1 :: x0 :: .inr (some a) :: st) sz m k n := V.callV (args2 := [x0, x1]) h hl ca_X6_sees gm_X6_sees ge_X6_sees rfl rfl ok hm rfl h8 hr kk
theorem ca_X6_digit : callee kX6_digit 1 := ⟨gc_X6_digit, gi_RX6, ⟨by decide, by decide⟩, by decide +kernel⟩
theorem call_X6_digit {G : GX} {y : MK} {R : Room} {Qf : QF} {pc pc' : Nat} {L : List (Option AV)} {st : List AV} {sz : Nat} {m : Mem} {k n d2 mc ms idx : Nat} {x0 : AV} {P : PO} {a : Nat} {fs : List AV} (h : At y pc (.invokevirtual idx) 3 pc') (hl : Cond.methodLink y.1.cls idx yX6_digit ∈ GW) (ok : Ok G kX6_digit d2 [.inr (some a), x0] sz m mc ms P) (hm : m a = obj 6 fs) (h8 : st.length ≤ 8) (hr : (d2 + 1 ≤ R.frames ∧ 8 + (2 + 11) + 40 * d2 ≤ R.locals) ∧ k + mc ≤ R.cells ∧ n + ms ≤ R.slots) (kk : ∀ (r : Option AV) (sz' : Nat) (m' : Mem), P r sz' m' → V G y R Qf pc' L (r.toList ++ st) sz' m' (k + mc) (n + ms)) : V G y R Qf pc L (x0 :: .inr (some a) :: st) sz m k n := V.callV (args2 := [x0]) h hl ca_X6_digit gm_X6_digit ge_X6_digit rfl rfl ok hm rfl h8 hr kk
theorem ca_X6_takes : callee kX6_takes 1 := ⟨gc_X6_takes, gi_RX6, ⟨by decide, by decide⟩, by decide +kernel⟩
theorem call_X6_takes {G : GX} {y : MK} {R : Room} {Qf : QF} {pc pc' : Nat} {L : List (Option AV)} {st : List AV} {sz : Nat} {m : Mem} {k n d2 mc ms idx : Nat} {x0 : AV} {P : PO} {a : Nat} {fs : List AV} (h : At y pc (.invokevirtual idx) 3 pc') (hl : Cond.methodLink y.1.cls idx yX6_takes ∈ GW) (ok : Ok G kX6_takes d2 [.inr (some a), x0] sz m mc ms P) (hm : m a = obj 6 fs) (h8 : st.length ≤ 8) (hr : (d2 + 1 ≤ R.frames ∧ 8 + (3 + 11) + 40 * d2 ≤ R.locals) ∧ k + mc ≤ R.cells ∧ n + ms ≤ R.slots) (kk : ∀ (r : Option AV) (sz' : Nat) (m' : Mem), P r sz' m' → V G y R Qf pc' L (r.toList ++ st) sz' m' (k + mc) (n + ms)) : V G y R Qf pc L (x0 :: .inr (some a) :: st) sz m k n := V.callV (args2 := [x0]) h hl ca_X6_takes gm_X6_takes ge_X6_takes rfl rfl ok hm rfl h8 hr kk
theorem ca_X6_readsCells : callee kX6_readsCells 4 := ⟨gc_X6_readsCells, gi_RX6, ⟨by decide, by decide⟩, by decide +kernel⟩
theorem call_X6_readsCells {G : GX} {y : MK} {R : Room} {Qf : QF} {pc pc' : Nat} {L : List (Option AV)} {st : List AV} {sz : Nat} {m : Mem} {k n d2 mc ms idx : Nat} {x0 x1 x2 x3 : AV} {P : PO} {a : Nat} {fs : List AV} (h : At y pc (.invokevirtual idx) 3 pc') (hl : Cond.methodLink y.1.cls idx yX6_readsCells ∈ GW) (ok : Ok G kX6_readsCells d2 [.inr (some a), x0, x1, x2, x3] sz m mc ms P) (hm : m a = obj 6 fs) (h8 : st.length ≤ 8) (hr : (d2 + 1 ≤ R.frames ∧ 8 + (8 + 11) + 40 * d2 ≤ R.locals) ∧ k + mc ≤ R.cells ∧ n + ms ≤ R.slots) (kk : ∀ (r : Option AV) (sz' : Nat) (m' : Mem), P r sz' m' → V G y R Qf pc' L (r.toList ++ st) sz' m' (k + mc) (n + ms)) : V G y R Qf pc L (x3 :: x2 :: x1 :: x0 :: .inr (some a) :: st) sz m k n := V.callV (args2 := [x0, x1, x2, x3]) h hl ca_X6_readsCells gm_X6_readsCells ge_X6_readsCells rfl rfl ok hm rfl h8 hr kk
theorem ca_X6_number : callee kX6_number 1 := ⟨gc_X6_number, gi_RX6, ⟨by decide, by decide⟩, by decide +kernel⟩
theorem call_X6_number {G : GX} {y : MK} {R : Room} {Qf : QF} {pc pc' : Nat} {L : List (Option AV)} {st : List AV} {sz : Nat} {m : Mem} {k n d2 mc ms idx : Nat} {x0 : AV} {P : PO} {a : Nat} {fs : List AV} (h : At y pc (.invokevirtual idx) 3 pc') (hl : Cond.methodLink y.1.cls idx yX6_number ∈ GW) (ok : Ok G kX6_number d2 [.inr (some a), x0] sz m mc ms P) (hm : m a = obj 6 fs) (h8 : st.length ≤ 8) (hr : (d2 + 1 ≤ R.frames ∧ 8 + (3 + 11) + 40 * d2 ≤ R.locals) ∧ k + mc ≤ R.cells ∧ n + ms ≤ R.slots) (kk : ∀ (r : Option AV) (sz' : Nat) (m' : Mem), P r sz' m' → V G y R Qf pc' L (r.toList ++ st) sz' m' (k + mc) (n + ms)) : V G y R Qf pc L (x0 :: .inr (some a) :: st) sz m k n := V.callV (args2 := [x0]) h hl ca_X6_number gm_X6_number ge_X6_number rfl rfl ok hm rfl h8 hr kk
theorem ca_X6_readsRow : callee kX6_readsRow 1 := ⟨gc_X6_readsRow, gi_RX6, ⟨by decide, by decide⟩, by decide +kernel⟩
theorem call_X6_readsRow {G : GX} {y : MK} {R : Room} {Qf : QF} {pc pc' : Nat} {L : List (Option AV)} {st : List AV} {sz : Nat} {m : Mem} {k n d2 mc ms idx : Nat} {x0 : AV} {P : PO} {a : Nat} {fs : List AV} (h : At y pc (.invokevirtual idx) 3 pc') (hl : Cond.methodLink y.1.cls idx yX6_readsRow ∈ GW) (ok : Ok G kX6_readsRow d2 [.inr (some a), x0] sz m mc ms P) (hm : m a = obj 6 fs) (h8 : st.length ≤ 8) (hr : (d2 + 1 ≤ R.frames ∧ 8 + (3 + 11) + 40 * d2 ≤ R.locals) ∧ k + mc ≤ R.cells ∧ n + ms ≤ R.slots) (kk : ∀ (r : Option AV) (sz' : Nat) (m' : Mem), P r sz' m' → V G y R Qf pc' L (r.toList ++ st) sz' m' (k + mc) (n + ms)) : V G y R Qf pc L (x0 :: .inr (some a) :: st) sz m k n := V.callV (args2 := [x0]) h hl ca_X6_readsRow gm_X6_readsRow ge_X6_readsRow rfl rfl ok hm rfl h8 hr kk
theorem ca_X6_does : callee kX6_does 0 := ⟨gc_X6_does, gi_RX6, ⟨by decide, by decide⟩, by decide +kernel⟩
theorem call_X6_does {G : GX} {y : MK} {R : Room} {Qf : QF} {pc pc' : Nat} {L : List (Option AV)} {st : List AV} {sz : Nat} {m : Mem} {k n d2 mc ms idx : Nat} {P : PO} {a : Nat} {fs : List AV} (h : At y pc (.invokevirtual idx) 3 pc') (hl : Cond.methodLink y.1.cls idx yX6_does ∈ GW) (ok : Ok G kX6_does d2 [.inr (some a)] sz m mc ms P) (hm : m a = obj 6 fs) (h8 : st.length ≤ 8) (hr : (d2 + 1 ≤ R.frames ∧ 8 + (2 + 11) + 40 * d2 ≤ R.locals) ∧ k + mc ≤ R.cells ∧ n + ms ≤ R.slots) (kk : ∀ (r : Option AV) (sz' : Nat) (m' : Mem), P r sz' m' → V G y R Qf pc' L (r.toList ++ st) sz' m' (k + mc) (n + ms)) : V G y R Qf pc L (.inr (some a) :: st) sz m k n := V.callV (args2 := []) h hl ca_X6_does gm_X6_does ge_X6_does rfl rfl ok hm rfl h8 hr kk
theorem ca_X6_setWay : callee kX6_setWay 1 := ⟨gc_X6_setWay, gi_RX6, ⟨by decide, by decide⟩, by decide +kernel⟩
theorem call_X6_setWay {G : GX} {y : MK} {R : Room} {Qf : QF} {pc pc' : Nat} {L : List (Option AV)} {st : List AV} {sz : Nat} {m : Mem} {k n d2 mc ms idx : Nat} {x0 : AV} {P : PO} {a : Nat} {fs : List AV} (h : At y pc (.invokevirtual idx) 3 pc') (hl : Cond.methodLink y.1.cls idx yX6_setWay ∈ GW) (ok : Ok G kX6_setWay d2 [.inr (some a), x0] sz m mc ms P) (hm : m a = obj 6 fs) (h8 : st.length ≤ 8) (hr : (d2 + 1 ≤ R.frames ∧ 8 + (3 + 11) + 40 * d2 ≤ R.locals) ∧ k + mc ≤ R.cells ∧ n + ms ≤ R.slots) (kk : ∀ (r : Option AV) (sz' : Nat) (m' : Mem), P r sz' m' → V G y R Qf pc' L (r.toList ++ st) sz' m' (k + mc) (n + ms)) : V G y R Qf pc L (x0 :: .inr (some a) :: st) sz m k n := V.callV (args2 := [x0]) h hl ca_X6_setWay gm_X6_setWay ge_X6_setWay rfl rfl ok hm rfl h8 hr kk
theorem ca_X6_setRoom : callee kX6_setRoom 1 := ⟨gc_X6_setRoom, gi_RX6, ⟨by decide, by decide⟩, by decide +kernel⟩
theorem call_X6_setRoom {G : GX} {y : MK} {R : Room} {Qf : QF} {pc pc' : Nat} {L : List (Option AV)} {st : List AV} {sz : Nat} {m : Mem} {k n d2 mc ms idx : Nat} {x0 : AV} {P : PO} {a : Nat} {fs : List AV} (h : At y pc (.invokevirtual idx) 3 pc') (hl : Cond.methodLink y.1.cls idx yX6_setRoom ∈ GW) (ok : Ok G kX6_setRoom d2 [.inr (some a), x0] sz m mc ms P) (hm : m a = obj 6 fs) (h8 : st.length ≤ 8) (hr : (d2 + 1 ≤ R.frames ∧ 8 + (4 + 11) + 40 * d2 ≤ R.locals) ∧ k + mc ≤ R.cells ∧ n + ms ≤ R.slots) (kk : ∀ (r : Option AV) (sz' : Nat) (m' : Mem), P r sz' m' → V G y R Qf pc' L (r.toList ++ st) sz' m' (k + mc) (n + ms)) : V G y R Qf pc L (x0 :: .inr (some a) :: st) sz m k n := V.callV (args2 := [x0]) h hl ca_X6_setRoom gm_X6_setRoom ge_X6_setRoom rfl rfl ok hm rfl h8 hr kk
theorem ca_X6_flush : callee kX6_flush 0 := ⟨gc_X6_flush, gi_RX6, ⟨by decide, by decide⟩, by decide +kernel⟩
theorem call_X6_flush {G : GX} {y : MK} {R : Room} {Qf : QF} {pc pc' : Nat} {L : List (Option AV)} {st : List AV} {sz : Nat} {m : Mem} {k n d2 mc ms idx : Nat} {P : PO} {a : Nat} {fs : List AV} (h : At y pc (.invokevirtual idx) 3 pc') (hl : Cond.methodLink y.1.cls idx yX6_flush ∈ GW) (ok : Ok G kX6_flush d2 [.inr (some a)] sz m mc ms P) (hm : m a = obj 6 fs) (h8 : st.length ≤ 8) (hr : (d2 + 1 ≤ R.frames ∧ 8 + (2 + 11) + 40 * d2 ≤ R.locals) ∧ k + mc ≤ R.cells ∧ n + ms ≤ R.slots) (kk : ∀ (r : Option AV) (sz' : Nat) (m' : Mem), P r sz' m' → V G y R Qf pc' L (r.toList ++ st) sz' m' (k + mc) (n + ms)) : V G y R Qf pc L (.inr (some a) :: st) sz m k n := V.callV (args2 := []) h hl ca_X6_flush gm_X6_flush ge_X6_flush rfl rfl ok hm rfl h8 hr kk
theorem ca_X6_store : callee kX6_store 1 := ⟨gc_X6_store, gi_RX6, ⟨by decide, by decide⟩, by decide +kernel⟩
theorem call_X6_store {G : GX} {y : MK} {R : Room} {Qf : QF} {pc pc' : Nat} {L : List (Option AV)} {st : List AV} {sz : Nat} {m : Mem} {k n d2 mc ms idx : Nat} {x0 : AV} {P : PO} {a : Nat} {fs : List AV} (h : At y pc (.invokevirtual idx) 3 pc') (hl : Cond.methodLink y.1.cls idx yX6_store ∈ GW) (ok : Ok G kX6_store d2 [.inr (some a), x0] sz m mc ms P) (hm : m a = obj 6 fs) (h8 : st.length ≤ 8) (hr : (d2 + 1 ≤ R.frames ∧ 8 + (4 + 11) + 40 * d2 ≤ R.locals) ∧ k + mc ≤ R.cells ∧ n + ms ≤ R.slots) (kk : ∀ (r : Option AV) (sz' : Nat) (m' : Mem), P r sz' m' → V G y R Qf pc' L (r.toList ++ st) sz' m' (k + mc) (n + ms)) : V G y R Qf pc L (x0 :: .inr (some a) :: st) sz m k n := V.callV (args2 := [x0]) h hl ca_X6_store gm_X6_store ge_X6_store rfl rfl ok hm rfl h8 hr kk
theorem ca_X6_neededMany : callee kX6_neededMany 0 := ⟨gc_X6_neededMany, gi_RX6, ⟨by decide, by decide⟩, by decide +kernel⟩
theorem call_X6_neededMany {G : GX} {y : MK} {R : Room} {Qf : QF} {pc pc' : Nat} {L : List (Option AV)} {st : List AV} {sz : Nat} {m : Mem} {k n d2 mc ms idx : Nat} {P : PO} {a : Nat} {fs : List AV} (h : At y pc (.invokevirtual idx) 3 pc') (hl : Cond.methodLink y.1.cls idx yX6_neededMany ∈ GW) (ok : Ok G kX6_neededMany d2 [.inr (some a)] sz m mc ms P) (hm : m a = obj 6 fs) (h8 : st.length ≤ 8) (hr : (d2 + 1 ≤ R.frames ∧ 8 + (3 + 11) + 40 * d2 ≤ R.locals) ∧ k + mc ≤ R.cells ∧ n + ms ≤ R.slots) (kk : ∀ (r : Option AV) (sz' : Nat) (m' : Mem), P r sz' m' → V G y R Qf pc' L (r.toList ++ st) sz' m' (k + mc) (n + ms)) : V G y R Qf pc L (.inr (some a) :: st) sz m k n := V.callV (args2 := []) h hl ca_X6_neededMany gm_X6_neededMany ge_X6_neededMany rfl rfl ok hm rfl h8 hr kk
theorem ca_X6_trim : callee kX6_trim 0 := ⟨gc_X6_trim, gi_RX6, ⟨by decide, by decide⟩, by decide +kernel⟩
theorem call_X6_trim {G : GX} {y : MK} {R : Room} {Qf : QF} {pc pc' : Nat} {L : List (Option AV)} {st : List AV} {sz : Nat} {m : Mem} {k n d2 mc ms idx : Nat} {P : PO} {a : Nat} {fs : List AV} (h : At y pc (.invokevirtual idx) 3 pc') (hl : Cond.methodLink y.1.cls idx yX6_trim ∈ GW) (ok : Ok G kX6_trim d2 [.inr (some a)] sz m mc ms P) (hm : m a = obj 6 fs) (h8 : st.length ≤ 8) (hr : (d2 + 1 ≤ R.frames ∧ 8 + (2 + 11) + 40 * d2 ≤ R.locals) ∧ k + mc ≤ R.cells ∧ n + ms ≤ R.slots) (kk : ∀ (r : Option AV) (sz' : Nat) (m' : Mem), P r sz' m' → V G y R Qf pc' L (r.toList ++ st) sz' m' (k + mc) (n + ms)) : V G y R Qf pc L (.inr (some a) :: st) sz m k n := V.callV (args2 := []) h hl ca_X6_trim gm_X6_trim ge_X6_trim rfl rfl ok hm rfl h8 hr kk
theorem ca_X6_damage : callee kX6_damage 1 := ⟨gc_X6_damage, gi_RX6, ⟨by decide, by decide⟩, by decide +kernel⟩
theorem call_X6_damage {G : GX} {y : MK} {R : Room} {Qf : QF} {pc pc' : Nat} {L : List (Option AV)} {st : List AV} {sz : Nat} {m : Mem} {k n d2 mc ms idx : Nat} {x0 : AV} {P : PO} {a : Nat} {fs : List AV} (h : At y pc (.invokevirtual idx) 3 pc') (hl : Cond.methodLink y.1.cls idx yX6_damage ∈ GW) (ok : Ok G kX6_damage d2 [.inr (some a), x0] sz m mc ms P) (hm : m a = obj 6 fs) (h8 : st.length ≤ 8) (hr : (d2 + 1 ≤ R.frames ∧ 8 + (4 + 11) + 40 * d2 ≤ R.locals) ∧ k + mc ≤ R.cells ∧ n + ms ≤ R.slots) (kk : ∀ (r : Option AV) (sz' : Nat) (m' : Mem), P r sz' m' → V G y R Qf pc' L (r.toList ++ st) sz' m' (k + mc) (n + ms)) : V G y R Qf pc L (x0 :: .inr (some a) :: st) sz m k n := V.callV (args2 := [x0]) h hl ca_X6_damage gm_X6_damage ge_X6_damage rfl rfl ok hm rfl h8 hr kk
theorem ca_X6_isHeld : callee kX6_isHeld 1 := ⟨gc_X6_isHeld, gi_RX6, ⟨by decide, by decide⟩, by decide +kernel⟩
theorem call_X6_isHeld {G : GX} {y : MK} {R : Room} {Qf : QF} {pc pc' : Nat} {L : List (Option AV)} {st : List AV} {sz : Nat} {m : Mem} {k n d2 mc ms idx : Nat} {x0 : AV} {P : PO} {a : Nat} {fs : List AV} (h : At y pc (.invokevirtual idx) 3 pc') (hl : Cond.methodLink y.1.cls idx yX6_isHeld ∈ GW) (ok : Ok G kX6_isHeld d2 [.inr (some a), x0] sz m mc ms P) (hm : m a = obj 6 fs) (h8 : st.length ≤ 8) (hr : (d2 + 1 ≤ R.frames ∧ 8 + (2 + 11) + 40 * d2 ≤ R.locals) ∧ k + mc ≤ R.cells ∧ n + ms ≤ R.slots) (kk : ∀ (r : Option AV) (sz' : Nat) (m' : Mem), P r sz' m' → V G y R Qf pc' L (r.toList ++ st) sz' m' (k + mc) (n + ms)) : V G y R Qf pc L (x0 :: .inr (some a) :: st) sz m k n := V.callV (args2 := [x0]) h hl ca_X6_isHeld gm_X6_isHeld ge_X6_isHeld rfl rfl ok hm rfl h8 hr kk
theorem ca_X6_firstDamaged : callee kX6_firstDamaged 2 := ⟨gc_X6_firstDamaged, gi_RX6, ⟨by decide, by decide⟩, by decide +kernel⟩
theorem call_X6_firstDamaged {G : GX} {y : MK} {R : Room} {Qf : QF} {pc pc' : Nat} {L : List (Option AV)} {st : List AV} {sz : Nat} {m : Mem} {k n d2 mc ms idx : Nat} {x0 x1 : AV} {P : PO} {a : Nat} {fs : List AV} (h : At y pc (.invokevirtual idx) 3 pc') (hl : Cond.methodLink y.1.cls idx yX6_firstDamaged ∈ GW) (ok : Ok G kX6_firstDamaged d2 [.inr (some a), x0, x1] sz m mc ms P) (hm : m a = obj 6 fs) (h8 : st.length ≤ 8) (hr : (d2 + 1 ≤ R.frames ∧ 8 + (5 + 11) + 40 * d2 ≤ R.locals) ∧ k + mc ≤ R.cells ∧ n + ms ≤ R.slots) (kk : ∀ (r : Option AV) (sz' : Nat) (m' : Mem), P r sz' m' → V G y R Qf pc' L (r.toList ++ st) sz' m' (k + mc) (n + ms)) : V G y R Qf pc L (x1 :: x0 :: .inr (some a) :: st) sz m k n := V.callV (args2 := [x0, x1]) h hl ca_X6_firstDamaged gm_X6_firstDamaged ge_X6_firstDamaged rfl rfl ok hm rfl h8 hr kk
theorem ca_X6_crash : callee kX6_crash 0 := ⟨gc_X6_crash, gi_RX6, ⟨by decide, by decide⟩, by decide +kernel⟩
theorem call_X6_crash {G : GX} {y : MK} {R : Room} {Qf : QF} {pc pc' : Nat} {L : List (Option AV)} {st : List AV} {sz : Nat} {m : Mem} {k n d2 mc ms idx : Nat} {P : PO} {a : Nat} {fs : List AV} (h : At y pc (.invokevirtual idx) 3 pc') (hl : Cond.methodLink y.1.cls idx yX6_crash ∈ GW) (ok : Ok G kX6_crash d2 [.inr (some a)] sz m mc ms P) (hm : m a = obj 6 fs) (h8 : st.length ≤ 8) (hr : (d2 + 1 ≤ R.frames ∧ 8 + (3 + 11) + 40 * d2 ≤ R.locals) ∧ k + mc ≤ R.cells ∧ n + ms ≤ R.slots) (kk : ∀ (r : Option AV) (sz' : Nat) (m' : Mem), P r sz' m' → V G y R Qf pc' L (r.toList ++ st) sz' m' (k + mc) (n + ms)) : V G y R Qf pc L (.inr (some a) :: st) sz m k n := V.callV (args2 := []) h hl ca_X6_crash gm_X6_crash ge_X6_crash rfl rfl ok hm rfl h8 hr kk
theorem ca_X6_comesBack : callee kX6_comesBack 1 := ⟨gc_X6_comesBack, gi_RX6, ⟨by decide, by decide⟩, by decide +kernel⟩
theorem call_X6_comesBack {G : GX} {y : MK} {R : Room} {Qf : QF} {pc pc' : Nat} {L : List (Option AV)} {st : List AV} {sz : Nat} {m : Mem} {k n d2 mc ms idx : Nat} {x0 : AV} {P : PO} {a : Nat} {fs : List AV} (h : At y pc (.invokevirtual idx) 3 pc') (hl : Cond.methodLink y.1.cls idx yX6_comesBack ∈ GW) (ok : Ok G kX6_comesBack d2 [.inr (some a), x0] sz m mc ms P) (hm : m a = obj 6 fs) (h8 : st.length ≤ 8) (hr : (d2 + 1 ≤ R.frames ∧ 8 + (5 + 11) + 40 * d2 ≤ R.locals) ∧ k + mc ≤ R.cells ∧ n + ms ≤ R.slots) (kk : ∀ (r : Option AV) (sz' : Nat) (m' : Mem), P r sz' m' → V G y R Qf pc' L (r.toList ++ st) sz' m' (k + mc) (n + ms)) : V G y R Qf pc L (x0 :: .inr (some a) :: st) sz m k n := V.callV (args2 := [x0]) h hl ca_X6_comesBack gm_X6_comesBack ge_X6_comesBack rfl rfl ok hm rfl h8 hr kk
theorem ca_X6_restores : callee kX6_restores 2 := ⟨gc_X6_restores, gi_RX6, ⟨by decide, by decide⟩, by decide +kernel⟩
theorem call_X6_restores {G : GX} {y : MK} {R : Room} {Qf : QF} {pc pc' : Nat} {L : List (Option AV)} {st : List AV} {sz : Nat} {m : Mem} {k n d2 mc ms idx : Nat} {x0 x1 : AV} {P : PO} {a : Nat} {fs : List AV} (h : At y pc (.invokevirtual idx) 3 pc') (hl : Cond.methodLink y.1.cls idx yX6_restores ∈ GW) (ok : Ok G kX6_restores d2 [.inr (some a), x0, x1] sz m mc ms P) (hm : m a = obj 6 fs) (h8 : st.length ≤ 8) (hr : (d2 + 1 ≤ R.frames ∧ 8 + (4 + 11) + 40 * d2 ≤ R.locals) ∧ k + mc ≤ R.cells ∧ n + ms ≤ R.slots) (kk : ∀ (r : Option AV) (sz' : Nat) (m' : Mem), P r sz' m' → V G y R Qf pc' L (r.toList ++ st) sz' m' (k + mc) (n + ms)) : V G y R Qf pc L (x1 :: x0 :: .inr (some a) :: st) sz m k n := V.callV (args2 := [x0, x1]) h hl ca_X6_restores gm_X6_restores ge_X6_restores rfl rfl ok hm rfl h8 hr kk
theorem ca_X6_cell : callee kX6_cell 2 := ⟨gc_X6_cell, gi_RX6, ⟨by decide, by decide⟩, by decide +kernel⟩
theorem call_X6_cell {G : GX} {y : MK} {R : Room} {Qf : QF} {pc pc' : Nat} {L : List (Option AV)} {st : List AV} {sz : Nat} {m : Mem} {k n d2 mc ms idx : Nat} {x0 x1 : AV} {P : PO} {a : Nat} {fs : List AV} (h : At y pc (.invokevirtual idx) 3 pc') (hl : Cond.methodLink y.1.cls idx yX6_cell ∈ GW) (ok : Ok G kX6_cell d2 [.inr (some a), x0, x1] sz m mc ms P) (hm : m a = obj 6 fs) (h8 : st.length ≤ 8) (hr : (d2 + 1 ≤ R.frames ∧ 8 + (3 + 11) + 40 * d2 ≤ R.locals) ∧ k + mc ≤ R.cells ∧ n + ms ≤ R.slots) (kk : ∀ (r : Option AV) (sz' : Nat) (m' : Mem), P r sz' m' → V G y R Qf pc' L (r.toList ++ st) sz' m' (k + mc) (n + ms)) : V G y R Qf pc L (x1 :: x0 :: .inr (some a) :: st) sz m k n := V.callV (args2 := [x0, x1]) h hl ca_X6_cell gm_X6_cell ge_X6_cell rfl rfl ok hm rfl h8 hr kk
theorem ca_X6_stored : callee kX6_stored 2 := ⟨gc_X6_stored, gi_RX6, ⟨by decide, by decide⟩, by decide +kernel⟩
theorem call_X6_stored {G : GX} {y : MK} {R : Room} {Qf : QF} {pc pc' : Nat} {L : List (Option AV)} {st : List AV} {sz : Nat} {m : Mem} {k n d2 mc ms idx : Nat} {x0 x1 : AV} {P : PO} {a : Nat} {fs : List AV} (h : At y pc (.invokevirtual idx) 3 pc') (hl : Cond.methodLink y.1.cls idx yX6_stored ∈ GW) (ok : Ok G kX6_stored d2 [.inr (some a), x0, x1] sz m mc ms P) (hm : m a = obj 6 fs) (h8 : st.length ≤ 8) (hr : (d2 + 1 ≤ R.frames ∧ 8 + (3 + 11) + 40 * d2 ≤ R.locals) ∧ k + mc ≤ R.cells ∧ n + ms ≤ R.slots) (kk : ∀ (r : Option AV) (sz' : Nat) (m' : Mem), P r sz' m' → V G y R Qf pc' L (r.toList ++ st) sz' m' (k + mc) (n + ms)) : V G y R Qf pc L (x1 :: x0 :: .inr (some a) :: st) sz m k n := V.callV (args2 := [x0, x1]) h hl ca_X6_stored gm_X6_stored ge_X6_stored rfl rfl ok hm rfl h8 hr kk
theorem ca_X6_page : callee kX6_page 2 := ⟨gc_X6_page, gi_RX6, ⟨by decide, by decide⟩, by decide +kernel⟩
theorem call_X6_page {G : GX} {y : MK} {R : Room} {Qf : QF} {pc pc' : Nat} {L : List (Option AV)} {st : List AV} {sz : Nat} {m : Mem} {k n d2 mc ms idx : Nat} {x0 x1 : AV} {P : PO} {a : Nat} {fs : List AV} (h : At y pc (.invokevirtual idx) 3 pc') (hl : Cond.methodLink y.1.cls idx yX6_page ∈ GW) (ok : Ok G kX6_page d2 [.inr (some a), x0, x1] sz m mc ms P) (hm : m a = obj 6 fs) (h8 : st.length ≤ 8) (hr : (d2 + 1 ≤ R.frames ∧ 8 + (3 + 11) + 40 * d2 ≤ R.locals) ∧ k + mc ≤ R.cells ∧ n + ms ≤ R.slots) (kk : ∀ (r : Option AV) (sz' : Nat) (m' : Mem), P r sz' m' → V G y R Qf pc' L (r.toList ++ st) sz' m' (k + mc) (n + ms)) : V G y R Qf pc L (x1 :: x0 :: .inr (some a) :: st) sz m k n := V.callV (args2 := [x0, x1]) h hl ca_X6_page gm_X6_page ge_X6_page rfl rfl ok hm rfl h8 hr kk
theorem ca_X6_needsMany : callee kX6_needsMany 1 := ⟨gc_X6_needsMany, gi_RX6, ⟨by decide, by decide⟩, by decide +kernel⟩
theorem call_X6_needsMany {G : GX} {y : MK} {R : Room} {Qf : QF} {pc pc' : Nat} {L : List (Option AV)} {st : List AV} {sz : Nat} {m : Mem} {k n d2 mc ms idx : Nat} {x0 : AV} {P : PO} {a : Nat} {fs : List AV} (h : At y pc (.invokevirtual idx) 3 pc') (hl : Cond.methodLink y.1.cls idx yX6_needsMany ∈ GW) (ok : Ok G kX6_needsMany d2 [.inr (some a), x0] sz m mc ms P) (hm : m a = obj 6 fs) (h8 : st.length ≤ 8) (hr : (d2 + 1 ≤ R.frames ∧ 8 + (4 + 11) + 40 * d2 ≤ R.locals) ∧ k + mc ≤ R.cells ∧ n + ms ≤ R.slots) (kk : ∀ (r : Option AV) (sz' : Nat) (m' : Mem), P r sz' m' → V G y R Qf pc' L (r.toList ++ st) sz' m' (k + mc) (n + ms)) : V G y R Qf pc L (x0 :: .inr (some a) :: st) sz m k n := V.callV (args2 := [x0]) h hl ca_X6_needsMany gm_X6_needsMany ge_X6_needsMany rfl rfl ok hm rfl h8 hr kk
theorem ca_X6_firstNeeded : callee kX6_firstNeeded 1 := ⟨gc_X6_firstNeeded, gi_RX6, ⟨by decide, by decide⟩, by decide +kernel⟩
theorem call_X6_firstNeeded {G : GX} {y : MK} {R : Room} {Qf : QF} {pc pc' : Nat} {L : List (Option AV)} {st : List AV} {sz : Nat} {m : Mem} {k n d2 mc ms idx : Nat} {x0 : AV} {P : PO} {a : Nat} {fs : List AV} (h : At y pc (.invokevirtual idx) 3 pc') (hl : Cond.methodLink y.1.cls idx yX6_firstNeeded ∈ GW) (ok : Ok G kX6_firstNeeded d2 [.inr (some a), x0] sz m mc ms P) (hm : m a = obj 6 fs) (h8 : st.length ≤ 8) (hr : (d2 + 1 ≤ R.frames ∧ 8 + (3 + 11) + 40 * d2 ≤ R.locals) ∧ k + mc ≤ R.cells ∧ n + ms ≤ R.slots) (kk : ∀ (r : Option AV) (sz' : Nat) (m' : Mem), P r sz' m' → V G y R Qf pc' L (r.toList ++ st) sz' m' (k + mc) (n + ms)) : V G y R Qf pc L (x0 :: .inr (some a) :: st) sz m k n := V.callV (args2 := [x0]) h hl ca_X6_firstNeeded gm_X6_firstNeeded ge_X6_firstNeeded rfl rfl ok hm rfl h8 hr kk
theorem ca_X6_entry : callee kX6_entry 2 := ⟨gc_X6_entry, gi_RX6, ⟨by decide, by decide⟩, by decide +kernel⟩
theorem call_X6_entry {G : GX} {y : MK} {R : Room} {Qf : QF} {pc pc' : Nat} {L : List (Option AV)} {st : List AV} {sz : Nat} {m : Mem} {k n d2 mc ms idx : Nat} {x0 x1 : AV} {P : PO} {a : Nat} {fs : List AV} (h : At y pc (.invokevirtual idx) 3 pc') (hl : Cond.methodLink y.1.cls idx yX6_entry ∈ GW) (ok : Ok G kX6_entry d2 [.inr (some a), x0, x1] sz m mc ms P) (hm : m a = obj 6 fs) (h8 : st.length ≤ 8) (hr : (d2 + 1 ≤ R.frames ∧ 8 + (3 + 11) + 40 * d2 ≤ R.locals) ∧ k + mc ≤ R.cells ∧ n + ms ≤ R.slots) (kk : ∀ (r : Option AV) (sz' : Nat) (m' : Mem), P r sz' m' → V G y R Qf pc' L (r.toList ++ st) sz' m' (k + mc) (n + ms)) : V G y R Qf pc L (x1 :: x0 :: .inr (some a) :: st) sz m k n := V.callV (args2 := [x0, x1]) h hl ca_X6_entry gm_X6_entry ge_X6_entry rfl rfl ok hm rfl h8 hr kk
theorem ca_X6_asOf : callee kX6_asOf 3 := ⟨gc_X6_asOf, gi_RX6, ⟨by decide, by decide⟩, by decide +kernel⟩
theorem call_X6_asOf {G : GX} {y : MK} {R : Room} {Qf : QF} {pc pc' : Nat} {L : List (Option AV)} {st : List AV} {sz : Nat} {m : Mem} {k n d2 mc ms idx : Nat} {x0 x1 x2 : AV} {P : PO} {a : Nat} {fs : List AV} (h : At y pc (.invokevirtual idx) 3 pc') (hl : Cond.methodLink y.1.cls idx yX6_asOf ∈ GW) (ok : Ok G kX6_asOf d2 [.inr (some a), x0, x1, x2] sz m mc ms P) (hm : m a = obj 6 fs) (h8 : st.length ≤ 8) (hr : (d2 + 1 ≤ R.frames ∧ 8 + (8 + 11) + 40 * d2 ≤ R.locals) ∧ k + mc ≤ R.cells ∧ n + ms ≤ R.slots) (kk : ∀ (r : Option AV) (sz' : Nat) (m' : Mem), P r sz' m' → V G y R Qf pc' L (r.toList ++ st) sz' m' (k + mc) (n + ms)) : V G y R Qf pc L (x2 :: x1 :: x0 :: .inr (some a) :: st) sz m k n := V.callV (args2 := [x0, x1, x2]) h hl ca_X6_asOf gm_X6_asOf ge_X6_asOf rfl rfl ok hm rfl h8 hr kk
theorem ca_X6_wouldLog : callee kX6_wouldLog 2 := ⟨gc_X6_wouldLog, gi_RX6, ⟨by decide, by decide⟩, by decide +kernel⟩
theorem call_X6_wouldLog {G : GX} {y : MK} {R : Room} {Qf : QF} {pc pc' : Nat} {L : List (Option AV)} {st : List AV} {sz : Nat} {m : Mem} {k n d2 mc ms idx : Nat} {x0 x1 : AV} {P : PO} {a : Nat} {fs : List AV} (h : At y pc (.invokevirtual idx) 3 pc') (hl : Cond.methodLink y.1.cls idx yX6_wouldLog ∈ GW) (ok : Ok G kX6_wouldLog d2 [.inr (some a), x0, x1] sz m mc ms P) (hm : m a = obj 6 fs) (h8 : st.length ≤ 8) (hr : (d2 + 1 ≤ R.frames ∧ 8 + (3 + 11) + 40 * d2 ≤ R.locals) ∧ k + mc ≤ R.cells ∧ n + ms ≤ R.slots) (kk : ∀ (r : Option AV) (sz' : Nat) (m' : Mem), P r sz' m' → V G y R Qf pc' L (r.toList ++ st) sz' m' (k + mc) (n + ms)) : V G y R Qf pc L (x1 :: x0 :: .inr (some a) :: st) sz m k n := V.callV (args2 := [x0, x1]) h hl ca_X6_wouldLog gm_X6_wouldLog ge_X6_wouldLog rfl rfl ok hm rfl h8 hr kk
theorem ca_X6_bestRenewed : callee kX6_bestRenewed 0 := ⟨gc_X6_bestRenewed, gi_RX6, ⟨by decide, by decide⟩, by decide +kernel⟩
theorem call_X6_bestRenewed {G : GX} {y : MK} {R : Room} {Qf : QF} {pc pc' : Nat} {L : List (Option AV)} {st : List AV} {sz : Nat} {m : Mem} {k n d2 mc ms idx : Nat} {P : PO} {a : Nat} {fs : List AV} (h : At y pc (.invokevirtual idx) 3 pc') (hl : Cond.methodLink y.1.cls idx yX6_bestRenewed ∈ GW) (ok : Ok G kX6_bestRenewed d2 [.inr (some a)] sz m mc ms P) (hm : m a = obj 6 fs) (h8 : st.length ≤ 8) (hr : (d2 + 1 ≤ R.frames ∧ 8 + (5 + 11) + 40 * d2 ≤ R.locals) ∧ k + mc ≤ R.cells ∧ n + ms ≤ R.slots) (kk : ∀ (r : Option AV) (sz' : Nat) (m' : Mem), P r sz' m' → V G y R Qf pc' L (r.toList ++ st) sz' m' (k + mc) (n + ms)) : V G y R Qf pc L (.inr (some a) :: st) sz m k n := V.callV (args2 := []) h hl ca_X6_bestRenewed gm_X6_bestRenewed ge_X6_bestRenewed rfl rfl ok hm rfl h8 hr kk
theorem ca_X6_count : callee kX6_count 1 := ⟨gc_X6_count, gi_RX6, ⟨by decide, by decide⟩, by decide +kernel⟩
theorem call_X6_count {G : GX} {y : MK} {R : Room} {Qf : QF} {pc pc' : Nat} {L : List (Option AV)} {st : List AV} {sz : Nat} {m : Mem} {k n d2 mc ms idx : Nat} {x0 : AV} {P : PO} {a : Nat} {fs : List AV} (h : At y pc (.invokevirtual idx) 3 pc') (hl : Cond.methodLink y.1.cls idx yX6_count ∈ GW) (ok : Ok G kX6_count d2 [.inr (some a), x0] sz m mc ms P) (hm : m a = obj 6 fs) (h8 : st.length ≤ 8) (hr : (d2 + 1 ≤ R.frames ∧ 8 + (2 + 11) + 40 * d2 ≤ R.locals) ∧ k + mc ≤ R.cells ∧ n + ms ≤ R.slots) (kk : ∀ (r : Option AV) (sz' : Nat) (m' : Mem), P r sz' m' → V G y R Qf pc' L (r.toList ++ st) sz' m' (k + mc) (n + ms)) : V G y R Qf pc L (x0 :: .inr (some a) :: st) sz m k n := V.callV (args2 := [x0]) h hl ca_X6_count gm_X6_count ge_X6_count rfl rfl ok hm rfl h8 hr kk
theorem ca_X6_ofPages : callee kX6_ofPages 1 := ⟨gc_X6_ofPages, gi_RX6, ⟨by decide, by decide⟩, by decide +kernel⟩
theorem call_X6_ofPages {G : GX} {y : MK} {R : Room} {Qf : QF} {pc pc' : Nat} {L : List (Option AV)} {st : List AV} {sz : Nat} {m : Mem} {k n d2 mc ms idx : Nat} {x0 : AV} {P : PO} {a : Nat} {fs : List AV} (h : At y pc (.invokevirtual idx) 3 pc') (hl : Cond.methodLink y.1.cls idx yX6_ofPages ∈ GW) (ok : Ok G kX6_ofPages d2 [.inr (some a), x0] sz m mc ms P) (hm : m a = obj 6 fs) (h8 : st.length ≤ 8) (hr : (d2 + 1 ≤ R.frames ∧ 8 + (4 + 11) + 40 * d2 ≤ R.locals) ∧ k + mc ≤ R.cells ∧ n + ms ≤ R.slots) (kk : ∀ (r : Option AV) (sz' : Nat) (m' : Mem), P r sz' m' → V G y R Qf pc' L (r.toList ++ st) sz' m' (k + mc) (n + ms)) : V G y R Qf pc L (x0 :: .inr (some a) :: st) sz m k n := V.callV (args2 := [x0]) h hl ca_X6_ofPages gm_X6_ofPages ge_X6_ofPages rfl rfl ok hm rfl h8 hr kk
end
section
-- folds over whole numbers
def foldN {α : Type} (f : α → Int → α) (z : α) (a : Int) : Nat → α
  | 0 => z
  | n + 1 => f (foldN f z a n) (a + n)
def foldI {α : Type} (f : α → Int → α) (z : α) (a b : Int) : α := foldN f z a (b - a).toNat
theorem foldI_0 {α : Type} {f : α → Int → α} {z : α} {a b : Int} (h : b ≤ a) : foldI f z a b = z := by
  unfold foldI
  rw [show (b - a).toNat = 0 by omega]
  rfl
theorem foldI_s {α : Type} {f : α → Int → α} {z : α} {a k : Int} (h : a ≤ k) : foldI f z a (k + 1) = f (foldI f z a k) k := by
  unfold foldI
  rw [show (k + 1 - a).toNat = (k - a).toNat + 1 by omega]
  show f _ _ = _
  rw [show a + ((k - a).toNat : Int) = k by omega]
theorem foldI_ind {α : Type} {f : α → Int → α} {z : α} {a : Int} (P : Int → α → Prop) (h0 : P a z) (hs : ∀ k x, a ≤ k → P k x → P (k + 1) (f x k)) : ∀ b, a ≤ b → P b (foldI f z a b) := by
  intro b hb
  obtain ⟨n, hn⟩ : ∃ n : Nat, b = a + n := ⟨(b - a).toNat, by omega⟩
  subst hn
  clear hb
  induction n with
  | zero => rw [foldI_0 (by omega)]; simpa using h0
  | succ n ih =>
    have e : a + ((n + 1 : Nat) : Int) = (a + n) + 1 := by omega
    rw [e, foldI_s (by omega)]
    exact hs _ _ (by omega) ih
theorem foldI_congr {α : Type} {f g : α → Int → α} {z : α} {a b : Int} (h : ∀ k x, a ≤ k → k < b → f x k = g x k) : foldI f z a b = foldI g z a b := by
  unfold foldI
  have : ∀ n : Nat, a + n ≤ b ∨ n = 0 → foldN f z a n = foldN g z a n := by
    intro n
    induction n with
    | zero => intro _; rfl
    | succ n ih =>
      intro hn
      show f _ _ = g _ _
      rw [ih (by omega), h _ _ (by omega) (by omega)]
  exact this _ (by omega)
-- from the end down
def foldD {α : Type} (f : α → Int → α) (z : α) (b a : Int) : α := foldI (fun x j => f x (b - 1 - j)) z 0 (b - a)
theorem foldD_0 {α : Type} {f : α → Int → α} {z : α} {a b : Int} (h : b ≤ a) : foldD f z b a = z := foldI_0 (by omega)
theorem foldD_s {α : Type} {f : α → Int → α} {z : α} {b k : Int} (h : k ≤ b) : foldD f z b (k - 1) = f (foldD f z b k) (k - 1) := by
  unfold foldD
  rw [show b - (k - 1) = (b - k) + 1 by omega, foldI_s (by omega)]
  congr 1
  omega
theorem foldD_ind {α : Type} {f : α → Int → α} {z : α} {b : Int} (P : Int → α → Prop) (h0 : P b z) (hs : ∀ k x, k ≤ b → P k x → P (k - 1) (f x (k - 1))) : ∀ a, a ≤ b → P a (foldD f z b a) := by
  intro a ha
  have h := foldI_ind (f := fun x j => f x (b - 1 - j)) (z := z) (a := 0) (fun j x => P (b - j) x) (by simpa using h0) (fun k x hk hp => by
    have := hs (b - k) x (by omega) hp
    rw [show b - (k + 1) = b - k - 1 by omega, show b - 1 - k = b - k - 1 by omega]
    exact this) (b - a) (by omega)
  rw [show b - (b - a) = a by omega] at h
  exact h
def b2 (P : Prop) [Decidable P] : Int := if P then 1 else 0
theorem b2_t {P : Prop} [Decidable P] (h : P) : b2 P = 1 := if_pos h
theorem b2_f {P : Prop} [Decidable P] (h : ¬ P) : b2 P = 0 := if_neg h
theorem b2_01 {P : Prop} [Decidable P] : b2 P = 0 ∨ b2 P = 1 := by
  unfold b2
  split
  · exact Or.inr rfl
  · exact Or.inl rfl
theorem b2_ne {P : Prop} [Decidable P] (h : b2 P ≠ 0) : P := by
  unfold b2 at h
  split at h
  · assumption
  · exact absurd rfl h
theorem b2_eq {P : Prop} [Decidable P] (h : b2 P = 0) : ¬ P := by
  unfold b2 at h
  split at h
  · cases h
  · assumption
-- the reference's memory: the object at o, its rows behind it
def mobj (o : Nat) (sv ish ln st : Int) : List AV := [.inr (some (o + 1)), .inr (some (o + 2)), .inr (some (o + 3)), .inl sv, .inr (some (o + 4)), .inl ish, .inr (some (o + 5)), .inl ln, .inr (some (o + 6)), .inr (some (o + 7)), .inr (some (o + 8)), .inl st]
def MM (m : Mem) (o : Nat) (s sp pa : Int → Int) (sv : Int) (sh : Int → Int) (ish : Int) (tx : Int → Int) (ln : Int) (cl bf mk : Int → Int) (st : Int) : Mem := fun a => if a = o then obj 6 (mobj o sv ish ln st) else if a = o + 1 then iar 1870 s else if a = o + 2 then iar 1870 sp else if a = o + 3 then iar 7480 pa else if a = o + 4 then iar 1870 sh else if a = o + 5 then car 60 tx else if a = o + 6 then iar 12 cl else if a = o + 7 then iar 12 bf else if a = o + 8 then iar 17 mk else m a
section
variable {m m2 : Mem} {o : Nat} {s sp pa sh tx cl bf mk : Int → Int} {sv ish ln st : Int}
theorem MM_o : (MM m o s sp pa sv sh ish tx ln cl bf mk st) o = obj 6 (mobj o sv ish ln st) := if_pos rfl
theorem MM_s : (MM m o s sp pa sv sh ish tx ln cl bf mk st) (o + 1) = iar 1870 s := by simp [MM]
theorem MM_sp : (MM m o s sp pa sv sh ish tx ln cl bf mk st) (o + 2) = iar 1870 sp := by simp [MM]
theorem MM_pa : (MM m o s sp pa sv sh ish tx ln cl bf mk st) (o + 3) = iar 7480 pa := by simp [MM]
theorem MM_sh : (MM m o s sp pa sv sh ish tx ln cl bf mk st) (o + 4) = iar 1870 sh := by simp [MM]
theorem MM_tx : (MM m o s sp pa sv sh ish tx ln cl bf mk st) (o + 5) = car 60 tx := by simp [MM]
theorem MM_cl : (MM m o s sp pa sv sh ish tx ln cl bf mk st) (o + 6) = iar 12 cl := by simp [MM]
theorem MM_bf : (MM m o s sp pa sv sh ish tx ln cl bf mk st) (o + 7) = iar 12 bf := by simp [MM]
theorem MM_mk : (MM m o s sp pa sv sh ish tx ln cl bf mk st) (o + 8) = iar 17 mk := by simp [MM]
theorem MM_n {a : Nat} (h : a < o ∨ o + 9 ≤ a) : (MM m o s sp pa sv sh ish tx ln cl bf mk st) a = m a := by
  unfold MM
  rw [if_neg (by omega), if_neg (by omega), if_neg (by omega), if_neg (by omega), if_neg (by omega), if_neg (by omega), if_neg (by omega), if_neg (by omega), if_neg (by omega)]
theorem MM_ext (h0 : m2 o = obj 6 (mobj o sv ish ln st)) (h1 : m2 (o + 1) = iar 1870 s) (h2 : m2 (o + 2) = iar 1870 sp) (h3 : m2 (o + 3) = iar 7480 pa) (h4 : m2 (o + 4) = iar 1870 sh) (h5 : m2 (o + 5) = car 60 tx) (h6 : m2 (o + 6) = iar 12 cl) (h7 : m2 (o + 7) = iar 12 bf) (h8 : m2 (o + 8) = iar 17 mk) (hn : ∀ a, a < o ∨ o + 9 ≤ a → m2 a = m a) : m2 = (MM m o s sp pa sv sh ish tx ln cl bf mk st) := by
  funext a
  by_cases h : a < o ∨ o + 9 ≤ a
  · rw [hn a h, MM_n h]
  · obtain ⟨d, hd⟩ : ∃ d, a = o + d := ⟨a - o, by omega⟩
    subst hd
    have h9 : d < 9 := by omega
    match d, h9 with
    | 0, _ => rw [Nat.add_zero, h0, MM_o]
    | 1, _ => rw [h1, MM_s]
    | 2, _ => rw [h2, MM_sp]
    | 3, _ => rw [h3, MM_pa]
    | 4, _ => rw [h4, MM_sh]
    | 5, _ => rw [h5, MM_tx]
    | 6, _ => rw [h6, MM_cl]
    | 7, _ => rw [h7, MM_bf]
    | 8, _ => rw [h8, MM_mk]
theorem MM_ws {x : Int → Int} : upM (MM m o s sp pa sv sh ish tx ln cl bf mk st) (o + 1) (iar 1870 x) = (MM m o x sp pa sv sh ish tx ln cl bf mk st) := by
  refine MM_ext (by rw [upM_n (by omega), MM_o]) (by rw [upM_s]) (by rw [upM_n (by omega), MM_sp]) (by rw [upM_n (by omega), MM_pa]) (by rw [upM_n (by omega), MM_sh]) (by rw [upM_n (by omega), MM_tx]) (by rw [upM_n (by omega), MM_cl]) (by rw [upM_n (by omega), MM_bf]) (by rw [upM_n (by omega), MM_mk]) (fun a ha => by rw [upM_n (by omega), MM_n ha])
theorem MM_wsp {x : Int → Int} : upM (MM m o s sp pa sv sh ish tx ln cl bf mk st) (o + 2) (iar 1870 x) = (MM m o s x pa sv sh ish tx ln cl bf mk st) := by
  refine MM_ext (by rw [upM_n (by omega), MM_o]) (by rw [upM_n (by omega), MM_s]) (by rw [upM_s]) (by rw [upM_n (by omega), MM_pa]) (by rw [upM_n (by omega), MM_sh]) (by rw [upM_n (by omega), MM_tx]) (by rw [upM_n (by omega), MM_cl]) (by rw [upM_n (by omega), MM_bf]) (by rw [upM_n (by omega), MM_mk]) (fun a ha => by rw [upM_n (by omega), MM_n ha])
theorem MM_wpa {x : Int → Int} : upM (MM m o s sp pa sv sh ish tx ln cl bf mk st) (o + 3) (iar 7480 x) = (MM m o s sp x sv sh ish tx ln cl bf mk st) := by
  refine MM_ext (by rw [upM_n (by omega), MM_o]) (by rw [upM_n (by omega), MM_s]) (by rw [upM_n (by omega), MM_sp]) (by rw [upM_s]) (by rw [upM_n (by omega), MM_sh]) (by rw [upM_n (by omega), MM_tx]) (by rw [upM_n (by omega), MM_cl]) (by rw [upM_n (by omega), MM_bf]) (by rw [upM_n (by omega), MM_mk]) (fun a ha => by rw [upM_n (by omega), MM_n ha])
theorem MM_wsh {x : Int → Int} : upM (MM m o s sp pa sv sh ish tx ln cl bf mk st) (o + 4) (iar 1870 x) = (MM m o s sp pa sv x ish tx ln cl bf mk st) := by
  refine MM_ext (by rw [upM_n (by omega), MM_o]) (by rw [upM_n (by omega), MM_s]) (by rw [upM_n (by omega), MM_sp]) (by rw [upM_n (by omega), MM_pa]) (by rw [upM_s]) (by rw [upM_n (by omega), MM_tx]) (by rw [upM_n (by omega), MM_cl]) (by rw [upM_n (by omega), MM_bf]) (by rw [upM_n (by omega), MM_mk]) (fun a ha => by rw [upM_n (by omega), MM_n ha])
theorem MM_wtx {x : Int → Int} : upM (MM m o s sp pa sv sh ish tx ln cl bf mk st) (o + 5) (car 60 x) = (MM m o s sp pa sv sh ish x ln cl bf mk st) := by
  refine MM_ext (by rw [upM_n (by omega), MM_o]) (by rw [upM_n (by omega), MM_s]) (by rw [upM_n (by omega), MM_sp]) (by rw [upM_n (by omega), MM_pa]) (by rw [upM_n (by omega), MM_sh]) (by rw [upM_s]) (by rw [upM_n (by omega), MM_cl]) (by rw [upM_n (by omega), MM_bf]) (by rw [upM_n (by omega), MM_mk]) (fun a ha => by rw [upM_n (by omega), MM_n ha])
theorem MM_wcl {x : Int → Int} : upM (MM m o s sp pa sv sh ish tx ln cl bf mk st) (o + 6) (iar 12 x) = (MM m o s sp pa sv sh ish tx ln x bf mk st) := by
  refine MM_ext (by rw [upM_n (by omega), MM_o]) (by rw [upM_n (by omega), MM_s]) (by rw [upM_n (by omega), MM_sp]) (by rw [upM_n (by omega), MM_pa]) (by rw [upM_n (by omega), MM_sh]) (by rw [upM_n (by omega), MM_tx]) (by rw [upM_s]) (by rw [upM_n (by omega), MM_bf]) (by rw [upM_n (by omega), MM_mk]) (fun a ha => by rw [upM_n (by omega), MM_n ha])
theorem MM_wbf {x : Int → Int} : upM (MM m o s sp pa sv sh ish tx ln cl bf mk st) (o + 7) (iar 12 x) = (MM m o s sp pa sv sh ish tx ln cl x mk st) := by
  refine MM_ext (by rw [upM_n (by omega), MM_o]) (by rw [upM_n (by omega), MM_s]) (by rw [upM_n (by omega), MM_sp]) (by rw [upM_n (by omega), MM_pa]) (by rw [upM_n (by omega), MM_sh]) (by rw [upM_n (by omega), MM_tx]) (by rw [upM_n (by omega), MM_cl]) (by rw [upM_s]) (by rw [upM_n (by omega), MM_mk]) (fun a ha => by rw [upM_n (by omega), MM_n ha])
theorem MM_wmk {x : Int → Int} : upM (MM m o s sp pa sv sh ish tx ln cl bf mk st) (o + 8) (iar 17 x) = (MM m o s sp pa sv sh ish tx ln cl bf x st) := by
  refine MM_ext (by rw [upM_n (by omega), MM_o]) (by rw [upM_n (by omega), MM_s]) (by rw [upM_n (by omega), MM_sp]) (by rw [upM_n (by omega), MM_pa]) (by rw [upM_n (by omega), MM_sh]) (by rw [upM_n (by omega), MM_tx]) (by rw [upM_n (by omega), MM_cl]) (by rw [upM_n (by omega), MM_bf]) (by rw [upM_s]) (fun a ha => by rw [upM_n (by omega), MM_n ha])
theorem MM_wsv {z : Int} : upM (MM m o s sp pa sv sh ish tx ln cl bf mk st) o (obj 6 ((mobj o sv ish ln st).set 3 (.inl z))) = (MM m o s sp pa z sh ish tx ln cl bf mk st) := by
  refine MM_ext (by rw [upM_s]; rfl) (by rw [upM_n (by omega), MM_s]) (by rw [upM_n (by omega), MM_sp]) (by rw [upM_n (by omega), MM_pa]) (by rw [upM_n (by omega), MM_sh]) (by rw [upM_n (by omega), MM_tx]) (by rw [upM_n (by omega), MM_cl]) (by rw [upM_n (by omega), MM_bf]) (by rw [upM_n (by omega), MM_mk]) (fun a ha => by rw [upM_n (by omega), MM_n ha])
theorem MM_wish {z : Int} : upM (MM m o s sp pa sv sh ish tx ln cl bf mk st) o (obj 6 ((mobj o sv ish ln st).set 5 (.inl z))) = (MM m o s sp pa sv sh z tx ln cl bf mk st) := by
  refine MM_ext (by rw [upM_s]; rfl) (by rw [upM_n (by omega), MM_s]) (by rw [upM_n (by omega), MM_sp]) (by rw [upM_n (by omega), MM_pa]) (by rw [upM_n (by omega), MM_sh]) (by rw [upM_n (by omega), MM_tx]) (by rw [upM_n (by omega), MM_cl]) (by rw [upM_n (by omega), MM_bf]) (by rw [upM_n (by omega), MM_mk]) (fun a ha => by rw [upM_n (by omega), MM_n ha])
theorem MM_wln {z : Int} : upM (MM m o s sp pa sv sh ish tx ln cl bf mk st) o (obj 6 ((mobj o sv ish ln st).set 7 (.inl z))) = (MM m o s sp pa sv sh ish tx z cl bf mk st) := by
  refine MM_ext (by rw [upM_s]; rfl) (by rw [upM_n (by omega), MM_s]) (by rw [upM_n (by omega), MM_sp]) (by rw [upM_n (by omega), MM_pa]) (by rw [upM_n (by omega), MM_sh]) (by rw [upM_n (by omega), MM_tx]) (by rw [upM_n (by omega), MM_cl]) (by rw [upM_n (by omega), MM_bf]) (by rw [upM_n (by omega), MM_mk]) (fun a ha => by rw [upM_n (by omega), MM_n ha])
theorem MM_wst {z : Int} : upM (MM m o s sp pa sv sh ish tx ln cl bf mk st) o (obj 6 ((mobj o sv ish ln st).set 11 (.inl z))) = (MM m o s sp pa sv sh ish tx ln cl bf mk z) := by
  refine MM_ext (by rw [upM_s]; rfl) (by rw [upM_n (by omega), MM_s]) (by rw [upM_n (by omega), MM_sp]) (by rw [upM_n (by omega), MM_pa]) (by rw [upM_n (by omega), MM_sh]) (by rw [upM_n (by omega), MM_tx]) (by rw [upM_n (by omega), MM_cl]) (by rw [upM_n (by omega), MM_bf]) (by rw [upM_n (by omega), MM_mk]) (fun a ha => by rw [upM_n (by omega), MM_n ha])
end
section
variable {G : GX} {y : MK} {R : Room} {Qf : QF} {pc pc' : Nat} {L : List (Option AV)} {S : List AV} {sz : Nat} {m : Mem} {k n o : Nat} {s sp pa sh tx cl bf mk : Int → Int} {sv ish ln st : Int}
theorem M.gf {idx j : Nat} {fin : Bool} {ty : FieldType} {v : AV} (h : At y pc (.getfield idx) 3 pc') (hf : FL y.1.cls idx 6 j fin ty) (hv : (mobj o sv ish ln st)[j]? = some v) (kk : V G y R Qf pc' L (v :: S) sz (MM m o s sp pa sv sh ish tx ln cl bf mk st) k n) : V G y R Qf pc L (.inr (some o) :: S) sz (MM m o s sp pa sv sh ish tx ln cl bf mk st) k n := V.getf h hf MM_o hv kk
theorem M.lds {i : Int} (h : At y pc .iaload 1 pc') (h0 : 0 ≤ i ∧ i < 1870) (kk : V G y R Qf pc' L (.inl (s i) :: S) sz (MM m o s sp pa sv sh ish tx ln cl bf mk st) k n) : V G y R Qf pc L (.inl i :: .inr (some (o + 1)) :: S) sz (MM m o s sp pa sv sh ish tx ln cl bf mk st) k n := V.iald h MM_s h0.1 h0.2 kk
theorem M.sts {i x : Int} (h : At y pc .iastore 1 pc') (h0 : 0 ≤ i ∧ i < 1870) (kk : V G y R Qf pc' L S sz (MM m o (upI s i x) sp pa sv sh ish tx ln cl bf mk st) k n) : V G y R Qf pc L (.inl x :: .inl i :: .inr (some (o + 1)) :: S) sz (MM m o s sp pa sv sh ish tx ln cl bf mk st) k n := V.iast h MM_s h0.1 h0.2 (V.mem MM_ws.symm kk)
theorem M.kns (kk : (∀ i : Int, 0 ≤ i → i < 1870 → inR (s i)) → V G y R Qf pc L S sz (MM m o s sp pa sv sh ish tx ln cl bf mk st) k n) : V G y R Qf pc L S sz (MM m o s sp pa sv sh ish tx ln cl bf mk st) k n := V.knowI MM_s kk
theorem M.ldsp {i : Int} (h : At y pc .iaload 1 pc') (h0 : 0 ≤ i ∧ i < 1870) (kk : V G y R Qf pc' L (.inl (sp i) :: S) sz (MM m o s sp pa sv sh ish tx ln cl bf mk st) k n) : V G y R Qf pc L (.inl i :: .inr (some (o + 2)) :: S) sz (MM m o s sp pa sv sh ish tx ln cl bf mk st) k n := V.iald h MM_sp h0.1 h0.2 kk
theorem M.stsp {i x : Int} (h : At y pc .iastore 1 pc') (h0 : 0 ≤ i ∧ i < 1870) (kk : V G y R Qf pc' L S sz (MM m o s (upI sp i x) pa sv sh ish tx ln cl bf mk st) k n) : V G y R Qf pc L (.inl x :: .inl i :: .inr (some (o + 2)) :: S) sz (MM m o s sp pa sv sh ish tx ln cl bf mk st) k n := V.iast h MM_sp h0.1 h0.2 (V.mem MM_wsp.symm kk)
theorem M.knsp (kk : (∀ i : Int, 0 ≤ i → i < 1870 → inR (sp i)) → V G y R Qf pc L S sz (MM m o s sp pa sv sh ish tx ln cl bf mk st) k n) : V G y R Qf pc L S sz (MM m o s sp pa sv sh ish tx ln cl bf mk st) k n := V.knowI MM_sp kk
theorem M.ldpa {i : Int} (h : At y pc .iaload 1 pc') (h0 : 0 ≤ i ∧ i < 7480) (kk : V G y R Qf pc' L (.inl (pa i) :: S) sz (MM m o s sp pa sv sh ish tx ln cl bf mk st) k n) : V G y R Qf pc L (.inl i :: .inr (some (o + 3)) :: S) sz (MM m o s sp pa sv sh ish tx ln cl bf mk st) k n := V.iald h MM_pa h0.1 h0.2 kk
theorem M.stpa {i x : Int} (h : At y pc .iastore 1 pc') (h0 : 0 ≤ i ∧ i < 7480) (kk : V G y R Qf pc' L S sz (MM m o s sp (upI pa i x) sv sh ish tx ln cl bf mk st) k n) : V G y R Qf pc L (.inl x :: .inl i :: .inr (some (o + 3)) :: S) sz (MM m o s sp pa sv sh ish tx ln cl bf mk st) k n := V.iast h MM_pa h0.1 h0.2 (V.mem MM_wpa.symm kk)
theorem M.knpa (kk : (∀ i : Int, 0 ≤ i → i < 7480 → inR (pa i)) → V G y R Qf pc L S sz (MM m o s sp pa sv sh ish tx ln cl bf mk st) k n) : V G y R Qf pc L S sz (MM m o s sp pa sv sh ish tx ln cl bf mk st) k n := V.knowI MM_pa kk
theorem M.pfsv {idx : Nat} {z : Int} (h : At y pc (.putfield idx) 3 pc') (hf : FL y.1.cls idx 6 3 false .int) (kk : V G y R Qf pc' L S sz (MM m o s sp pa z sh ish tx ln cl bf mk st) k n) : V G y R Qf pc L (.inl z :: .inr (some o) :: S) sz (MM m o s sp pa sv sh ish tx ln cl bf mk st) k n := V.putf h hf MM_o (Nat.le_of_ble_eq_true rfl) rfl rfl (V.mem MM_wsv.symm kk)
theorem M.ldsh {i : Int} (h : At y pc .iaload 1 pc') (h0 : 0 ≤ i ∧ i < 1870) (kk : V G y R Qf pc' L (.inl (sh i) :: S) sz (MM m o s sp pa sv sh ish tx ln cl bf mk st) k n) : V G y R Qf pc L (.inl i :: .inr (some (o + 4)) :: S) sz (MM m o s sp pa sv sh ish tx ln cl bf mk st) k n := V.iald h MM_sh h0.1 h0.2 kk
theorem M.stsh {i x : Int} (h : At y pc .iastore 1 pc') (h0 : 0 ≤ i ∧ i < 1870) (kk : V G y R Qf pc' L S sz (MM m o s sp pa sv (upI sh i x) ish tx ln cl bf mk st) k n) : V G y R Qf pc L (.inl x :: .inl i :: .inr (some (o + 4)) :: S) sz (MM m o s sp pa sv sh ish tx ln cl bf mk st) k n := V.iast h MM_sh h0.1 h0.2 (V.mem MM_wsh.symm kk)
theorem M.knsh (kk : (∀ i : Int, 0 ≤ i → i < 1870 → inR (sh i)) → V G y R Qf pc L S sz (MM m o s sp pa sv sh ish tx ln cl bf mk st) k n) : V G y R Qf pc L S sz (MM m o s sp pa sv sh ish tx ln cl bf mk st) k n := V.knowI MM_sh kk
theorem M.pfish {idx : Nat} {z : Int} (h : At y pc (.putfield idx) 3 pc') (hf : FL y.1.cls idx 6 5 false .boolean) (hz : z = 0 ∨ z = 1) (kk : V G y R Qf pc' L S sz (MM m o s sp pa sv sh z tx ln cl bf mk st) k n) : V G y R Qf pc L (.inl z :: .inr (some o) :: S) sz (MM m o s sp pa sv sh ish tx ln cl bf mk st) k n := V.putf h hf MM_o (Nat.le_of_ble_eq_true rfl) (by rcases hz with rfl | rfl <;> rfl) (by rcases hz with rfl | rfl <;> rfl) (V.mem MM_wish.symm kk)
theorem M.ldtx {i : Int} (h : At y pc .caload 1 pc') (h0 : 0 ≤ i ∧ i < 60) (kk : V G y R Qf pc' L (.inl (tx i) :: S) sz (MM m o s sp pa sv sh ish tx ln cl bf mk st) k n) : V G y R Qf pc L (.inl i :: .inr (some (o + 5)) :: S) sz (MM m o s sp pa sv sh ish tx ln cl bf mk st) k n := V.cald h MM_tx h0.1 h0.2 kk
theorem M.sttx {i x : Int} (h : At y pc .castore 1 pc') (h0 : 0 ≤ i ∧ i < 60) (hx : 0 ≤ x ∧ x < 65536) (kk : V G y R Qf pc' L S sz (MM m o s sp pa sv sh ish (upI tx i x) ln cl bf mk st) k n) : V G y R Qf pc L (.inl x :: .inl i :: .inr (some (o + 5)) :: S) sz (MM m o s sp pa sv sh ish tx ln cl bf mk st) k n := V.cast h MM_tx h0.1 h0.2 hx.1 hx.2 (V.mem MM_wtx.symm kk)
theorem M.pfln {idx : Nat} {z : Int} (h : At y pc (.putfield idx) 3 pc') (hf : FL y.1.cls idx 6 7 false .int) (kk : V G y R Qf pc' L S sz (MM m o s sp pa sv sh ish tx z cl bf mk st) k n) : V G y R Qf pc L (.inl z :: .inr (some o) :: S) sz (MM m o s sp pa sv sh ish tx ln cl bf mk st) k n := V.putf h hf MM_o (Nat.le_of_ble_eq_true rfl) rfl rfl (V.mem MM_wln.symm kk)
theorem M.ldcl {i : Int} (h : At y pc .iaload 1 pc') (h0 : 0 ≤ i ∧ i < 12) (kk : V G y R Qf pc' L (.inl (cl i) :: S) sz (MM m o s sp pa sv sh ish tx ln cl bf mk st) k n) : V G y R Qf pc L (.inl i :: .inr (some (o + 6)) :: S) sz (MM m o s sp pa sv sh ish tx ln cl bf mk st) k n := V.iald h MM_cl h0.1 h0.2 kk
theorem M.stcl {i x : Int} (h : At y pc .iastore 1 pc') (h0 : 0 ≤ i ∧ i < 12) (kk : V G y R Qf pc' L S sz (MM m o s sp pa sv sh ish tx ln (upI cl i x) bf mk st) k n) : V G y R Qf pc L (.inl x :: .inl i :: .inr (some (o + 6)) :: S) sz (MM m o s sp pa sv sh ish tx ln cl bf mk st) k n := V.iast h MM_cl h0.1 h0.2 (V.mem MM_wcl.symm kk)
theorem M.kncl (kk : (∀ i : Int, 0 ≤ i → i < 12 → inR (cl i)) → V G y R Qf pc L S sz (MM m o s sp pa sv sh ish tx ln cl bf mk st) k n) : V G y R Qf pc L S sz (MM m o s sp pa sv sh ish tx ln cl bf mk st) k n := V.knowI MM_cl kk
theorem M.ldbf {i : Int} (h : At y pc .iaload 1 pc') (h0 : 0 ≤ i ∧ i < 12) (kk : V G y R Qf pc' L (.inl (bf i) :: S) sz (MM m o s sp pa sv sh ish tx ln cl bf mk st) k n) : V G y R Qf pc L (.inl i :: .inr (some (o + 7)) :: S) sz (MM m o s sp pa sv sh ish tx ln cl bf mk st) k n := V.iald h MM_bf h0.1 h0.2 kk
theorem M.stbf {i x : Int} (h : At y pc .iastore 1 pc') (h0 : 0 ≤ i ∧ i < 12) (kk : V G y R Qf pc' L S sz (MM m o s sp pa sv sh ish tx ln cl (upI bf i x) mk st) k n) : V G y R Qf pc L (.inl x :: .inl i :: .inr (some (o + 7)) :: S) sz (MM m o s sp pa sv sh ish tx ln cl bf mk st) k n := V.iast h MM_bf h0.1 h0.2 (V.mem MM_wbf.symm kk)
theorem M.knbf (kk : (∀ i : Int, 0 ≤ i → i < 12 → inR (bf i)) → V G y R Qf pc L S sz (MM m o s sp pa sv sh ish tx ln cl bf mk st) k n) : V G y R Qf pc L S sz (MM m o s sp pa sv sh ish tx ln cl bf mk st) k n := V.knowI MM_bf kk
theorem M.ldmk {i : Int} (h : At y pc .iaload 1 pc') (h0 : 0 ≤ i ∧ i < 17) (kk : V G y R Qf pc' L (.inl (mk i) :: S) sz (MM m o s sp pa sv sh ish tx ln cl bf mk st) k n) : V G y R Qf pc L (.inl i :: .inr (some (o + 8)) :: S) sz (MM m o s sp pa sv sh ish tx ln cl bf mk st) k n := V.iald h MM_mk h0.1 h0.2 kk
theorem M.stmk {i x : Int} (h : At y pc .iastore 1 pc') (h0 : 0 ≤ i ∧ i < 17) (kk : V G y R Qf pc' L S sz (MM m o s sp pa sv sh ish tx ln cl bf (upI mk i x) st) k n) : V G y R Qf pc L (.inl x :: .inl i :: .inr (some (o + 8)) :: S) sz (MM m o s sp pa sv sh ish tx ln cl bf mk st) k n := V.iast h MM_mk h0.1 h0.2 (V.mem MM_wmk.symm kk)
theorem M.knmk (kk : (∀ i : Int, 0 ≤ i → i < 17 → inR (mk i)) → V G y R Qf pc L S sz (MM m o s sp pa sv sh ish tx ln cl bf mk st) k n) : V G y R Qf pc L S sz (MM m o s sp pa sv sh ish tx ln cl bf mk st) k n := V.knowI MM_mk kk
theorem M.pfst {idx : Nat} {z : Int} (h : At y pc (.putfield idx) 3 pc') (hf : FL y.1.cls idx 6 11 false .int) (kk : V G y R Qf pc' L S sz (MM m o s sp pa sv sh ish tx ln cl bf mk z) k n) : V G y R Qf pc L (.inl z :: .inr (some o) :: S) sz (MM m o s sp pa sv sh ish tx ln cl bf mk st) k n := V.putf h hf MM_o (Nat.le_of_ble_eq_true rfl) rfl rfl (V.mem MM_wst.symm kk)
theorem M.kntx (kk : (∀ i : Int, 0 ≤ i → i < 60 → 0 ≤ tx i ∧ tx i < 65536) → V G y R Qf pc L S sz (MM m o s sp pa sv sh ish tx ln cl bf mk st) k n) : V G y R Qf pc L S sz (MM m o s sp pa sv sh ish tx ln cl bf mk st) k n := V.knowC MM_tx kk
theorem M.know (kk : (∀ z : Int, .inl z ∈ (mobj o sv ish ln st) → inR z) → V G y R Qf pc L S sz (MM m o s sp pa sv sh ish tx ln cl bf mk st) k n) : V G y R Qf pc L S sz (MM m o s sp pa sv sh ish tx ln cl bf mk st) k n := V.knowO MM_o (fun h => kk (fun z hz => h _ hz))
end
end
section
-- what the reference computes, out of its row s (part one: reading)
theorem PI.of {z z2 : Int} {sz : Nat} {m : Mem} (h : z = z2) : PI z2 sz m (some (.inl z)) sz m := ⟨by rw [h], rfl, rfl⟩
theorem PV.of {sz : Nat} {m m2 : Mem} (h : m = m2) : PV sz m2 none sz m := ⟨rfl, rfl, h⟩
theorem V.tsw4 {G : GX} {y : MK} {R : Room} {Qf : QF} {pc pc' : Nat} {L : List (Option AV)} {st : List AV} {sz : Nat} {m : Mem} {k n len : Nat} {z d o0 o1 o2 o3 : Int} (h : At y pc (.tableswitch d 0 3 #[o0, o1, o2, o3]) len pc') {t0 t1 t2 t3 t4 : Nat} (h0 : (pc : Int) + o0 = (t0 : Int)) (h1 : (pc : Int) + o1 = (t1 : Int)) (h2 : (pc : Int) + o2 = (t2 : Int)) (h3 : (pc : Int) + o3 = (t3 : Int)) (h4 : (pc : Int) + d = (t4 : Int)) (k0 : z = 0 → V G y R Qf t0 L st sz m k n) (k1 : z = 1 → V G y R Qf t1 L st sz m k n) (k2 : z = 2 → V G y R Qf t2 L st sz m k n) (k3 : z = 3 → V G y R Qf t3 L st sz m k n) (k4 : z < 0 ∨ 3 < z → V G y R Qf t4 L st sz m k n) : V G y R Qf pc L (.inl z :: st) sz m k n := by
  by_cases c0 : z = 0
  · subst c0
    exact V.tswIn h (by decide) (by decide) rfl h0 (k0 rfl)
  by_cases c1 : z = 1
  · subst c1
    exact V.tswIn h (by decide) (by decide) rfl h1 (k1 rfl)
  by_cases c2 : z = 2
  · subst c2
    exact V.tswIn h (by decide) (by decide) rfl h2 (k2 rfl)
  by_cases c3 : z = 3
  · subst c3
    exact V.tswIn h (by decide) (by decide) rfl h3 (k3 rfl)
  exact V.tswOut h (by omega) h4 (k4 (by omega))
theorem V.tsw7 {G : GX} {y : MK} {R : Room} {Qf : QF} {pc pc' : Nat} {L : List (Option AV)} {st : List AV} {sz : Nat} {m : Mem} {k n len : Nat} {z d o0 o1 o2 o3 o4 o5 o6 : Int} (h : At y pc (.tableswitch d 0 6 #[o0, o1, o2, o3, o4, o5, o6]) len pc') {t0 t1 t2 t3 t4 t5 t6 t7 : Nat} (h0 : (pc : Int) + o0 = (t0 : Int)) (h1 : (pc : Int) + o1 = (t1 : Int)) (h2 : (pc : Int) + o2 = (t2 : Int)) (h3 : (pc : Int) + o3 = (t3 : Int)) (h4 : (pc : Int) + o4 = (t4 : Int)) (h5 : (pc : Int) + o5 = (t5 : Int)) (h6 : (pc : Int) + o6 = (t6 : Int)) (h7 : (pc : Int) + d = (t7 : Int)) (k0 : z = 0 → V G y R Qf t0 L st sz m k n) (k1 : z = 1 → V G y R Qf t1 L st sz m k n) (k2 : z = 2 → V G y R Qf t2 L st sz m k n) (k3 : z = 3 → V G y R Qf t3 L st sz m k n) (k4 : z = 4 → V G y R Qf t4 L st sz m k n) (k5 : z = 5 → V G y R Qf t5 L st sz m k n) (k6 : z = 6 → V G y R Qf t6 L st sz m k n) (k7 : z < 0 ∨ 6 < z → V G y R Qf t7 L st sz m k n) : V G y R Qf pc L (.inl z :: st) sz m k n := by
  by_cases c0 : z = 0
  · subst c0
    exact V.tswIn h (by decide) (by decide) rfl h0 (k0 rfl)
  by_cases c1 : z = 1
  · subst c1
    exact V.tswIn h (by decide) (by decide) rfl h1 (k1 rfl)
  by_cases c2 : z = 2
  · subst c2
    exact V.tswIn h (by decide) (by decide) rfl h2 (k2 rfl)
  by_cases c3 : z = 3
  · subst c3
    exact V.tswIn h (by decide) (by decide) rfl h3 (k3 rfl)
  by_cases c4 : z = 4
  · subst c4
    exact V.tswIn h (by decide) (by decide) rfl h4 (k4 rfl)
  by_cases c5 : z = 5
  · subst c5
    exact V.tswIn h (by decide) (by decide) rfl h5 (k5 rfl)
  by_cases c6 : z = 6
  · subst c6
    exact V.tswIn h (by decide) (by decide) rfl h6 (k6 rfl)
  exact V.tswOut h (by omega) h7 (k7 (by omega))
theorem V.tsw14 {G : GX} {y : MK} {R : Room} {Qf : QF} {pc pc' : Nat} {L : List (Option AV)} {st : List AV} {sz : Nat} {m : Mem} {k n len : Nat} {z d o0 o1 o2 o3 o4 o5 o6 o7 o8 o9 o10 o11 o12 o13 : Int} (h : At y pc (.tableswitch d 0 13 #[o0, o1, o2, o3, o4, o5, o6, o7, o8, o9, o10, o11, o12, o13]) len pc') {t0 t1 t2 t3 t4 t5 t6 t7 t8 t9 t10 t11 t12 t13 t14 : Nat} (h0 : (pc : Int) + o0 = (t0 : Int)) (h1 : (pc : Int) + o1 = (t1 : Int)) (h2 : (pc : Int) + o2 = (t2 : Int)) (h3 : (pc : Int) + o3 = (t3 : Int)) (h4 : (pc : Int) + o4 = (t4 : Int)) (h5 : (pc : Int) + o5 = (t5 : Int)) (h6 : (pc : Int) + o6 = (t6 : Int)) (h7 : (pc : Int) + o7 = (t7 : Int)) (h8 : (pc : Int) + o8 = (t8 : Int)) (h9 : (pc : Int) + o9 = (t9 : Int)) (h10 : (pc : Int) + o10 = (t10 : Int)) (h11 : (pc : Int) + o11 = (t11 : Int)) (h12 : (pc : Int) + o12 = (t12 : Int)) (h13 : (pc : Int) + o13 = (t13 : Int)) (h14 : (pc : Int) + d = (t14 : Int)) (k0 : z = 0 → V G y R Qf t0 L st sz m k n) (k1 : z = 1 → V G y R Qf t1 L st sz m k n) (k2 : z = 2 → V G y R Qf t2 L st sz m k n) (k3 : z = 3 → V G y R Qf t3 L st sz m k n) (k4 : z = 4 → V G y R Qf t4 L st sz m k n) (k5 : z = 5 → V G y R Qf t5 L st sz m k n) (k6 : z = 6 → V G y R Qf t6 L st sz m k n) (k7 : z = 7 → V G y R Qf t7 L st sz m k n) (k8 : z = 8 → V G y R Qf t8 L st sz m k n) (k9 : z = 9 → V G y R Qf t9 L st sz m k n) (k10 : z = 10 → V G y R Qf t10 L st sz m k n) (k11 : z = 11 → V G y R Qf t11 L st sz m k n) (k12 : z = 12 → V G y R Qf t12 L st sz m k n) (k13 : z = 13 → V G y R Qf t13 L st sz m k n) (k14 : z < 0 ∨ 13 < z → V G y R Qf t14 L st sz m k n) : V G y R Qf pc L (.inl z :: st) sz m k n := by
  by_cases c0 : z = 0
  · subst c0
    exact V.tswIn h (by decide) (by decide) rfl h0 (k0 rfl)
  by_cases c1 : z = 1
  · subst c1
    exact V.tswIn h (by decide) (by decide) rfl h1 (k1 rfl)
  by_cases c2 : z = 2
  · subst c2
    exact V.tswIn h (by decide) (by decide) rfl h2 (k2 rfl)
  by_cases c3 : z = 3
  · subst c3
    exact V.tswIn h (by decide) (by decide) rfl h3 (k3 rfl)
  by_cases c4 : z = 4
  · subst c4
    exact V.tswIn h (by decide) (by decide) rfl h4 (k4 rfl)
  by_cases c5 : z = 5
  · subst c5
    exact V.tswIn h (by decide) (by decide) rfl h5 (k5 rfl)
  by_cases c6 : z = 6
  · subst c6
    exact V.tswIn h (by decide) (by decide) rfl h6 (k6 rfl)
  by_cases c7 : z = 7
  · subst c7
    exact V.tswIn h (by decide) (by decide) rfl h7 (k7 rfl)
  by_cases c8 : z = 8
  · subst c8
    exact V.tswIn h (by decide) (by decide) rfl h8 (k8 rfl)
  by_cases c9 : z = 9
  · subst c9
    exact V.tswIn h (by decide) (by decide) rfl h9 (k9 rfl)
  by_cases c10 : z = 10
  · subst c10
    exact V.tswIn h (by decide) (by decide) rfl h10 (k10 rfl)
  by_cases c11 : z = 11
  · subst c11
    exact V.tswIn h (by decide) (by decide) rfl h11 (k11 rfl)
  by_cases c12 : z = 12
  · subst c12
    exact V.tswIn h (by decide) (by decide) rfl h12 (k12 rfl)
  by_cases c13 : z = 13
  · subst c13
    exact V.tswIn h (by decide) (by decide) rfl h13 (k13 rfl)
  exact V.tswOut h (by omega) h14 (k14 (by omega))
theorem V.tsw25 {G : GX} {y : MK} {R : Room} {Qf : QF} {pc pc' : Nat} {L : List (Option AV)} {st : List AV} {sz : Nat} {m : Mem} {k n len : Nat} {z d o0 o1 o2 o3 o4 o5 o6 o7 o8 o9 o10 o11 o12 o13 o14 o15 o16 o17 o18 o19 o20 o21 o22 o23 o24 : Int} (h : At y pc (.tableswitch d 0 24 #[o0, o1, o2, o3, o4, o5, o6, o7, o8, o9, o10, o11, o12, o13, o14, o15, o16, o17, o18, o19, o20, o21, o22, o23, o24]) len pc') {t0 t1 t2 t3 t4 t5 t6 t7 t8 t9 t10 t11 t12 t13 t14 t15 t16 t17 t18 t19 t20 t21 t22 t23 t24 t25 : Nat} (h0 : (pc : Int) + o0 = (t0 : Int)) (h1 : (pc : Int) + o1 = (t1 : Int)) (h2 : (pc : Int) + o2 = (t2 : Int)) (h3 : (pc : Int) + o3 = (t3 : Int)) (h4 : (pc : Int) + o4 = (t4 : Int)) (h5 : (pc : Int) + o5 = (t5 : Int)) (h6 : (pc : Int) + o6 = (t6 : Int)) (h7 : (pc : Int) + o7 = (t7 : Int)) (h8 : (pc : Int) + o8 = (t8 : Int)) (h9 : (pc : Int) + o9 = (t9 : Int)) (h10 : (pc : Int) + o10 = (t10 : Int)) (h11 : (pc : Int) + o11 = (t11 : Int)) (h12 : (pc : Int) + o12 = (t12 : Int)) (h13 : (pc : Int) + o13 = (t13 : Int)) (h14 : (pc : Int) + o14 = (t14 : Int)) (h15 : (pc : Int) + o15 = (t15 : Int)) (h16 : (pc : Int) + o16 = (t16 : Int)) (h17 : (pc : Int) + o17 = (t17 : Int)) (h18 : (pc : Int) + o18 = (t18 : Int)) (h19 : (pc : Int) + o19 = (t19 : Int)) (h20 : (pc : Int) + o20 = (t20 : Int)) (h21 : (pc : Int) + o21 = (t21 : Int)) (h22 : (pc : Int) + o22 = (t22 : Int)) (h23 : (pc : Int) + o23 = (t23 : Int)) (h24 : (pc : Int) + o24 = (t24 : Int)) (h25 : (pc : Int) + d = (t25 : Int)) (k0 : z = 0 → V G y R Qf t0 L st sz m k n) (k1 : z = 1 → V G y R Qf t1 L st sz m k n) (k2 : z = 2 → V G y R Qf t2 L st sz m k n) (k3 : z = 3 → V G y R Qf t3 L st sz m k n) (k4 : z = 4 → V G y R Qf t4 L st sz m k n) (k5 : z = 5 → V G y R Qf t5 L st sz m k n) (k6 : z = 6 → V G y R Qf t6 L st sz m k n) (k7 : z = 7 → V G y R Qf t7 L st sz m k n) (k8 : z = 8 → V G y R Qf t8 L st sz m k n) (k9 : z = 9 → V G y R Qf t9 L st sz m k n) (k10 : z = 10 → V G y R Qf t10 L st sz m k n) (k11 : z = 11 → V G y R Qf t11 L st sz m k n) (k12 : z = 12 → V G y R Qf t12 L st sz m k n) (k13 : z = 13 → V G y R Qf t13 L st sz m k n) (k14 : z = 14 → V G y R Qf t14 L st sz m k n) (k15 : z = 15 → V G y R Qf t15 L st sz m k n) (k16 : z = 16 → V G y R Qf t16 L st sz m k n) (k17 : z = 17 → V G y R Qf t17 L st sz m k n) (k18 : z = 18 → V G y R Qf t18 L st sz m k n) (k19 : z = 19 → V G y R Qf t19 L st sz m k n) (k20 : z = 20 → V G y R Qf t20 L st sz m k n) (k21 : z = 21 → V G y R Qf t21 L st sz m k n) (k22 : z = 22 → V G y R Qf t22 L st sz m k n) (k23 : z = 23 → V G y R Qf t23 L st sz m k n) (k24 : z = 24 → V G y R Qf t24 L st sz m k n) (k25 : z < 0 ∨ 24 < z → V G y R Qf t25 L st sz m k n) : V G y R Qf pc L (.inl z :: st) sz m k n := by
  by_cases c0 : z = 0
  · subst c0
    exact V.tswIn h (by decide) (by decide) rfl h0 (k0 rfl)
  by_cases c1 : z = 1
  · subst c1
    exact V.tswIn h (by decide) (by decide) rfl h1 (k1 rfl)
  by_cases c2 : z = 2
  · subst c2
    exact V.tswIn h (by decide) (by decide) rfl h2 (k2 rfl)
  by_cases c3 : z = 3
  · subst c3
    exact V.tswIn h (by decide) (by decide) rfl h3 (k3 rfl)
  by_cases c4 : z = 4
  · subst c4
    exact V.tswIn h (by decide) (by decide) rfl h4 (k4 rfl)
  by_cases c5 : z = 5
  · subst c5
    exact V.tswIn h (by decide) (by decide) rfl h5 (k5 rfl)
  by_cases c6 : z = 6
  · subst c6
    exact V.tswIn h (by decide) (by decide) rfl h6 (k6 rfl)
  by_cases c7 : z = 7
  · subst c7
    exact V.tswIn h (by decide) (by decide) rfl h7 (k7 rfl)
  by_cases c8 : z = 8
  · subst c8
    exact V.tswIn h (by decide) (by decide) rfl h8 (k8 rfl)
  by_cases c9 : z = 9
  · subst c9
    exact V.tswIn h (by decide) (by decide) rfl h9 (k9 rfl)
  by_cases c10 : z = 10
  · subst c10
    exact V.tswIn h (by decide) (by decide) rfl h10 (k10 rfl)
  by_cases c11 : z = 11
  · subst c11
    exact V.tswIn h (by decide) (by decide) rfl h11 (k11 rfl)
  by_cases c12 : z = 12
  · subst c12
    exact V.tswIn h (by decide) (by decide) rfl h12 (k12 rfl)
  by_cases c13 : z = 13
  · subst c13
    exact V.tswIn h (by decide) (by decide) rfl h13 (k13 rfl)
  by_cases c14 : z = 14
  · subst c14
    exact V.tswIn h (by decide) (by decide) rfl h14 (k14 rfl)
  by_cases c15 : z = 15
  · subst c15
    exact V.tswIn h (by decide) (by decide) rfl h15 (k15 rfl)
  by_cases c16 : z = 16
  · subst c16
    exact V.tswIn h (by decide) (by decide) rfl h16 (k16 rfl)
  by_cases c17 : z = 17
  · subst c17
    exact V.tswIn h (by decide) (by decide) rfl h17 (k17 rfl)
  by_cases c18 : z = 18
  · subst c18
    exact V.tswIn h (by decide) (by decide) rfl h18 (k18 rfl)
  by_cases c19 : z = 19
  · subst c19
    exact V.tswIn h (by decide) (by decide) rfl h19 (k19 rfl)
  by_cases c20 : z = 20
  · subst c20
    exact V.tswIn h (by decide) (by decide) rfl h20 (k20 rfl)
  by_cases c21 : z = 21
  · subst c21
    exact V.tswIn h (by decide) (by decide) rfl h21 (k21 rfl)
  by_cases c22 : z = 22
  · subst c22
    exact V.tswIn h (by decide) (by decide) rfl h22 (k22 rfl)
  by_cases c23 : z = 23
  · subst c23
    exact V.tswIn h (by decide) (by decide) rfl h23 (k23 rfl)
  by_cases c24 : z = 24
  · subst c24
    exact V.tswIn h (by decide) (by decide) rfl h24 (k24 rfl)
  exact V.tswOut h (by omega) h25 (k25 (by omega))
theorem V.ifb_ne {G : GX} {y : MK} {R : Room} {Qf : QF} {pc pc' : Nat} {L : List (Option AV)} {st : List AV} {sz : Nat} {m : Mem} {k n : Nat} {P : Prop} [Decidable P] {off : Int} {tgt : Nat} (h : At y pc (.ifCond .ne off) 3 pc') (ht : (pc : Int) + off = (tgt : Int)) (kt : P → V G y R Qf tgt L st sz m k n) (kf : ¬ P → V G y R Qf pc' L st sz m k n) : V G y R Qf pc L (.inl (b2 P) :: st) sz m k n := V.if_ne h ht (fun c => kt (b2_ne c)) (fun c => kf (b2_eq c))
theorem V.ifb_eq {G : GX} {y : MK} {R : Room} {Qf : QF} {pc pc' : Nat} {L : List (Option AV)} {st : List AV} {sz : Nat} {m : Mem} {k n : Nat} {P : Prop} [Decidable P] {off : Int} {tgt : Nat} (h : At y pc (.ifCond .eq off) 3 pc') (ht : (pc : Int) + off = (tgt : Int)) (kt : ¬ P → V G y R Qf tgt L st sz m k n) (kf : P → V G y R Qf pc' L st sz m k n) : V G y R Qf pc L (.inl (b2 P) :: st) sz m k n := V.if_eq h ht (fun c => kt (b2_eq c)) (fun c => kf (b2_ne c))
def cpy {α : Type} (f : Int → α) (a : Int) (g : Int → α) (b n : Int) : Int → α := fun j => if b ≤ j ∧ j < b + n then f (a + (j - b)) else g j
theorem cpy_0 {α : Type} {f g : Int → α} {a b n : Int} (h : n ≤ 0) : cpy f a g b n = g := by
  funext j
  unfold cpy
  rw [if_neg (by omega)]
theorem cpy_s {α : Type} {f g : Int → α} {a b n : Int} (h : 0 ≤ n) {x : α} (hx : x = f (a + n)) {i : Int} (hi : i = b + n) : upI (cpy f a g b n) i x = cpy f a g b (n + 1) := by
  subst hi; subst hx
  funext j
  unfold cpy upI
  by_cases hj : j = b + n
  · rw [if_pos hj, if_pos (by omega)]
    congr 1
    omega
  · rw [if_neg hj]
    dsimp only
    by_cases h2 : b ≤ j ∧ j < b + n
    · rw [if_pos h2, if_pos (by omega)]
    · rw [if_neg h2, if_neg (by omega)]
theorem cpy_in {α : Type} {f g : Int → α} {a b n j : Int} (h : b ≤ j ∧ j < b + n) : cpy f a g b n j = f (a + (j - b)) := if_pos h
theorem cpy_out {α : Type} {f g : Int → α} {a b n j : Int} (h : j < b ∨ b + n ≤ j) : cpy f a g b n j = g j := if_neg (by omega)
abbrev atE (s : Int → Int) (k : Int) : Int := 170 + 17 * (k - s 2)
abbrev ofE (s : Int → Int) (k j : Int) : Int := s (atE s k + j)
def pictF (f : Int → Int) (a : Int) (r k : Int) : Int := r + (if f (a + k) = f (a + k - 1) then 0 else 1)
def pictR (f : Int → Int) (a : Int) : Int := foldI (pictF f a) 1 1 12
def pict (f : Int → Int) (a : Int) : Int := 2 + (if 2 * pictR f a < 12 then 2 * pictR f a else 12)
theorem pictR_b {f : Int → Int} {a k : Int} (h : 1 ≤ k) : 1 ≤ foldI (pictF f a) 1 1 k ∧ foldI (pictF f a) 1 1 k ≤ k := foldI_ind (fun k r => 1 ≤ r ∧ r ≤ k) (by decide) (fun k x hk hp => by unfold pictF; split <;> omega) k h
theorem pict_b {f : Int → Int} {a : Int} : 4 ≤ pict f a ∧ pict f a ≤ 14 := by
  have h := pictR_b (f := f) (a := a) (k := 12) (by decide)
  unfold pict pictR
  split <;> omega
def sizeA (f : Int → Int) (a : Int) : Int := if f (a + 1) = 0 then pict f (a + 5) else if f (a + 1) = 1 ∨ f (a + 1) = 2 then 4 else if f (a + 1) = 3 then 3 else 3 + f (a + 3)
def timeA (f : Int → Int) (a : Int) : Int := sizeA f a + (if f (a + 1) = 0 then 0 else if f (a + 1) = 3 then 12 else f (a + 3))
def entOK (f : Int → Int) (a : Int) : Prop := (0 ≤ f a ∧ f a < 6) ∧ (0 ≤ f (a + 1) ∧ f (a + 1) ≤ 4) ∧ (0 ≤ f (a + 2) ∧ 1 ≤ f (a + 3) ∧ f (a + 2) + f (a + 3) ≤ 12) ∧ (f (a + 4) = 0 ∨ f (a + 4) = 1) ∧ (∀ j, 0 ≤ j → j < 12 → 0 ≤ f (a + 5 + j)) ∧ (f (a + 1) ≠ 3 → ∀ j, 0 ≤ j → j < 12 → f (a + 5 + j) ≤ 9) ∧
  (f (a + 1) = 3 → 1 ≤ f (a + 5) ∧ f (a + 5) ≤ 11) ∧ (f (a + 1) = 0 ∨ f (a + 1) = 3 → f (a + 2) = 0 ∧ f (a + 3) = 12) ∧ (f (a + 1) = 2 → 1 ≤ f (a + 5))
theorem sizeA_b {f : Int → Int} {a : Int} (h : entOK f a) : 3 ≤ sizeA f a ∧ sizeA f a ≤ 15 := by
  obtain ⟨-, h1, h2, -⟩ := h
  have h3 := pict_b (f := f) (a := a + 5)
  unfold sizeA
  split
  · omega
  · split
    · omega
    · split <;> omega
theorem timeA_b {f : Int → Int} {a : Int} (h : entOK f a) : 3 ≤ timeA f a ∧ timeA f a ≤ 27 := by
  have h3 := sizeA_b h
  obtain ⟨-, h1, h2, -⟩ := h
  unfold timeA
  split
  · omega
  · split <;> omega
def startF (s : Int → Int) (p found k : Int) : Int := if ofE s k 0 = p ∧ ofE s k 1 = 0 ∧ s (152 + p) ≤ k then k else found
def start (s : Int → Int) (p e : Int) : Int := foldI (startF s p) (-5) (s 2) e
abbrev needsP (s : Int → Int) (p k e : Int) : Prop := k < e ∧ ofE s k 0 = p ∧ s (152 + p) ≤ k ∧ start s p e ≤ k
abbrev isN (s : Int → Int) (k : Int) : Prop := needsP s (ofE s k 0) k (s 3) ∨ needsP s (ofE s k 0) k (s 4)
def neededMany (s : Int → Int) : Int := foldI (fun n k => n + b2 (isN s k)) 0 (s 2) (s 3)
def firstDam (s : Int → Int) (p e : Int) : Int := foldD (fun found k => if needsP s p k e ∧ ofE s k 4 = 1 then k else found) (-5) e (s 2)
def timeOf (s : Int → Int) (p : Int) : Int := foldI (fun sum k => sum + (if needsP s p k (s 3) then timeA s (atE s k) else 0)) (if start s p (s 3) = -5 then 5 else 0) (s 2) (s 3)
def used (s : Int → Int) : Int := foldI (fun sum k => sum + sizeA s (atE s k)) 0 (s 2) (s 3)
def drpF (s : Int → Int) (most : Int) : Nat → Int → Int → Int
  | 0, n, _ => n
  | f + 1, n, left => if most < left ∧ s 2 + n < s 4 ∧ ¬ isN s (s 2 + n) then drpF s most f (n + 1) (left - sizeA s (atE s (s 2 + n))) else n
def droppable (s : Int → Int) (most : Int) : Int := drpF s most ((s 4 - s 2).toNat + 1) 0 (used s)
def usedW (s : Int → Int) (many : Int) : Int := foldI (fun sum k => sum - sizeA s (atE s (s 2 + k))) (used s) 0 many
def dropsF (s : Int → Int) (many : Int) : Int → Int :=
  let s1 := foldI (fun c k => upI c (164 + ofE s (s 2 + k) 0) (s 2 + k)) s 0 many
  let s2 := upI s1 2 (s 2 + many)
  fun j => if 170 ≤ j ∧ j < 170 + 17 * (s 3 - (s 2 + many)) then s2 (j + 17 * many) else s2 j
-- what holds of every row s; B bounds the numbers that grow
def Inv (B : Int) (s : Int → Int) : Prop := (0 ≤ s 0 ∧ s 0 ≤ 2) ∧ (30 ≤ s 1 ∧ s 1 ≤ 300) ∧ (0 ≤ s 2 ∧ s 2 ≤ s 4 ∧ s 4 ≤ s 3 ∧ s 3 ≤ B ∧ s 3 - s 2 ≤ 100) ∧ (0 ≤ s 5 ∧ s 5 ≤ B) ∧ (0 ≤ s 6 ∧ s 6 ≤ B) ∧ (0 ≤ s 7 ∧ s 7 ≤ B) ∧ (∀ i, 8 ≤ i → i < 152 → 0 ≤ s i ∧ s i ≤ 9) ∧
  (∀ p, 0 ≤ p → p < 6 → (0 ≤ s (152 + p) ∧ s (152 + p) ≤ s 4) ∧ (s (158 + p) = 0 ∨ s (158 + p) = 1) ∧ (s (164 + p) = -5 ∨ (0 ≤ s (164 + p) ∧ s (164 + p) < s 2))) ∧ (∀ k, s 2 ≤ k → k < s 3 → entOK s (atE s k)) ∧ used s ≤ s 1 ∧ B ≤ 20000
theorem Inv.num {B : Int} {s : Int → Int} (h : Inv B s) : 0 ≤ s 0 ∧ s 0 ≤ 2 ∧ 30 ≤ s 1 ∧ s 1 ≤ 300 ∧ 0 ≤ s 2 ∧ s 2 ≤ s 4 ∧ s 4 ≤ s 3 ∧ s 3 ≤ B ∧ s 3 - s 2 ≤ 100 ∧ B ≤ 20000 ∧ 0 ≤ s 5 ∧ s 5 ≤ B ∧ 0 ≤ s 6 ∧ s 6 ≤ B ∧ 0 ≤ s 7 ∧ s 7 ≤ B := by
  obtain ⟨h0, h1, h2, h3, h4, h5, -, -, -, -, hB⟩ := h
  omega
theorem Inv.ent {B : Int} {s : Int → Int} (h : Inv B s) {k : Int} (h1 : s 2 ≤ k) (h2 : k < s 3) : entOK s (atE s k) := h.2.2.2.2.2.2.2.2.1 k h1 h2
theorem Inv.page {B : Int} {s : Int → Int} (h : Inv B s) {p : Int} (h1 : 0 ≤ p) (h2 : p < 6) : (0 ≤ s (152 + p) ∧ s (152 + p) ≤ s 4) ∧ (s (158 + p) = 0 ∨ s (158 + p) = 1) ∧ (s (164 + p) = -5 ∨ (0 ≤ s (164 + p) ∧ s (164 + p) < s 2)) := h.2.2.2.2.2.2.2.1 p h1 h2
theorem Inv.cell {B : Int} {s : Int → Int} (h : Inv B s) {i : Int} (h1 : 8 ≤ i) (h2 : i < 152) : 0 ≤ s i ∧ s i ≤ 9 := h.2.2.2.2.2.2.1 i h1 h2
theorem Inv.room {B : Int} {s : Int → Int} (h : Inv B s) : used s ≤ s 1 := h.2.2.2.2.2.2.2.2.2.1
end
section
-- the reference's methods: contracts (part one)
section
variable {G : GX} {sz : Nat} {m : Mem} {o : Nat} {s sp pa sh tx cl bf mk : Int → Int} {sv ish ln st : Int}
theorem ok_in {v l u : Int} : Ok G kX6_in 0 [.inl v, .inl l, .inl u] sz m 0 0 (PI (b2 (l ≤ v ∧ v ≤ u)) sz m) := by
  refine Ok.body [some (.inl v), some (.inl l), some (.inl u)] rfl (Nat.le_of_ble_eq_true rfl) (by decide) ?_
  refine V.ild0 aX6_in_0 ?_
  refine V.ild1 aX6_in_1 ?_
  refine V.icmp_lt aX6_in_2 (tgt := 14) (by decide) (fun c2 => ?_) (fun c2 => ?_)
  · refine V.iconst aX6_in_14 (by decide) ?_
    refine V.zret aX6_in_15 rfl (by first | decide | exact b2_01 | omega) (by decide) ?_
    exact PI.of (by first | rw [b2_t (by omega)] | rw [b2_f (by omega)])
  · refine V.ild0 aX6_in_5 ?_
    refine V.ild2 aX6_in_6 ?_
    refine V.icmp_gt aX6_in_7 (tgt := 14) (by decide) (fun c7 => ?_) (fun c7 => ?_)
    · refine V.iconst aX6_in_14 (by decide) ?_
      refine V.zret aX6_in_15 rfl (by first | decide | exact b2_01 | omega) (by decide) ?_
      exact PI.of (by first | rw [b2_t (by omega)] | rw [b2_f (by omega)])
    · refine V.iconst aX6_in_10 (by decide) ?_
      refine V.goto aX6_in_11 (tgt := 15) (by decide) ?_
      refine V.zret aX6_in_15 rfl (by first | decide | exact b2_01 | omega) (by decide) ?_
      exact PI.of (by first | rw [b2_t (by omega)] | rw [b2_f (by omega)])
theorem ok_isPage {p : Int} : Ok G kX6_isPage 1 [.inl p] sz m 0 0 (PI (b2 (0 ≤ p ∧ p ≤ 5)) sz m) := by
  refine Ok.body [some (.inl p)] rfl (Nat.le_of_ble_eq_true rfl) (by decide) ?_
  refine V.ild0 aX6_isPage_0 ?_
  refine V.iconst aX6_isPage_1 (by decide) ?_
  refine V.iconst aX6_isPage_2 (by decide) ?_
  refine call_X6_in aX6_isPage_3 gl_RX6_35 (ok_in) (Nat.le_of_ble_eq_true rfl) (by decide) (goI ?_)
  refine V.zret aX6_isPage_6 rfl (by first | decide | exact b2_01 | omega) (by decide) ?_
  exact PI.of rfl
theorem ok_isCell {p : Int} : Ok G kX6_isCell 1 [.inl p] sz m 0 0 (PI (b2 (0 ≤ p ∧ p ≤ 11)) sz m) := by
  refine Ok.body [some (.inl p)] rfl (Nat.le_of_ble_eq_true rfl) (by decide) ?_
  refine V.ild0 aX6_isCell_0 ?_
  refine V.iconst aX6_isCell_1 (by decide) ?_
  refine V.bipush aX6_isCell_2 (by decide) (by decide) ?_
  refine call_X6_in aX6_isCell_4 gl_RX6_35 (ok_in) (Nat.le_of_ble_eq_true rfl) (by decide) (goI ?_)
  refine V.zret aX6_isCell_7 rfl (by first | decide | exact b2_01 | omega) (by decide) ?_
  exact PI.of rfl
theorem ok_at {k : Int} (h0 : 0 ≤ s 2) (h1 : s 2 ≤ 30000) (h2 : -100000 ≤ k ∧ k ≤ 100000) : Ok G kX6_at 0 [.inr (some o), .inl k] sz (MM m o s sp pa sv sh ish tx ln cl bf mk st) 0 0 (PI (170 + 17 * (k - s 2)) sz (MM m o s sp pa sv sh ish tx ln cl bf mk st)) := by
  refine Ok.body [some (.inr (some o)), some (.inl k)] rfl (Nat.le_of_ble_eq_true rfl) (by decide) ?_
  refine V.sipush aX6_at_0 (by decide) (by decide) ?_
  refine V.bipush aX6_at_3 (by decide) (by decide) ?_
  refine V.ild1 aX6_at_5 ?_
  refine V.ald0 aX6_at_6 ?_
  refine M.gf aX6_at_7 fl_RX6_7 rfl ?_
  refine V.iconst aX6_at_10 (by decide) ?_
  refine M.lds aX6_at_11 (by omega) ?_
  refine V.isub aX6_at_12 (by omega) ?_
  refine V.imul aX6_at_13 (by omega) ?_
  refine V.iadd aX6_at_14 (by omega) ?_
  refine V.iret aX6_at_15 rfl (by decide) ?_
  exact PI.of rfl
theorem ok_of {k j : Int} (h0 : 0 ≤ s 2) (h1 : s 2 ≤ 30000) (h2 : s 2 ≤ k) (h3 : k < s 2 + 100) (h4 : 0 ≤ j ∧ j < 17) : Ok G kX6_of 1 [.inr (some o), .inl k, .inl j] sz (MM m o s sp pa sv sh ish tx ln cl bf mk st) 0 0 (PI (ofE (s) k j) sz (MM m o s sp pa sv sh ish tx ln cl bf mk st)) := by
  refine Ok.body [some (.inr (some o)), some (.inl k), some (.inl j)] rfl (Nat.le_of_ble_eq_true rfl) (by decide) ?_
  refine V.ald0 aX6_of_0 ?_
  refine M.gf aX6_of_1 fl_RX6_7 rfl ?_
  refine V.ald0 aX6_of_4 ?_
  refine V.ild1 aX6_of_5 ?_
  refine call_X6_at aX6_of_6 gl_RX6_55 (ok_at (by omega) (by omega) (by omega)) (MM_o) (Nat.le_of_ble_eq_true rfl) (by decide) (goI ?_)
  refine V.ild2 aX6_of_9 ?_
  refine V.iadd aX6_of_10 (by omega) ?_
  refine M.lds aX6_of_11 (by omega) ?_
  refine V.iret aX6_of_12 rfl (by decide) ?_
  exact PI.of rfl
theorem ok_isHeld {k : Int} (h0 : 0 ≤ s 2) (h1 : s 3 ≤ 30000) (h2 : s 2 ≤ s 3) : Ok G kX6_isHeld 1 [.inr (some o), .inl k] sz (MM m o s sp pa sv sh ish tx ln cl bf mk st) 0 0 (PI (b2 (s 2 ≤ k ∧ k ≤ s 3 - 1)) sz (MM m o s sp pa sv sh ish tx ln cl bf mk st)) := by
  refine Ok.body [some (.inr (some o)), some (.inl k)] rfl (Nat.le_of_ble_eq_true rfl) (by decide) ?_
  refine V.ild1 aX6_isHeld_0 ?_
  refine V.ald0 aX6_isHeld_1 ?_
  refine M.gf aX6_isHeld_2 fl_RX6_7 rfl ?_
  refine V.iconst aX6_isHeld_5 (by decide) ?_
  refine M.lds aX6_isHeld_6 (by omega) ?_
  refine V.ald0 aX6_isHeld_7 ?_
  refine M.gf aX6_isHeld_8 fl_RX6_7 rfl ?_
  refine V.iconst aX6_isHeld_11 (by decide) ?_
  refine M.lds aX6_isHeld_12 (by omega) ?_
  refine V.iconst aX6_isHeld_13 (by decide) ?_
  refine V.isub aX6_isHeld_14 (by omega) ?_
  refine call_X6_in aX6_isHeld_15 gl_RX6_35 (ok_in) (Nat.le_of_ble_eq_true rfl) (by decide) (goI ?_)
  refine V.zret aX6_isHeld_18 rfl (by first | decide | exact b2_01 | omega) (by decide) ?_
  exact PI.of rfl
theorem ok_pictured {a nn : Nat} {f : Int → Int} {b : Int} (ha : m a = iar nn f) (h0 : 0 ≤ b) (h1 : b + 12 ≤ nn) (h2 : b ≤ 200000) : Ok G kX6_pictured 0 [.inr (some a), .inl b] sz m 0 0 (PI (pict f b) sz m) := by
  refine Ok.body [some (.inr (some a)), some (.inl b), none, none] rfl (Nat.le_of_ble_eq_true rfl) (by decide) ?_
  have loop : ∀ (n : Nat) (k r : Int), (12 - k).toNat < n → 1 ≤ k → k ≤ 12 → r = foldI (pictF f b) 1 1 k → V G kX6_pictured (rmM 0 0 0) (QfM G (PI (pict f b) sz m) 0 0) 4 [some (.inr (some a)), some (.inl b), some (.inl r), some (.inl k)] [] sz m 0 0 := by
    intro n
    induction n with
    | zero => intro k r h; omega
    | succ n ih =>
      intro k r hn hk1 hk2 hr
      have hb := pictR_b (f := f) (a := b) (k := k) hk1
      refine V.ild3 aX6_pictured_4 ?_
      refine V.bipush aX6_pictured_5 (by decide) (by decide) ?_
      refine V.icmp_ge aX6_pictured_7 (tgt := 39) (by decide) (fun c7 => ?_) (fun c7 => ?_)
      · refine V.iconst aX6_pictured_39 (by decide) ?_
        refine V.iconst aX6_pictured_40 (by decide) ?_
        refine V.ild2 aX6_pictured_41 ?_
        refine V.imul aX6_pictured_42 (by omega) ?_
        refine V.bipush aX6_pictured_43 (by decide) (by decide) ?_
        refine V.icmp_ge aX6_pictured_45 (tgt := 54) (by decide) (fun c45 => ?_) (fun c45 => ?_)
        · refine V.bipush aX6_pictured_54 (by decide) (by decide) ?_
          refine V.iadd aX6_pictured_56 (by omega) ?_
          refine V.iret aX6_pictured_57 rfl (by decide) ?_
          have hk : k = 12 := by omega
          subst hk
          subst hr
          exact PI.of (by unfold pict pictR; first | rw [if_pos (by omega)] | rw [if_neg (by omega)])
        · refine V.iconst aX6_pictured_48 (by decide) ?_
          refine V.ild2 aX6_pictured_49 ?_
          refine V.imul aX6_pictured_50 (by omega) ?_
          refine V.goto aX6_pictured_51 (tgt := 56) (by decide) ?_
          refine V.iadd aX6_pictured_56 (by omega) ?_
          refine V.iret aX6_pictured_57 rfl (by decide) ?_
          have hk : k = 12 := by omega
          subst hk
          subst hr
          exact PI.of (by unfold pict pictR; first | rw [if_pos (by omega)] | rw [if_neg (by omega)])
      · refine V.ild2 aX6_pictured_10 ?_
        refine V.ald0 aX6_pictured_11 ?_
        refine V.ild1 aX6_pictured_12 ?_
        refine V.ild3 aX6_pictured_13 ?_
        refine V.iadd aX6_pictured_14 (by omega) ?_
        refine V.iald aX6_pictured_15 ha (by omega) (by omega) ?_
        refine V.ald0 aX6_pictured_16 ?_
        refine V.ild1 aX6_pictured_17 ?_
        refine V.ild3 aX6_pictured_18 ?_
        refine V.iadd aX6_pictured_19 (by omega) ?_
        refine V.iconst aX6_pictured_20 (by decide) ?_
        refine V.isub aX6_pictured_21 (by omega) ?_
        refine V.iald aX6_pictured_22 ha (by omega) (by omega) ?_
        refine V.icmp_ne aX6_pictured_23 (tgt := 30) (by decide) (fun c23 => ?_) (fun c23 => ?_)
        · refine V.iconst aX6_pictured_30 (by decide) ?_
          refine V.iadd aX6_pictured_31 (by omega) ?_
          refine V.ist2 aX6_pictured_32 ?_
          refine V.inc3 aX6_pictured_33 (by omega) ?_
          refine V.goto aX6_pictured_36 (tgt := 4) (by decide) ?_
          exact ih (k + 1) _ (by omega) (by omega) (by omega) (by rw [foldI_s (by omega), ← hr]; simp_all [pictF])
        · refine V.iconst aX6_pictured_26 (by decide) ?_
          refine V.goto aX6_pictured_27 (tgt := 31) (by decide) ?_
          refine V.iadd aX6_pictured_31 (by omega) ?_
          refine V.ist2 aX6_pictured_32 ?_
          refine V.inc3 aX6_pictured_33 (by omega) ?_
          refine V.goto aX6_pictured_36 (tgt := 4) (by decide) ?_
          exact ih (k + 1) _ (by omega) (by omega) (by omega) (by rw [foldI_s (by omega), ← hr]; simp_all [pictF])
  refine V.iconst aX6_pictured_0 (by decide) ?_
  refine V.ist2 aX6_pictured_1 ?_
  refine V.iconst aX6_pictured_2 (by decide) ?_
  refine V.ist3 aX6_pictured_3 ?_
  exact loop _ 1 1 (Nat.lt_succ_self _) (by decide) (by decide) (foldI_0 (by decide)).symm
theorem ok_sizeAt {a nn : Nat} {f : Int → Int} {b : Int} (ha : m a = iar nn f) (h0 : 0 ≤ b) (h1 : b + 17 ≤ nn) (h2 : b ≤ 100000) (h3 : f (b + 3) ≤ 100) (h4 : -100 ≤ f (b + 3)) : Ok G kX6_sizeAt 1 [.inr (some a), .inl b] sz m 0 0 (PI (sizeA f b) sz m) := by
  refine Ok.body [some (.inr (some a)), some (.inl b)] rfl (Nat.le_of_ble_eq_true rfl) (by decide) ?_
  refine V.ald0 aX6_sizeAt_0 ?_
  refine V.ild1 aX6_sizeAt_1 ?_
  refine V.iconst aX6_sizeAt_2 (by decide) ?_
  refine V.iadd aX6_sizeAt_3 (by omega) ?_
  refine V.iald aX6_sizeAt_4 ha (by omega) (by omega) ?_
  refine V.tsw4 aX6_sizeAt_5 (t0 := 36) (t1 := 44) (t2 := 44) (t3 := 46) (t4 := 48) (by decide) (by decide) (by decide) (by decide) (by decide) (fun c5 => ?_) (fun c5 => ?_) (fun c5 => ?_) (fun c5 => ?_) (fun c5 => ?_)
  · refine V.ald0 aX6_sizeAt_36 ?_
    refine V.ild1 aX6_sizeAt_37 ?_
    refine V.iconst aX6_sizeAt_38 (by decide) ?_
    refine V.iadd aX6_sizeAt_39 (by omega) ?_
    refine call_X6_pictured aX6_sizeAt_40 gl_RX6_59 (ok_pictured ha (by omega) (by omega) (by omega)) (Nat.le_of_ble_eq_true rfl) (by decide) (goI ?_)
    refine V.iret aX6_sizeAt_43 rfl (by decide) ?_
    exact PI.of (by unfold sizeA; first | (simp [c5]; done) | rw [if_neg (by omega), if_neg (by omega), if_neg (by omega)])
  · refine V.iconst aX6_sizeAt_44 (by decide) ?_
    refine V.iret aX6_sizeAt_45 rfl (by decide) ?_
    exact PI.of (by unfold sizeA; first | (simp [c5]; done) | rw [if_neg (by omega), if_neg (by omega), if_neg (by omega)])
  · refine V.iconst aX6_sizeAt_44 (by decide) ?_
    refine V.iret aX6_sizeAt_45 rfl (by decide) ?_
    exact PI.of (by unfold sizeA; first | (simp [c5]; done) | rw [if_neg (by omega), if_neg (by omega), if_neg (by omega)])
  · refine V.iconst aX6_sizeAt_46 (by decide) ?_
    refine V.iret aX6_sizeAt_47 rfl (by decide) ?_
    exact PI.of (by unfold sizeA; first | (simp [c5]; done) | rw [if_neg (by omega), if_neg (by omega), if_neg (by omega)])
  · refine V.iconst aX6_sizeAt_48 (by decide) ?_
    refine V.ald0 aX6_sizeAt_49 ?_
    refine V.ild1 aX6_sizeAt_50 ?_
    refine V.iconst aX6_sizeAt_51 (by decide) ?_
    refine V.iadd aX6_sizeAt_52 (by omega) ?_
    refine V.iald aX6_sizeAt_53 ha (by omega) (by omega) ?_
    refine V.iadd aX6_sizeAt_54 (by omega) ?_
    refine V.iret aX6_sizeAt_55 rfl (by decide) ?_
    exact PI.of (by unfold sizeA; first | (simp [c5]; done) | rw [if_neg (by omega), if_neg (by omega), if_neg (by omega)])
theorem ok_timeAt {a nn : Nat} {f : Int → Int} {b : Int} (ha : m a = iar nn f) (h0 : 0 ≤ b) (h1 : b + 17 ≤ nn) (h2 : b ≤ 100000) (h3 : entOK f b) : Ok G kX6_timeAt 2 [.inr (some a), .inl b] sz m 0 0 (PI (timeA f b) sz m) := by
  refine Ok.body [some (.inr (some a)), some (.inl b), none] rfl (Nat.le_of_ble_eq_true rfl) (by decide) ?_
  have hs := sizeA_b h3
  obtain ⟨-, g1, g2, -⟩ := id h3
  refine V.ald0 aX6_timeAt_0 ?_
  refine V.ild1 aX6_timeAt_1 ?_
  refine V.iconst aX6_timeAt_2 (by decide) ?_
  refine V.iadd aX6_timeAt_3 (by omega) ?_
  refine V.iald aX6_timeAt_4 ha (by omega) (by omega) ?_
  refine V.ist2 aX6_timeAt_5 ?_
  refine V.ald0 aX6_timeAt_6 ?_
  refine V.ild1 aX6_timeAt_7 ?_
  refine call_X6_sizeAt aX6_timeAt_8 gl_RX6_63 (ok_sizeAt ha (by omega) (by omega) (by omega) (by omega) (by omega)) (Nat.le_of_ble_eq_true rfl) (by decide) (goI ?_)
  refine V.ild2 aX6_timeAt_11 ?_
  refine V.if_ne aX6_timeAt_12 (tgt := 19) (by decide) (fun c12 => ?_) (fun c12 => ?_)
  · refine V.ild2 aX6_timeAt_19 ?_
    refine V.iconst aX6_timeAt_20 (by decide) ?_
    refine V.icmp_ne aX6_timeAt_21 (tgt := 29) (by decide) (fun c21 => ?_) (fun c21 => ?_)
    · refine V.ald0 aX6_timeAt_29 ?_
      refine V.ild1 aX6_timeAt_30 ?_
      refine V.iconst aX6_timeAt_31 (by decide) ?_
      refine V.iadd aX6_timeAt_32 (by omega) ?_
      refine V.iald aX6_timeAt_33 ha (by omega) (by omega) ?_
      refine V.iadd aX6_timeAt_34 (by omega) ?_
      refine V.iret aX6_timeAt_35 rfl (by decide) ?_
      exact PI.of (by unfold timeA; simp_all)
    · refine V.bipush aX6_timeAt_24 (by decide) (by decide) ?_
      refine V.goto aX6_timeAt_26 (tgt := 34) (by decide) ?_
      refine V.iadd aX6_timeAt_34 (by omega) ?_
      refine V.iret aX6_timeAt_35 rfl (by decide) ?_
      exact PI.of (by unfold timeA; simp_all)
  · refine V.iconst aX6_timeAt_15 (by decide) ?_
    refine V.goto aX6_timeAt_16 (tgt := 34) (by decide) ?_
    refine V.iadd aX6_timeAt_34 (by omega) ?_
    refine V.iret aX6_timeAt_35 rfl (by decide) ?_
    exact PI.of (by unfold timeA; simp_all)
theorem ok_lays {fa ta n1 n2 : Nat} {f g : Int → Int} {a b : Int} (hf : m fa = iar n1 f) (hg : m ta = iar n2 g) (hne : fa ≠ ta) (h0 : 0 ≤ a ∧ a + 1870 ≤ n1 ∧ a ≤ 100000) (h1 : 0 ≤ b ∧ b + 1870 ≤ n2 ∧ b ≤ 100000) : Ok G kX6_lays 0 [.inr (some fa), .inl a, .inr (some ta), .inl b] sz m 0 0 (PV sz (upM m ta (iar n2 (cpy f a g b 1870)))) := by
  refine Ok.body [some (.inr (some fa)), some (.inl a), some (.inr (some ta)), some (.inl b), none] rfl (Nat.le_of_ble_eq_true rfl) (by decide) ?_
  have loop : ∀ (n : Nat) (k : Int) (m' : Mem), (1870 - k).toNat < n → 0 ≤ k → k ≤ 1870 → m' = upM m ta (iar n2 (cpy f a g b k)) → V G kX6_lays (rmM 0 0 0) (QfM G (PV sz (upM m ta (iar n2 (cpy f a g b 1870)))) 0 0) 3 [some (.inr (some fa)), some (.inl a), some (.inr (some ta)), some (.inl b), some (.inl k)] [] sz m' 0 0 := by
    intro n
    induction n with
    | zero => intro k r h; omega
    | succ n ih =>
      intro k m' hn hk1 hk2 hm
      have hf' : m' fa = iar n1 f := by rw [hm, upM_n hne]; exact hf
      have hg' : m' ta = iar n2 (cpy f a g b k) := by rw [hm, upM_s]
      refine V.ild4 aX6_lays_3 ?_
      refine V.sipush aX6_lays_5 (by decide) (by decide) ?_
      refine V.icmp_ge aX6_lays_8 (tgt := 29) (by decide) (fun c8 => ?_) (fun c8 => ?_)
      · refine V.ret aX6_lays_29 rfl (by decide) ?_
        exact PV.of (by rw [hm, show k = 1870 by omega])
      · refine V.ald2 aX6_lays_11 ?_
        refine V.ild3 aX6_lays_12 ?_
        refine V.ild4 aX6_lays_13 ?_
        refine V.iadd aX6_lays_15 (by omega) ?_
        refine V.ald0 aX6_lays_16 ?_
        refine V.ild1 aX6_lays_17 ?_
        refine V.ild4 aX6_lays_18 ?_
        refine V.iadd aX6_lays_20 (by omega) ?_
        refine V.iald aX6_lays_21 hf' (by omega) (by omega) ?_
        refine V.iast aX6_lays_22 hg' (by omega) (by omega) ?_
        refine V.inc4 aX6_lays_23 (by omega) ?_
        refine V.goto aX6_lays_26 (tgt := 3) (by decide) ?_
        exact ih (k + 1) _ (by omega) (by omega) (by omega) (by rw [cpy_s hk1 rfl rfl, hm]; funext q; unfold upM; split <;> rfl)
  refine V.iconst aX6_lays_0 (by decide) ?_
  refine V.ist4 aX6_lays_1 ?_
  exact loop _ 0 m (Nat.lt_succ_self _) (by decide) (by decide) (by rw [cpy_0 (by decide)]; funext q; unfold upM; split <;> simp_all)
theorem ok_holds {part p : Int} (h0 : part = 8 ∨ part = 80) (h1 : 0 ≤ p ∧ p < 6) : Ok G kX6_holds 0 [.inr (some o), .inl part, .inl p] sz (MM m o s sp pa sv sh ish tx ln cl bf mk st) 0 0 (PV sz (MM m o s sp pa sv sh ish tx ln (cpy s (part + 12 * p) cl 0 12) bf mk st)) := by
  refine Ok.body [some (.inr (some o)), some (.inl part), some (.inl p), none] rfl (Nat.le_of_ble_eq_true rfl) (by decide) ?_
  have loop : ∀ (n : Nat) (k : Int), (12 - k).toNat < n → 0 ≤ k → k ≤ 12 → V G kX6_holds (rmM 0 0 0) (QfM G (PV sz (MM m o s sp pa sv sh ish tx ln (cpy s (part + 12 * p) cl 0 12) bf mk st)) 0 0) 2 [some (.inr (some o)), some (.inl part), some (.inl p), some (.inl k)] [] sz (MM m o s sp pa sv sh ish tx ln (cpy s (part + 12 * p) cl 0 k) bf mk st) 0 0 := by
    intro n
    induction n with
    | zero => intro k h; omega
    | succ n ih =>
      intro k hn hk1 hk2
      refine V.ild3 aX6_holds_2 ?_
      refine V.bipush aX6_holds_3 (by decide) (by decide) ?_
      refine V.icmp_ge aX6_holds_5 (tgt := 33) (by decide) (fun c5 => ?_) (fun c5 => ?_)
      · refine V.ret aX6_holds_33 rfl (by decide) ?_
        exact PV.of (by rw [show k = 12 by omega])
      · refine V.ald0 aX6_holds_8 ?_
        refine M.gf aX6_holds_9 fl_RX6_26 rfl ?_
        refine V.ild3 aX6_holds_12 ?_
        refine V.ald0 aX6_holds_13 ?_
        refine M.gf aX6_holds_14 fl_RX6_7 rfl ?_
        refine V.ild1 aX6_holds_17 ?_
        refine V.bipush aX6_holds_18 (by decide) (by decide) ?_
        refine V.ild2 aX6_holds_20 ?_
        refine V.imul aX6_holds_21 (by omega) ?_
        refine V.iadd aX6_holds_22 (by omega) ?_
        refine V.ild3 aX6_holds_23 ?_
        refine V.iadd aX6_holds_24 (by omega) ?_
        refine M.lds aX6_holds_25 (by omega) ?_
        refine M.stcl aX6_holds_26 (by omega) ?_
        refine V.inc3 aX6_holds_27 (by omega) ?_
        refine V.goto aX6_holds_30 (tgt := 2) (by decide) ?_
        rw [cpy_s hk1 rfl (by omega)]
        exact ih (k + 1) (by omega) (by omega) (by omega)
  refine V.iconst aX6_holds_0 (by decide) ?_
  refine V.ist3 aX6_holds_1 ?_
  refine V.mem (m2 := (MM m o s sp pa sv sh ish tx ln (cpy s (part + 12 * p) cl 0 0) bf mk st)) (by rw [cpy_0 (by decide)]) ?_
  exact loop _ 0 (Nat.lt_succ_self _) (by decide) (by decide)
end
end
section
-- the reference's methods: contracts (part two): reading the log
theorem foldI_indB {α : Type} {f : α → Int → α} {z : α} {a e : Int} (P : Int → α → Prop) (h0 : P a z) (hs : ∀ k x, a ≤ k → k < e → P k x → P (k + 1) (f x k)) : ∀ b, a ≤ b → b ≤ e → P b (foldI f z a b) := by
  intro b hb
  obtain ⟨n, hn⟩ : ∃ n : Nat, b = a + n := ⟨(b - a).toNat, by omega⟩
  subst hn
  clear hb
  induction n with
  | zero => intro _; rw [foldI_0 (by omega)]; simpa using h0
  | succ n ih =>
    intro hb
    have e : a + ((n + 1 : Nat) : Int) = (a + n) + 1 := by omega
    rw [e, foldI_s (by omega)]
    exact hs _ _ (by omega) (by omega) (ih (by omega))
def Num (s : Int → Int) : Prop := 0 ≤ s 2 ∧ s 2 ≤ s 4 ∧ s 4 ≤ s 3 ∧ s 3 ≤ 30000 ∧ s 3 - s 2 ≤ 100
def EntS (s : Int → Int) : Prop := ∀ k, s 2 ≤ k → k < s 3 → entOK s (atE s k)
theorem Inv.N {B : Int} {s : Int → Int} (h : Inv B s) : Num s := by
  have := h.num
  unfold Num
  omega
theorem Inv.E {B : Int} {s : Int → Int} (h : Inv B s) : EntS s := fun _ h1 h2 => h.ent h1 h2
theorem EntS.p {s : Int → Int} (h : EntS s) {k : Int} (h1 : s 2 ≤ k) (h2 : k < s 3) : 0 ≤ ofE s k 0 ∧ ofE s k 0 < 6 := by
  have := (h k h1 h2).1
  show 0 ≤ s (atE s k + 0) ∧ s (atE s k + 0) < 6
  rw [Int.add_zero]
  exact this
theorem EntS.sz {s : Int → Int} (h : EntS s) {k : Int} (h1 : s 2 ≤ k) (h2 : k < s 3) : 3 ≤ sizeA s (170 + 17 * (k - s 2)) ∧ sizeA s (170 + 17 * (k - s 2)) ≤ 15 := sizeA_b (h k h1 h2)
theorem EntS.tm {s : Int → Int} (h : EntS s) {k : Int} (h1 : s 2 ≤ k) (h2 : k < s 3) : 3 ≤ timeA s (170 + 17 * (k - s 2)) ∧ timeA s (170 + 17 * (k - s 2)) ≤ 27 := timeA_b (h k h1 h2)
theorem EntS.m3 {s : Int → Int} (h : EntS s) {k : Int} (h1 : s 2 ≤ k) (h2 : k < s 3) : 1 ≤ s (170 + 17 * (k - s 2) + 3) ∧ s (170 + 17 * (k - s 2) + 3) ≤ 12 := by
  have h3 := (h k h1 h2).2.2.1
  have : s (atE s k + 3) = s (170 + 17 * (k - s 2) + 3) := rfl
  omega
theorem used_b {s : Int → Int} (h : EntS s) {k : Int} (h1 : s 2 ≤ k) (h2 : k ≤ s 3) : 0 ≤ foldI (fun sum k => sum + sizeA s (atE s k)) 0 (s 2) k ∧ foldI (fun sum k => sum + sizeA s (atE s k)) 0 (s 2) k ≤ 15 * (k - s 2) :=
  foldI_indB (fun k x => 0 ≤ x ∧ x ≤ 15 * (k - s 2)) (by omega) (fun k x g1 g2 g3 => by have := h.sz g1 g2; dsimp only [atE]; omega) k h1 h2
theorem used_b2 {s : Int → Int} (h : EntS s) (hN : Num s) : 0 ≤ used s ∧ used s ≤ 1500 := by
  obtain ⟨n0, n1, n2, n3, n4⟩ := hN
  have := used_b h (k := s 3) (by omega) (by omega)
  unfold used
  omega
theorem drp_b {s : Int → Int} {most : Int} : ∀ (f : Nat) (n left : Int), n ≤ drpF s most f n left ∧ (s 2 + n ≤ s 4 → s 2 + drpF s most f n left ≤ s 4)
  | 0, n, left => ⟨Int.le_refl _, fun h => h⟩
  | f + 1, n, left => by
    have ih := drp_b (s := s) (most := most) f (n + 1) (left - sizeA s (atE s (s 2 + n)))
    unfold drpF
    split
    · rename_i h
      exact ⟨by omega, fun _ => ih.2 (by omega)⟩
    · exact ⟨Int.le_refl _, fun h => h⟩
theorem droppable_b {s : Int → Int} {most : Int} (hN : Num s) : 0 ≤ droppable s most ∧ s 2 + droppable s most ≤ s 4 := by
  obtain ⟨n0, n1, n2, n3, n4⟩ := hN
  have h := drp_b (s := s) (most := most) ((s 4 - s 2).toNat + 1) 0 (used s)
  exact ⟨h.1, h.2 (by omega)⟩
section
variable {G : GX} {sz : Nat} {m : Mem} {o : Nat} {s sp pa sh tx cl bf mk : Int → Int} {sv ish ln st : Int}
theorem ok_start {p e : Int} (hN : Num s) (hp : 0 ≤ p ∧ p < 6) (h1 : s 2 ≤ e) (h2 : e ≤ s 3) : Ok G kX6_start 2 [.inr (some o), .inl p, .inl e] sz (MM m o s sp pa sv sh ish tx ln cl bf mk st) 0 0 (PI (start s p e) sz (MM m o s sp pa sv sh ish tx ln cl bf mk st)) := by
  refine Ok.body [some (.inr (some o)), some (.inl p), some (.inl e), none, none] rfl (Nat.le_of_ble_eq_true rfl) (by decide) ?_
  obtain ⟨n0, n1, n2, n3, n4⟩ := id hN
  have loop : ∀ (n : Nat) (k r : Int), (e - k).toNat < n → s 2 ≤ k → k ≤ e → r = foldI (startF s p) (-5) (s 2) k → V G kX6_start (rmM 2 0 0) (QfM G (PI (start s p e) sz (MM m o s sp pa sv sh ish tx ln cl bf mk st)) 0 0) 11 [some (.inr (some o)), some (.inl p), some (.inl e), some (.inl r), some (.inl k)] [] sz (MM m o s sp pa sv sh ish tx ln cl bf mk st) 0 0 := by
    intro n
    induction n with
    | zero => intro k r h; omega
    | succ n ih =>
      intro k r hn hk1 hk2 hr
      refine V.ild4 aX6_start_11 ?_
      refine V.ild2 aX6_start_13 ?_
      refine V.icmp_ge aX6_start_14 (tgt := 66) (by decide) (fun c14 => ?_) (fun c14 => ?_)
      · refine V.ild3 aX6_start_66 ?_
        refine V.iret aX6_start_67 rfl (by decide) ?_
        exact PI.of (by rw [hr, show k = e by omega]; rfl)
      · refine V.ald0 aX6_start_17 ?_
        refine V.ild4 aX6_start_18 ?_
        refine V.iconst aX6_start_20 (by decide) ?_
        refine call_X6_of aX6_start_21 gl_RX6_66 (ok_of (by omega) (by omega) (by omega) (by omega) (by omega)) (MM_o) (Nat.le_of_ble_eq_true rfl) (by decide) (goI ?_)
        refine V.ild1 aX6_start_24 ?_
        refine V.icmp_ne aX6_start_25 (tgt := 58) (by decide) (fun c25 => ?_) (fun c25 => ?_)
        · refine V.ild3 aX6_start_58 ?_
          refine V.ist3 aX6_start_59 ?_
          refine V.inc4 aX6_start_60 (by omega) ?_
          refine V.goto aX6_start_63 (tgt := 11) (by decide) ?_
          refine ih (k + 1) _ (by omega) (by omega) (by omega) ?_
          rw [foldI_s (by omega), ← hr, startF]
          split <;> omega
        · refine V.ald0 aX6_start_28 ?_
          refine V.ild4 aX6_start_29 ?_
          refine V.iconst aX6_start_31 (by decide) ?_
          refine call_X6_of aX6_start_32 gl_RX6_66 (ok_of (by omega) (by omega) (by omega) (by omega) (by omega)) (MM_o) (Nat.le_of_ble_eq_true rfl) (by decide) (goI ?_)
          refine V.if_ne aX6_start_35 (tgt := 58) (by decide) (fun c35 => ?_) (fun c35 => ?_)
          · refine V.ild3 aX6_start_58 ?_
            refine V.ist3 aX6_start_59 ?_
            refine V.inc4 aX6_start_60 (by omega) ?_
            refine V.goto aX6_start_63 (tgt := 11) (by decide) ?_
            refine ih (k + 1) _ (by omega) (by omega) (by omega) ?_
            rw [foldI_s (by omega), ← hr, startF]
            split <;> omega
          · refine V.ild4 aX6_start_38 ?_
            refine V.ald0 aX6_start_40 ?_
            refine M.gf aX6_start_41 fl_RX6_7 rfl ?_
            refine V.sipush aX6_start_44 (by decide) (by decide) ?_
            refine V.ild1 aX6_start_47 ?_
            refine V.iadd aX6_start_48 (by omega) ?_
            refine M.lds aX6_start_49 (by omega) ?_
            refine V.icmp_lt aX6_start_50 (tgt := 58) (by decide) (fun c50 => ?_) (fun c50 => ?_)
            · refine V.ild3 aX6_start_58 ?_
              refine V.ist3 aX6_start_59 ?_
              refine V.inc4 aX6_start_60 (by omega) ?_
              refine V.goto aX6_start_63 (tgt := 11) (by decide) ?_
              refine ih (k + 1) _ (by omega) (by omega) (by omega) ?_
              rw [foldI_s (by omega), ← hr, startF]
              split <;> omega
            · refine V.ild4 aX6_start_53 ?_
              refine V.goto aX6_start_55 (tgt := 59) (by decide) ?_
              refine V.ist3 aX6_start_59 ?_
              refine V.inc4 aX6_start_60 (by omega) ?_
              refine V.goto aX6_start_63 (tgt := 11) (by decide) ?_
              refine ih (k + 1) _ (by omega) (by omega) (by omega) ?_
              rw [foldI_s (by omega), ← hr, startF]
              split <;> omega
  refine V.bipush aX6_start_0 (by decide) (by decide) ?_
  refine V.ist3 aX6_start_2 ?_
  refine V.ald0 aX6_start_3 ?_
  refine M.gf aX6_start_4 fl_RX6_7 rfl ?_
  refine V.iconst aX6_start_7 (by decide) ?_
  refine M.lds aX6_start_8 (by omega) ?_
  refine V.ist4 aX6_start_9 ?_
  exact loop _ _ _ (Nat.lt_succ_self _) (Int.le_refl _) h1 (foldI_0 (Int.le_refl _)).symm
theorem ok_needs {p k e : Int} (hN : Num s) (hp : 0 ≤ p ∧ p < 6) (h0 : s 2 ≤ k) (h1 : s 2 ≤ e) (h2 : e ≤ s 3) : Ok G kX6_needs 3 [.inr (some o), .inl p, .inl k, .inl e] sz (MM m o s sp pa sv sh ish tx ln cl bf mk st) 0 0 (PI (b2 (needsP s p k e)) sz (MM m o s sp pa sv sh ish tx ln cl bf mk st)) := by
  refine Ok.body [some (.inr (some o)), some (.inl p), some (.inl k), some (.inl e)] rfl (Nat.le_of_ble_eq_true rfl) (by decide) ?_
  obtain ⟨n0, n1, n2, n3, n4⟩ := id hN
  refine V.ild2 aX6_needs_0 ?_
  refine V.ild3 aX6_needs_1 ?_
  refine V.icmp_ge aX6_needs_2 (tgt := 43) (by decide) (fun c2 => ?_) (fun c2 => ?_)
  · refine V.iconst aX6_needs_43 (by decide) ?_
    refine V.zret aX6_needs_44 rfl (by first | decide | exact b2_01 | omega) (by decide) ?_
    exact PI.of (by unfold b2; split <;> omega)
  · refine V.ald0 aX6_needs_5 ?_
    refine V.ild2 aX6_needs_6 ?_
    refine V.iconst aX6_needs_7 (by decide) ?_
    refine call_X6_of aX6_needs_8 gl_RX6_66 (ok_of (by omega) (by omega) (by omega) (by omega) (by omega)) (MM_o) (Nat.le_of_ble_eq_true rfl) (by decide) (goI ?_)
    refine V.ild1 aX6_needs_11 ?_
    refine V.icmp_ne aX6_needs_12 (tgt := 43) (by decide) (fun c12 => ?_) (fun c12 => ?_)
    · refine V.iconst aX6_needs_43 (by decide) ?_
      refine V.zret aX6_needs_44 rfl (by first | decide | exact b2_01 | omega) (by decide) ?_
      exact PI.of (by unfold b2; split <;> omega)
    · refine V.ild2 aX6_needs_15 ?_
      refine V.ald0 aX6_needs_16 ?_
      refine M.gf aX6_needs_17 fl_RX6_7 rfl ?_
      refine V.sipush aX6_needs_20 (by decide) (by decide) ?_
      refine V.ild1 aX6_needs_23 ?_
      refine V.iadd aX6_needs_24 (by omega) ?_
      refine M.lds aX6_needs_25 (by omega) ?_
      refine V.icmp_lt aX6_needs_26 (tgt := 43) (by decide) (fun c26 => ?_) (fun c26 => ?_)
      · refine V.iconst aX6_needs_43 (by decide) ?_
        refine V.zret aX6_needs_44 rfl (by first | decide | exact b2_01 | omega) (by decide) ?_
        exact PI.of (by unfold b2; split <;> omega)
      · refine V.ild2 aX6_needs_29 ?_
        refine V.ald0 aX6_needs_30 ?_
        refine V.ild1 aX6_needs_31 ?_
        refine V.ild3 aX6_needs_32 ?_
        refine call_X6_start aX6_needs_33 gl_RX6_70 (ok_start hN hp (by omega) (by omega)) (MM_o) (Nat.le_of_ble_eq_true rfl) (by decide) (goI ?_)
        refine V.icmp_lt aX6_needs_36 (tgt := 43) (by decide) (fun c36 => ?_) (fun c36 => ?_)
        · refine V.iconst aX6_needs_43 (by decide) ?_
          refine V.zret aX6_needs_44 rfl (by first | decide | exact b2_01 | omega) (by decide) ?_
          exact PI.of (by unfold b2; split <;> omega)
        · refine V.iconst aX6_needs_39 (by decide) ?_
          refine V.goto aX6_needs_40 (tgt := 44) (by decide) ?_
          refine V.zret aX6_needs_44 rfl (by first | decide | exact b2_01 | omega) (by decide) ?_
          exact PI.of (by unfold b2; split <;> omega)
theorem ok_isNeeded {k : Int} (hN : Num s) (hE : EntS s) (h0 : s 2 ≤ k) (h1 : k < s 3) : Ok G kX6_isNeeded 4 [.inr (some o), .inl k] sz (MM m o s sp pa sv sh ish tx ln cl bf mk st) 0 0 (PI (b2 (isN s k)) sz (MM m o s sp pa sv sh ish tx ln cl bf mk st)) := by
  refine Ok.body [some (.inr (some o)), some (.inl k), none] rfl (Nat.le_of_ble_eq_true rfl) (by decide) ?_
  obtain ⟨n0, n1, n2, n3, n4⟩ := id hN
  have hp := hE.p h0 h1
  refine V.ald0 aX6_isNeeded_0 ?_
  refine V.ild1 aX6_isNeeded_1 ?_
  refine V.iconst aX6_isNeeded_2 (by decide) ?_
  refine call_X6_of aX6_isNeeded_3 gl_RX6_66 (ok_of (by omega) (by omega) (by omega) (by omega) (by omega)) (MM_o) (Nat.le_of_ble_eq_true rfl) (by decide) (goI ?_)
  refine V.ist2 aX6_isNeeded_6 ?_
  refine V.ald0 aX6_isNeeded_7 ?_
  refine V.ild2 aX6_isNeeded_8 ?_
  refine V.ild1 aX6_isNeeded_9 ?_
  refine V.ald0 aX6_isNeeded_10 ?_
  refine M.gf aX6_isNeeded_11 fl_RX6_7 rfl ?_
  refine V.iconst aX6_isNeeded_14 (by decide) ?_
  refine M.lds aX6_isNeeded_15 (by omega) ?_
  refine call_X6_needs aX6_isNeeded_16 gl_RX6_73 (ok_needs hN hp (by omega) (by omega) (by omega)) (MM_o) (Nat.le_of_ble_eq_true rfl) (by decide) (goI ?_)
  refine V.ifb_ne aX6_isNeeded_19 (tgt := 37) (by decide) (fun c19 => ?_) (fun c19 => ?_)
  · refine V.iconst aX6_isNeeded_37 (by decide) ?_
    refine V.goto aX6_isNeeded_38 (tgt := 42) (by decide) ?_
    refine V.zret aX6_isNeeded_42 rfl (by first | decide | exact b2_01 | omega) (by decide) ?_
    exact PI.of (by unfold b2; split <;> omega)
  · refine V.ald0 aX6_isNeeded_22 ?_
    refine V.ild2 aX6_isNeeded_23 ?_
    refine V.ild1 aX6_isNeeded_24 ?_
    refine V.ald0 aX6_isNeeded_25 ?_
    refine M.gf aX6_isNeeded_26 fl_RX6_7 rfl ?_
    refine V.iconst aX6_isNeeded_29 (by decide) ?_
    refine M.lds aX6_isNeeded_30 (by omega) ?_
    refine call_X6_needs aX6_isNeeded_31 gl_RX6_73 (ok_needs hN hp (by omega) (by omega) (by omega)) (MM_o) (Nat.le_of_ble_eq_true rfl) (by decide) (goI ?_)
    refine V.ifb_eq aX6_isNeeded_34 (tgt := 41) (by decide) (fun c34 => ?_) (fun c34 => ?_)
    · refine V.iconst aX6_isNeeded_41 (by decide) ?_
      refine V.zret aX6_isNeeded_42 rfl (by first | decide | exact b2_01 | omega) (by decide) ?_
      exact PI.of (by unfold b2; split <;> omega)
    · refine V.iconst aX6_isNeeded_37 (by decide) ?_
      refine V.goto aX6_isNeeded_38 (tgt := 42) (by decide) ?_
      refine V.zret aX6_isNeeded_42 rfl (by first | decide | exact b2_01 | omega) (by decide) ?_
      exact PI.of (by unfold b2; split <;> omega)
theorem ok_neededMany (hN : Num s) (hE : EntS s) : Ok G kX6_neededMany 5 [.inr (some o)] sz (MM m o s sp pa sv sh ish tx ln cl bf mk st) 0 0 (PI (neededMany s) sz (MM m o s sp pa sv sh ish tx ln cl bf mk st)) := by
  refine Ok.body [some (.inr (some o)), none, none] rfl (Nat.le_of_ble_eq_true rfl) (by decide) ?_
  obtain ⟨n0, n1, n2, n3, n4⟩ := id hN
  have loop : ∀ (n : Nat) (k r : Int), (s 3 - k).toNat < n → s 2 ≤ k → k ≤ s 3 → (0 ≤ r ∧ r ≤ k - s 2) → r = foldI (fun n k => n + b2 (isN s k)) 0 (s 2) k → V G kX6_neededMany (rmM 5 0 0) (QfM G (PI (neededMany s) sz (MM m o s sp pa sv sh ish tx ln cl bf mk st)) 0 0) 9 [some (.inr (some o)), some (.inl r), some (.inl k)] [] sz (MM m o s sp pa sv sh ish tx ln cl bf mk st) 0 0 := by
    intro n
    induction n with
    | zero => intro k r h; omega
    | succ n ih =>
      intro k r hn hk1 hk2 hb hr
      refine V.ild2 aX6_neededMany_9 ?_
      refine V.ald0 aX6_neededMany_10 ?_
      refine M.gf aX6_neededMany_11 fl_RX6_7 rfl ?_
      refine V.iconst aX6_neededMany_14 (by decide) ?_
      refine M.lds aX6_neededMany_15 (by omega) ?_
      refine V.icmp_ge aX6_neededMany_16 (tgt := 41) (by decide) (fun c16 => ?_) (fun c16 => ?_)
      · refine V.ild1 aX6_neededMany_41 ?_
        refine V.iret aX6_neededMany_42 rfl (by decide) ?_
        exact PI.of (by rw [hr, show k = s 3 by omega]; rfl)
      · refine V.ild1 aX6_neededMany_19 ?_
        refine V.ald0 aX6_neededMany_20 ?_
        refine V.ild2 aX6_neededMany_21 ?_
        refine call_X6_isNeeded aX6_neededMany_22 gl_RX6_76 (ok_isNeeded hN hE (by omega) (by omega)) (MM_o) (Nat.le_of_ble_eq_true rfl) (by decide) (goI ?_)
        refine V.ifb_eq aX6_neededMany_25 (tgt := 32) (by decide) (fun c25 => ?_) (fun c25 => ?_)
        · refine V.iconst aX6_neededMany_32 (by decide) ?_
          refine V.iadd aX6_neededMany_33 (by omega) ?_
          refine V.ist1 aX6_neededMany_34 ?_
          refine V.inc2 aX6_neededMany_35 (by omega) ?_
          refine V.goto aX6_neededMany_38 (tgt := 9) (by decide) ?_
          refine ih (k + 1) _ (by omega) (by omega) (by omega) (by omega) ?_
          rw [foldI_s (by omega), ← hr]
          unfold b2
          split <;> omega
        · refine V.iconst aX6_neededMany_28 (by decide) ?_
          refine V.goto aX6_neededMany_29 (tgt := 33) (by decide) ?_
          refine V.iadd aX6_neededMany_33 (by omega) ?_
          refine V.ist1 aX6_neededMany_34 ?_
          refine V.inc2 aX6_neededMany_35 (by omega) ?_
          refine V.goto aX6_neededMany_38 (tgt := 9) (by decide) ?_
          refine ih (k + 1) _ (by omega) (by omega) (by omega) (by omega) ?_
          rw [foldI_s (by omega), ← hr]
          unfold b2
          split <;> omega
  refine V.iconst aX6_neededMany_0 (by decide) ?_
  refine V.ist1 aX6_neededMany_1 ?_
  refine V.ald0 aX6_neededMany_2 ?_
  refine M.gf aX6_neededMany_3 fl_RX6_7 rfl ?_
  refine V.iconst aX6_neededMany_6 (by decide) ?_
  refine M.lds aX6_neededMany_7 (by omega) ?_
  refine V.ist2 aX6_neededMany_8 ?_
  exact loop _ _ _ (Nat.lt_succ_self _) (Int.le_refl _) (by omega) (by omega) (foldI_0 (Int.le_refl _)).symm
theorem ok_firstDamaged {p e : Int} (hN : Num s) (hp : 0 ≤ p ∧ p < 6) (h1 : s 2 ≤ e) (h2 : e ≤ s 3) : Ok G kX6_firstDamaged 4 [.inr (some o), .inl p, .inl e] sz (MM m o s sp pa sv sh ish tx ln cl bf mk st) 0 0 (PI (firstDam s p e) sz (MM m o s sp pa sv sh ish tx ln cl bf mk st)) := by
  refine Ok.body [some (.inr (some o)), some (.inl p), some (.inl e), none, none] rfl (Nat.le_of_ble_eq_true rfl) (by decide) ?_
  obtain ⟨n0, n1, n2, n3, n4⟩ := id hN
  have loop : ∀ (n : Nat) (k r : Int), (k - s 2 + 1).toNat < n → s 2 ≤ k + 1 → k + 1 ≤ e → r = foldD (fun found k => if needsP s p k e ∧ ofE s k 4 = 1 then k else found) (-5) e (k + 1) → V G kX6_firstDamaged (rmM 4 0 0) (QfM G (PI (firstDam s p e) sz (MM m o s sp pa sv sh ish tx ln cl bf mk st)) 0 0) 8 [some (.inr (some o)), some (.inl p), some (.inl e), some (.inl r), some (.inl k)] [] sz (MM m o s sp pa sv sh ish tx ln cl bf mk st) 0 0 := by
    intro n
    induction n with
    | zero => intro k r h; omega
    | succ n ih =>
      intro k r hn hk1 hk2 hr
      refine V.ild4 aX6_firstDamaged_8 ?_
      refine V.ald0 aX6_firstDamaged_10 ?_
      refine M.gf aX6_firstDamaged_11 fl_RX6_7 rfl ?_
      refine V.iconst aX6_firstDamaged_14 (by decide) ?_
      refine M.lds aX6_firstDamaged_15 (by omega) ?_
      refine V.icmp_lt aX6_firstDamaged_16 (tgt := 54) (by decide) (fun c16 => ?_) (fun c16 => ?_)
      · refine V.ild3 aX6_firstDamaged_54 ?_
        refine V.iret aX6_firstDamaged_55 rfl (by decide) ?_
        exact PI.of (by rw [hr, show k + 1 = s 2 by omega]; rfl)
      · refine V.ald0 aX6_firstDamaged_19 ?_
        refine V.ild1 aX6_firstDamaged_20 ?_
        refine V.ild4 aX6_firstDamaged_21 ?_
        refine V.ild2 aX6_firstDamaged_23 ?_
        refine call_X6_needs aX6_firstDamaged_24 gl_RX6_73 (ok_needs hN hp (by omega) (by omega) (by omega)) (MM_o) (Nat.le_of_ble_eq_true rfl) (by decide) (goI ?_)
        refine V.ifb_eq aX6_firstDamaged_27 (tgt := 46) (by decide) (fun c27 => ?_) (fun c27 => ?_)
        · refine V.ild3 aX6_firstDamaged_46 ?_
          refine V.ist3 aX6_firstDamaged_47 ?_
          refine V.inc4 aX6_firstDamaged_48 (by omega) ?_
          refine V.goto aX6_firstDamaged_51 (tgt := 8) (by decide) ?_
          refine ih (k + -1) _ (by omega) (by omega) (by omega) ?_
          rw [show k + -1 + 1 = k + 1 - 1 by omega, foldD_s (by omega), ← hr, show k + 1 - 1 = k by omega]
          split <;> omega
        · refine V.ald0 aX6_firstDamaged_30 ?_
          refine V.ild4 aX6_firstDamaged_31 ?_
          refine V.iconst aX6_firstDamaged_33 (by decide) ?_
          refine call_X6_of aX6_firstDamaged_34 gl_RX6_66 (ok_of (by omega) (by omega) (by omega) (by omega) (by omega)) (MM_o) (Nat.le_of_ble_eq_true rfl) (by decide) (goI ?_)
          refine V.iconst aX6_firstDamaged_37 (by decide) ?_
          refine V.icmp_ne aX6_firstDamaged_38 (tgt := 46) (by decide) (fun c38 => ?_) (fun c38 => ?_)
          · refine V.ild3 aX6_firstDamaged_46 ?_
            refine V.ist3 aX6_firstDamaged_47 ?_
            refine V.inc4 aX6_firstDamaged_48 (by omega) ?_
            refine V.goto aX6_firstDamaged_51 (tgt := 8) (by decide) ?_
            refine ih (k + -1) _ (by omega) (by omega) (by omega) ?_
            rw [show k + -1 + 1 = k + 1 - 1 by omega, foldD_s (by omega), ← hr, show k + 1 - 1 = k by omega]
            split <;> omega
          · refine V.ild4 aX6_firstDamaged_41 ?_
            refine V.goto aX6_firstDamaged_43 (tgt := 47) (by decide) ?_
            refine V.ist3 aX6_firstDamaged_47 ?_
            refine V.inc4 aX6_firstDamaged_48 (by omega) ?_
            refine V.goto aX6_firstDamaged_51 (tgt := 8) (by decide) ?_
            refine ih (k + -1) _ (by omega) (by omega) (by omega) ?_
            rw [show k + -1 + 1 = k + 1 - 1 by omega, foldD_s (by omega), ← hr, show k + 1 - 1 = k by omega]
            split <;> omega
  refine V.bipush aX6_firstDamaged_0 (by decide) (by decide) ?_
  refine V.ist3 aX6_firstDamaged_2 ?_
  refine V.ild2 aX6_firstDamaged_3 ?_
  refine V.iconst aX6_firstDamaged_4 (by decide) ?_
  refine V.isub aX6_firstDamaged_5 (by omega) ?_
  refine V.ist4 aX6_firstDamaged_6 ?_
  exact loop _ _ _ (Nat.lt_succ_self _) (by omega) (by omega) (by rw [show e - 1 + 1 = e by omega, foldD_0 (Int.le_refl _)])
theorem ok_used (hN : Num s) (hE : EntS s) : Ok G kX6_used 2 [.inr (some o)] sz (MM m o s sp pa sv sh ish tx ln cl bf mk st) 0 0 (PI (used s) sz (MM m o s sp pa sv sh ish tx ln cl bf mk st)) := by
  refine Ok.body [some (.inr (some o)), none, none] rfl (Nat.le_of_ble_eq_true rfl) (by decide) ?_
  obtain ⟨n0, n1, n2, n3, n4⟩ := id hN
  have loop : ∀ (n : Nat) (k r : Int), (s 3 - k).toNat < n → s 2 ≤ k → k ≤ s 3 → r = foldI (fun sum k => sum + sizeA s (atE s k)) 0 (s 2) k → V G kX6_used (rmM 2 0 0) (QfM G (PI (used s) sz (MM m o s sp pa sv sh ish tx ln cl bf mk st)) 0 0) 9 [some (.inr (some o)), some (.inl r), some (.inl k)] [] sz (MM m o s sp pa sv sh ish tx ln cl bf mk st) 0 0 := by
    intro n
    induction n with
    | zero => intro k r h; omega
    | succ n ih =>
      intro k r hn hk1 hk2 hr
      have hb := used_b hE hk1 hk2
      rw [← hr] at hb
      refine V.ild2 aX6_used_9 ?_
      refine V.ald0 aX6_used_10 ?_
      refine M.gf aX6_used_11 fl_RX6_7 rfl ?_
      refine V.iconst aX6_used_14 (by decide) ?_
      refine M.lds aX6_used_15 (by omega) ?_
      refine V.icmp_ge aX6_used_16 (tgt := 40) (by decide) (fun c16 => ?_) (fun c16 => ?_)
      · refine V.ild1 aX6_used_40 ?_
        refine V.iret aX6_used_41 rfl (by decide) ?_
        exact PI.of (by rw [hr, show k = s 3 by omega]; rfl)
      · have q3 := hE.m3 hk1 (by omega)
        have qs := hE.sz hk1 (by omega)
        refine V.ild1 aX6_used_19 ?_
        refine V.ald0 aX6_used_20 ?_
        refine M.gf aX6_used_21 fl_RX6_7 rfl ?_
        refine V.ald0 aX6_used_24 ?_
        refine V.ild2 aX6_used_25 ?_
        refine call_X6_at aX6_used_26 gl_RX6_55 (ok_at (by omega) (by omega) (by omega)) (MM_o) (Nat.le_of_ble_eq_true rfl) (by decide) (goI ?_)
        refine call_X6_sizeAt aX6_used_29 gl_RX6_63 (ok_sizeAt MM_s (by omega) (by omega) (by omega) (by omega) (by omega)) (Nat.le_of_ble_eq_true rfl) (by decide) (goI ?_)
        refine V.iadd aX6_used_32 (by omega) ?_
        refine V.ist1 aX6_used_33 ?_
        refine V.inc2 aX6_used_34 (by omega) ?_
        refine V.goto aX6_used_37 (tgt := 9) (by decide) ?_
        exact ih (k + 1) _ (by omega) (by omega) (by omega) (by rw [foldI_s (by omega), ← hr])
  refine V.iconst aX6_used_0 (by decide) ?_
  refine V.ist1 aX6_used_1 ?_
  refine V.ald0 aX6_used_2 ?_
  refine M.gf aX6_used_3 fl_RX6_7 rfl ?_
  refine V.iconst aX6_used_6 (by decide) ?_
  refine M.lds aX6_used_7 (by omega) ?_
  refine V.ist2 aX6_used_8 ?_
  exact loop _ _ _ (Nat.lt_succ_self _) (Int.le_refl _) (by omega) (foldI_0 (Int.le_refl _)).symm
end
end
