section
-- ===== PART A: goes FIRST, ahead of the names: the tables' words, and 'selects' of the private methods out of them =====
/-- a private method of a class that the tables say can be made, by its rows of tables_1 -/
def lw_okq (q : MethodName × Nat) : Prop := (q.1.cls ≠ "java/lang/invoke/MethodHandle" ∧ q.1.cls ≠ "java/lang/invoke/VarHandle") ∧ Cond.instantiable q.1.cls q.2 ∈ tables_1 ∧ Cond.privateMethod q.1 ∈ tables_1 ∧ Cond.instanceMethod q.1 ∈ tables_1
theorem lw_p0 : lw_okq (⟨"SetAgain$Chair", "forget", "(I)V"⟩, 5) := ⟨⟨by decide +kernel, by decide +kernel⟩, List.mem_of_getElem? (i := 26) (by decide +kernel), List.mem_of_getElem? (i := 409) (by decide +kernel), List.mem_of_getElem? (i := 410) (by decide +kernel)⟩
theorem lw_p1 : lw_okq (⟨"SetAgain", "fromRow", "(LSetAgain$Shelf;II)I"⟩, 10) := ⟨⟨by decide +kernel, by decide +kernel⟩, List.mem_of_getElem? (i := 18) (by decide +kernel), List.mem_of_getElem? (i := 420) (by decide +kernel), List.mem_of_getElem? (i := 421) (by decide +kernel)⟩
theorem lw_p2 : lw_okq (⟨"SetAgain", "comesFrom", "(LSetAgain$Shelf;I)Z"⟩, 10) := ⟨⟨by decide +kernel, by decide +kernel⟩, List.mem_of_getElem? (i := 18) (by decide +kernel), List.mem_of_getElem? (i := 428) (by decide +kernel), List.mem_of_getElem? (i := 429) (by decide +kernel)⟩
theorem lw_p3 : lw_okq (⟨"SetAgain$Changes", "dropOldest", "()V"⟩, 5) := ⟨⟨by decide +kernel, by decide +kernel⟩, List.mem_of_getElem? (i := 276) (by decide +kernel), List.mem_of_getElem? (i := 444) (by decide +kernel), List.mem_of_getElem? (i := 445) (by decide +kernel)⟩
theorem lw_p4 : lw_okq (⟨"SetAgain$Law", "lines", "()V"⟩, 10) := ⟨⟨by decide +kernel, by decide +kernel⟩, List.mem_of_getElem? (i := 32) (by decide +kernel), List.mem_of_getElem? (i := 478) (by decide +kernel), List.mem_of_getElem? (i := 479) (by decide +kernel)⟩
theorem lw_p5 : lw_okq (⟨"SetAgain$Law", "line", "()V"⟩, 10) := ⟨⟨by decide +kernel, by decide +kernel⟩, List.mem_of_getElem? (i := 32) (by decide +kernel), List.mem_of_getElem? (i := 482) (by decide +kernel), List.mem_of_getElem? (i := 483) (by decide +kernel)⟩
theorem lw_p6 : lw_okq (⟨"SetAgain$Law", "either", "(I)V"⟩, 10) := ⟨⟨by decide +kernel, by decide +kernel⟩, List.mem_of_getElem? (i := 32) (by decide +kernel), List.mem_of_getElem? (i := 486) (by decide +kernel), List.mem_of_getElem? (i := 487) (by decide +kernel)⟩
theorem lw_p7 : lw_okq (⟨"SetAgain$Law", "both", "(I)V"⟩, 10) := ⟨⟨by decide +kernel, by decide +kernel⟩, List.mem_of_getElem? (i := 32) (by decide +kernel), List.mem_of_getElem? (i := 490) (by decide +kernel), List.mem_of_getElem? (i := 491) (by decide +kernel)⟩
theorem lw_p8 : lw_okq (⟨"SetAgain$Law", "compared", "(I)V"⟩, 10) := ⟨⟨by decide +kernel, by decide +kernel⟩, List.mem_of_getElem? (i := 32) (by decide +kernel), List.mem_of_getElem? (i := 494) (by decide +kernel), List.mem_of_getElem? (i := 495) (by decide +kernel)⟩
theorem lw_p9 : lw_okq (⟨"SetAgain$Law", "sum", "(I)V"⟩, 10) := ⟨⟨by decide +kernel, by decide +kernel⟩, List.mem_of_getElem? (i := 32) (by decide +kernel), List.mem_of_getElem? (i := 498) (by decide +kernel), List.mem_of_getElem? (i := 499) (by decide +kernel)⟩
theorem lw_p10 : lw_okq (⟨"SetAgain$Law", "product", "(I)V"⟩, 10) := ⟨⟨by decide +kernel, by decide +kernel⟩, List.mem_of_getElem? (i := 32) (by decide +kernel), List.mem_of_getElem? (i := 502) (by decide +kernel), List.mem_of_getElem? (i := 503) (by decide +kernel)⟩
theorem lw_p11 : lw_okq (⟨"SetAgain$Law", "operand", "(I)V"⟩, 10) := ⟨⟨by decide +kernel, by decide +kernel⟩, List.mem_of_getElem? (i := 32) (by decide +kernel), List.mem_of_getElem? (i := 506) (by decide +kernel), List.mem_of_getElem? (i := 507) (by decide +kernel)⟩
theorem lw_p12 : lw_okq (⟨"SetAgain$Law", "next", "()I"⟩, 10) := ⟨⟨by decide +kernel, by decide +kernel⟩, List.mem_of_getElem? (i := 32) (by decide +kernel), List.mem_of_getElem? (i := 510) (by decide +kernel), List.mem_of_getElem? (i := 511) (by decide +kernel)⟩
theorem lw_p13 : lw_okq (⟨"SetAgain$Law", "number", "()V"⟩, 10) := ⟨⟨by decide +kernel, by decide +kernel⟩, List.mem_of_getElem? (i := 32) (by decide +kernel), List.mem_of_getElem? (i := 517) (by decide +kernel), List.mem_of_getElem? (i := 518) (by decide +kernel)⟩
theorem lw_p14 : lw_okq (⟨"SetAgain$Law", "write", "(I)V"⟩, 10) := ⟨⟨by decide +kernel, by decide +kernel⟩, List.mem_of_getElem? (i := 32) (by decide +kernel), List.mem_of_getElem? (i := 521) (by decide +kernel), List.mem_of_getElem? (i := 522) (by decide +kernel)⟩
theorem lw_p15 : lw_okq (⟨"SetAgain$Law", "fail", "()V"⟩, 10) := ⟨⟨by decide +kernel, by decide +kernel⟩, List.mem_of_getElem? (i := 32) (by decide +kernel), List.mem_of_getElem? (i := 528) (by decide +kernel), List.mem_of_getElem? (i := 529) (by decide +kernel)⟩
def lw_privs_1 : List (MethodName × Nat) := [(⟨"SetAgain$Chair", "forget", "(I)V"⟩, 5), (⟨"SetAgain", "fromRow", "(LSetAgain$Shelf;II)I"⟩, 10), (⟨"SetAgain", "comesFrom", "(LSetAgain$Shelf;I)Z"⟩, 10), (⟨"SetAgain$Changes", "dropOldest", "()V"⟩, 5), (⟨"SetAgain$Law", "lines", "()V"⟩, 10), (⟨"SetAgain$Law", "line", "()V"⟩, 10), (⟨"SetAgain$Law", "either", "(I)V"⟩, 10), (⟨"SetAgain$Law", "both", "(I)V"⟩, 10), (⟨"SetAgain$Law", "compared", "(I)V"⟩, 10), (⟨"SetAgain$Law", "sum", "(I)V"⟩, 10), (⟨"SetAgain$Law", "product", "(I)V"⟩, 10), (⟨"SetAgain$Law", "operand", "(I)V"⟩, 10), (⟨"SetAgain$Law", "next", "()I"⟩, 10), (⟨"SetAgain$Law", "number", "()V"⟩, 10), (⟨"SetAgain$Law", "write", "(I)V"⟩, 10), (⟨"SetAgain$Law", "fail", "()V"⟩, 10)]
theorem lw_r1 : ∀ q ∈ lw_privs_1, lw_okq q := List.forall_mem_cons.mpr ⟨lw_p0, List.forall_mem_cons.mpr ⟨lw_p1, List.forall_mem_cons.mpr ⟨lw_p2, List.forall_mem_cons.mpr ⟨lw_p3, List.forall_mem_cons.mpr ⟨lw_p4, List.forall_mem_cons.mpr ⟨lw_p5, List.forall_mem_cons.mpr ⟨lw_p6, List.forall_mem_cons.mpr ⟨lw_p7, List.forall_mem_cons.mpr ⟨lw_p8, List.forall_mem_cons.mpr ⟨lw_p9, List.forall_mem_cons.mpr ⟨lw_p10, List.forall_mem_cons.mpr ⟨lw_p11, List.forall_mem_cons.mpr ⟨lw_p12, List.forall_mem_cons.mpr ⟨lw_p13, List.forall_mem_cons.mpr ⟨lw_p14, List.forall_mem_cons.mpr ⟨lw_p15, fun _ h => absurd h List.not_mem_nil⟩⟩⟩⟩⟩⟩⟩⟩⟩⟩⟩⟩⟩⟩⟩⟩
theorem lw_p16 : lw_okq (⟨"SetAgain$Law", "opened", "(II)V"⟩, 10) := ⟨⟨by decide +kernel, by decide +kernel⟩, List.mem_of_getElem? (i := 32) (by decide +kernel), List.mem_of_getElem? (i := 532) (by decide +kernel), List.mem_of_getElem? (i := 533) (by decide +kernel)⟩
theorem lw_p17 : lw_okq (⟨"SetAgain", "readWeek", "(I)I"⟩, 10) := ⟨⟨by decide +kernel, by decide +kernel⟩, List.mem_of_getElem? (i := 18) (by decide +kernel), List.mem_of_getElem? (i := 584) (by decide +kernel), List.mem_of_getElem? (i := 585) (by decide +kernel)⟩
theorem lw_p18 : lw_okq (⟨"SetAgain", "refusalOf", "(I)I"⟩, 10) := ⟨⟨by decide +kernel, by decide +kernel⟩, List.mem_of_getElem? (i := 18) (by decide +kernel), List.mem_of_getElem? (i := 588) (by decide +kernel), List.mem_of_getElem? (i := 589) (by decide +kernel)⟩
theorem lw_p19 : lw_okq (⟨"SetAgain$Still", "worstLoss", "(II)I"⟩, 13) := ⟨⟨by decide +kernel, by decide +kernel⟩, List.mem_of_getElem? (i := 171) (by decide +kernel), List.mem_of_getElem? (i := 611) (by decide +kernel), List.mem_of_getElem? (i := 612) (by decide +kernel)⟩
theorem lw_p20 : lw_okq (⟨"SetAgain$Still", "weighWants", "(I)I"⟩, 13) := ⟨⟨by decide +kernel, by decide +kernel⟩, List.mem_of_getElem? (i := 171) (by decide +kernel), List.mem_of_getElem? (i := 624) (by decide +kernel), List.mem_of_getElem? (i := 625) (by decide +kernel)⟩
theorem lw_p21 : lw_okq (⟨"SetAgain$Turning", "pay", "(IZ)V"⟩, 3) := ⟨⟨by decide +kernel, by decide +kernel⟩, List.mem_of_getElem? (i := 218) (by decide +kernel), List.mem_of_getElem? (i := 637) (by decide +kernel), List.mem_of_getElem? (i := 638) (by decide +kernel)⟩
theorem lw_p22 : lw_okq (⟨"SetAgain$Turning", "unturned", "(III)I"⟩, 3) := ⟨⟨by decide +kernel, by decide +kernel⟩, List.mem_of_getElem? (i := 218) (by decide +kernel), List.mem_of_getElem? (i := 641) (by decide +kernel), List.mem_of_getElem? (i := 642) (by decide +kernel)⟩
theorem lw_p23 : lw_okq (⟨"SetAgain$Turning", "spread", "(II)V"⟩, 3) := ⟨⟨by decide +kernel, by decide +kernel⟩, List.mem_of_getElem? (i := 218) (by decide +kernel), List.mem_of_getElem? (i := 654) (by decide +kernel), List.mem_of_getElem? (i := 655) (by decide +kernel)⟩
theorem lw_p24 : lw_okq (⟨"SetAgain$Turning", "leastSetting", "(III)I"⟩, 3) := ⟨⟨by decide +kernel, by decide +kernel⟩, List.mem_of_getElem? (i := 218) (by decide +kernel), List.mem_of_getElem? (i := 659) (by decide +kernel), List.mem_of_getElem? (i := 660) (by decide +kernel)⟩
theorem lw_p25 : lw_okq (⟨"SetAgain$Habits", "standAsNow", "()V"⟩, 11) := ⟨⟨by decide +kernel, by decide +kernel⟩, List.mem_of_getElem? (i := 125) (by decide +kernel), List.mem_of_getElem? (i := 684) (by decide +kernel), List.mem_of_getElem? (i := 685) (by decide +kernel)⟩
theorem lw_p26 : lw_okq (⟨"SetAgain$Habits", "turnTo", "(II)I"⟩, 11) := ⟨⟨by decide +kernel, by decide +kernel⟩, List.mem_of_getElem? (i := 125) (by decide +kernel), List.mem_of_getElem? (i := 701) (by decide +kernel), List.mem_of_getElem? (i := 702) (by decide +kernel)⟩
theorem lw_p27 : lw_okq (⟨"SetAgain$Habits", "leaves", "()V"⟩, 11) := ⟨⟨by decide +kernel, by decide +kernel⟩, List.mem_of_getElem? (i := 125) (by decide +kernel), List.mem_of_getElem? (i := 713) (by decide +kernel), List.mem_of_getElem? (i := 714) (by decide +kernel)⟩
theorem lw_p28 : lw_okq (⟨"SetAgain$Habits", "slip", "()V"⟩, 11) := ⟨⟨by decide +kernel, by decide +kernel⟩, List.mem_of_getElem? (i := 125) (by decide +kernel), List.mem_of_getElem? (i := 717) (by decide +kernel), List.mem_of_getElem? (i := 718) (by decide +kernel)⟩
theorem lw_p29 : lw_okq (⟨"SetAgain$Habits", "sparedBy", "(I)I"⟩, 11) := ⟨⟨by decide +kernel, by decide +kernel⟩, List.mem_of_getElem? (i := 125) (by decide +kernel), List.mem_of_getElem? (i := 753) (by decide +kernel), List.mem_of_getElem? (i := 754) (by decide +kernel)⟩
theorem lw_p30 : lw_okq (⟨"SetAgain$Still", "gather", "()V"⟩, 13) := ⟨⟨by decide +kernel, by decide +kernel⟩, List.mem_of_getElem? (i := 171) (by decide +kernel), List.mem_of_getElem? (i := 773) (by decide +kernel), List.mem_of_getElem? (i := 774) (by decide +kernel)⟩
theorem lw_p31 : lw_okq (⟨"SetAgain$Still", "sumGroups", "(I)V"⟩, 13) := ⟨⟨by decide +kernel, by decide +kernel⟩, List.mem_of_getElem? (i := 171) (by decide +kernel), List.mem_of_getElem? (i := 777) (by decide +kernel), List.mem_of_getElem? (i := 778) (by decide +kernel)⟩
def lw_privs_2 : List (MethodName × Nat) := [(⟨"SetAgain$Law", "opened", "(II)V"⟩, 10), (⟨"SetAgain", "readWeek", "(I)I"⟩, 10), (⟨"SetAgain", "refusalOf", "(I)I"⟩, 10), (⟨"SetAgain$Still", "worstLoss", "(II)I"⟩, 13), (⟨"SetAgain$Still", "weighWants", "(I)I"⟩, 13), (⟨"SetAgain$Turning", "pay", "(IZ)V"⟩, 3), (⟨"SetAgain$Turning", "unturned", "(III)I"⟩, 3), (⟨"SetAgain$Turning", "spread", "(II)V"⟩, 3), (⟨"SetAgain$Turning", "leastSetting", "(III)I"⟩, 3), (⟨"SetAgain$Habits", "standAsNow", "()V"⟩, 11), (⟨"SetAgain$Habits", "turnTo", "(II)I"⟩, 11), (⟨"SetAgain$Habits", "leaves", "()V"⟩, 11), (⟨"SetAgain$Habits", "slip", "()V"⟩, 11), (⟨"SetAgain$Habits", "sparedBy", "(I)I"⟩, 11), (⟨"SetAgain$Still", "gather", "()V"⟩, 13), (⟨"SetAgain$Still", "sumGroups", "(I)V"⟩, 13)]
theorem lw_r2 : ∀ q ∈ lw_privs_2, lw_okq q := List.forall_mem_cons.mpr ⟨lw_p16, List.forall_mem_cons.mpr ⟨lw_p17, List.forall_mem_cons.mpr ⟨lw_p18, List.forall_mem_cons.mpr ⟨lw_p19, List.forall_mem_cons.mpr ⟨lw_p20, List.forall_mem_cons.mpr ⟨lw_p21, List.forall_mem_cons.mpr ⟨lw_p22, List.forall_mem_cons.mpr ⟨lw_p23, List.forall_mem_cons.mpr ⟨lw_p24, List.forall_mem_cons.mpr ⟨lw_p25, List.forall_mem_cons.mpr ⟨lw_p26, List.forall_mem_cons.mpr ⟨lw_p27, List.forall_mem_cons.mpr ⟨lw_p28, List.forall_mem_cons.mpr ⟨lw_p29, List.forall_mem_cons.mpr ⟨lw_p30, List.forall_mem_cons.mpr ⟨lw_p31, fun _ h => absurd h List.not_mem_nil⟩⟩⟩⟩⟩⟩⟩⟩⟩⟩⟩⟩⟩⟩⟩⟩
theorem lw_p32 : lw_okq (⟨"SetAgain$Still", "sumGroupsUpTo", "(IIZ)V"⟩, 13) := ⟨⟨by decide +kernel, by decide +kernel⟩, List.mem_of_getElem? (i := 171) (by decide +kernel), List.mem_of_getElem? (i := 781) (by decide +kernel), List.mem_of_getElem? (i := 782) (by decide +kernel)⟩
theorem lw_p33 : lw_okq (⟨"SetAgain$Still", "part", "(I)V"⟩, 13) := ⟨⟨by decide +kernel, by decide +kernel⟩, List.mem_of_getElem? (i := 171) (by decide +kernel), List.mem_of_getElem? (i := 786) (by decide +kernel), List.mem_of_getElem? (i := 787) (by decide +kernel)⟩
theorem lw_p34 : lw_okq (⟨"SetAgain$Still", "weigh", "()V"⟩, 13) := ⟨⟨by decide +kernel, by decide +kernel⟩, List.mem_of_getElem? (i := 171) (by decide +kernel), List.mem_of_getElem? (i := 790) (by decide +kernel), List.mem_of_getElem? (i := 791) (by decide +kernel)⟩
theorem lw_p35 : lw_okq (⟨"SetAgain$Still", "chairOf", "(I)I"⟩, 13) := ⟨⟨by decide +kernel, by decide +kernel⟩, List.mem_of_getElem? (i := 171) (by decide +kernel), List.mem_of_getElem? (i := 794) (by decide +kernel), List.mem_of_getElem? (i := 795) (by decide +kernel)⟩
theorem lw_p36 : lw_okq (⟨"SetAgain$Seen", "reachedAhead", "(I)J"⟩, 3) := ⟨⟨by decide +kernel, by decide +kernel⟩, List.mem_of_getElem? (i := 234) (by decide +kernel), List.mem_of_getElem? (i := 815) (by decide +kernel), List.mem_of_getElem? (i := 816) (by decide +kernel)⟩
theorem lw_p37 : lw_okq (⟨"SetAgain$Seen", "allBehind", "(JI)J"⟩, 3) := ⟨⟨by decide +kernel, by decide +kernel⟩, List.mem_of_getElem? (i := 234) (by decide +kernel), List.mem_of_getElem? (i := 819) (by decide +kernel), List.mem_of_getElem? (i := 820) (by decide +kernel)⟩
theorem lw_p38 : lw_okq (⟨"SetAgain$Seen", "behindShift", "(II)I"⟩, 3) := ⟨⟨by decide +kernel, by decide +kernel⟩, List.mem_of_getElem? (i := 234) (by decide +kernel), List.mem_of_getElem? (i := 823) (by decide +kernel), List.mem_of_getElem? (i := 824) (by decide +kernel)⟩
theorem lw_p39 : lw_okq (⟨"SetAgain$Seen", "asSeen", "(I)J"⟩, 3) := ⟨⟨by decide +kernel, by decide +kernel⟩, List.mem_of_getElem? (i := 234) (by decide +kernel), List.mem_of_getElem? (i := 830) (by decide +kernel), List.mem_of_getElem? (i := 831) (by decide +kernel)⟩
theorem lw_p40 : lw_okq (⟨"SetAgain$Seen", "fittingBehind", "(I)J"⟩, 3) := ⟨⟨by decide +kernel, by decide +kernel⟩, List.mem_of_getElem? (i := 234) (by decide +kernel), List.mem_of_getElem? (i := 837) (by decide +kernel), List.mem_of_getElem? (i := 838) (by decide +kernel)⟩
theorem lw_p41 : lw_okq (⟨"SetAgain$Seen", "allAhead", "(J)J"⟩, 3) := ⟨⟨by decide +kernel, by decide +kernel⟩, List.mem_of_getElem? (i := 234) (by decide +kernel), List.mem_of_getElem? (i := 842) (by decide +kernel), List.mem_of_getElem? (i := 843) (by decide +kernel)⟩
theorem lw_p42 : lw_okq (⟨"SetAgain", "firstUnlike", "(LSetAgain$Shelf;I)I"⟩, 10) := ⟨⟨by decide +kernel, by decide +kernel⟩, List.mem_of_getElem? (i := 18) (by decide +kernel), List.mem_of_getElem? (i := 850) (by decide +kernel), List.mem_of_getElem? (i := 851) (by decide +kernel)⟩
theorem lw_p43 : lw_okq (⟨"SetAgain$Desks", "does", "(IIII)I"⟩, 6) := ⟨⟨by decide +kernel, by decide +kernel⟩, List.mem_of_getElem? (i := 303) (by decide +kernel), List.mem_of_getElem? (i := 944) (by decide +kernel), List.mem_of_getElem? (i := 945) (by decide +kernel)⟩
theorem lw_p44 : lw_okq (⟨"SetAgain$Desks", "runs", "(IIII)I"⟩, 6) := ⟨⟨by decide +kernel, by decide +kernel⟩, List.mem_of_getElem? (i := 303) (by decide +kernel), List.mem_of_getElem? (i := 955) (by decide +kernel), List.mem_of_getElem? (i := 956) (by decide +kernel)⟩
theorem lw_p45 : lw_okq (⟨"SetAgain", "refusalAt", "(II)I"⟩, 10) := ⟨⟨by decide +kernel, by decide +kernel⟩, List.mem_of_getElem? (i := 18) (by decide +kernel), List.mem_of_getElem? (i := 983) (by decide +kernel), List.mem_of_getElem? (i := 984) (by decide +kernel)⟩
theorem lw_p46 : lw_okq (⟨"SetAgainModel", "adds", "(IIII)V"⟩, 55) := ⟨⟨by decide +kernel, by decide +kernel⟩, List.mem_of_getElem? (i := 1017) (by decide +kernel), List.mem_of_getElem? (i := 1209) (by decide +kernel), List.mem_of_getElem? (i := 1210) (by decide +kernel)⟩
theorem lw_p47 : lw_okq (⟨"SetAgainModel", "placeOf", "(II)I"⟩, 55) := ⟨⟨by decide +kernel, by decide +kernel⟩, List.mem_of_getElem? (i := 1017) (by decide +kernel), List.mem_of_getElem? (i := 1226) (by decide +kernel), List.mem_of_getElem? (i := 1227) (by decide +kernel)⟩
def lw_privs_3 : List (MethodName × Nat) := [(⟨"SetAgain$Still", "sumGroupsUpTo", "(IIZ)V"⟩, 13), (⟨"SetAgain$Still", "part", "(I)V"⟩, 13), (⟨"SetAgain$Still", "weigh", "()V"⟩, 13), (⟨"SetAgain$Still", "chairOf", "(I)I"⟩, 13), (⟨"SetAgain$Seen", "reachedAhead", "(I)J"⟩, 3), (⟨"SetAgain$Seen", "allBehind", "(JI)J"⟩, 3), (⟨"SetAgain$Seen", "behindShift", "(II)I"⟩, 3), (⟨"SetAgain$Seen", "asSeen", "(I)J"⟩, 3), (⟨"SetAgain$Seen", "fittingBehind", "(I)J"⟩, 3), (⟨"SetAgain$Seen", "allAhead", "(J)J"⟩, 3), (⟨"SetAgain", "firstUnlike", "(LSetAgain$Shelf;I)I"⟩, 10), (⟨"SetAgain$Desks", "does", "(IIII)I"⟩, 6), (⟨"SetAgain$Desks", "runs", "(IIII)I"⟩, 6), (⟨"SetAgain", "refusalAt", "(II)I"⟩, 10), (⟨"SetAgainModel", "adds", "(IIII)V"⟩, 55), (⟨"SetAgainModel", "placeOf", "(II)I"⟩, 55)]
theorem lw_r3 : ∀ q ∈ lw_privs_3, lw_okq q := List.forall_mem_cons.mpr ⟨lw_p32, List.forall_mem_cons.mpr ⟨lw_p33, List.forall_mem_cons.mpr ⟨lw_p34, List.forall_mem_cons.mpr ⟨lw_p35, List.forall_mem_cons.mpr ⟨lw_p36, List.forall_mem_cons.mpr ⟨lw_p37, List.forall_mem_cons.mpr ⟨lw_p38, List.forall_mem_cons.mpr ⟨lw_p39, List.forall_mem_cons.mpr ⟨lw_p40, List.forall_mem_cons.mpr ⟨lw_p41, List.forall_mem_cons.mpr ⟨lw_p42, List.forall_mem_cons.mpr ⟨lw_p43, List.forall_mem_cons.mpr ⟨lw_p44, List.forall_mem_cons.mpr ⟨lw_p45, List.forall_mem_cons.mpr ⟨lw_p46, List.forall_mem_cons.mpr ⟨lw_p47, fun _ h => absurd h List.not_mem_nil⟩⟩⟩⟩⟩⟩⟩⟩⟩⟩⟩⟩⟩⟩⟩⟩
theorem lw_p48 : lw_okq (⟨"SetAgainModel", "isSitter", "(J)Z"⟩, 55) := ⟨⟨by decide +kernel, by decide +kernel⟩, List.mem_of_getElem? (i := 1017) (by decide +kernel), List.mem_of_getElem? (i := 1231) (by decide +kernel), List.mem_of_getElem? (i := 1232) (by decide +kernel)⟩
theorem lw_p49 : lw_okq (⟨"SetAgainModel", "becomes", "(II)I"⟩, 55) := ⟨⟨by decide +kernel, by decide +kernel⟩, List.mem_of_getElem? (i := 1017) (by decide +kernel), List.mem_of_getElem? (i := 1243) (by decide +kernel), List.mem_of_getElem? (i := 1244) (by decide +kernel)⟩
theorem lw_p50 : lw_okq (⟨"SetAgainModel", "workOut", "(II)I"⟩, 55) := ⟨⟨by decide +kernel, by decide +kernel⟩, List.mem_of_getElem? (i := 1017) (by decide +kernel), List.mem_of_getElem? (i := 1260) (by decide +kernel), List.mem_of_getElem? (i := 1261) (by decide +kernel)⟩
theorem lw_p51 : lw_okq (⟨"SetAgainModel", "either", "()I"⟩, 55) := ⟨⟨by decide +kernel, by decide +kernel⟩, List.mem_of_getElem? (i := 1017) (by decide +kernel), List.mem_of_getElem? (i := 1264) (by decide +kernel), List.mem_of_getElem? (i := 1265) (by decide +kernel)⟩
theorem lw_p52 : lw_okq (⟨"SetAgainModel", "both", "()I"⟩, 55) := ⟨⟨by decide +kernel, by decide +kernel⟩, List.mem_of_getElem? (i := 1017) (by decide +kernel), List.mem_of_getElem? (i := 1268) (by decide +kernel), List.mem_of_getElem? (i := 1269) (by decide +kernel)⟩
theorem lw_p53 : lw_okq (⟨"SetAgainModel", "compared", "()I"⟩, 55) := ⟨⟨by decide +kernel, by decide +kernel⟩, List.mem_of_getElem? (i := 1017) (by decide +kernel), List.mem_of_getElem? (i := 1272) (by decide +kernel), List.mem_of_getElem? (i := 1273) (by decide +kernel)⟩
theorem lw_p54 : lw_okq (⟨"SetAgainModel", "sums", "()I"⟩, 55) := ⟨⟨by decide +kernel, by decide +kernel⟩, List.mem_of_getElem? (i := 1017) (by decide +kernel), List.mem_of_getElem? (i := 1276) (by decide +kernel), List.mem_of_getElem? (i := 1277) (by decide +kernel)⟩
theorem lw_p55 : lw_okq (⟨"SetAgainModel", "product", "()I"⟩, 55) := ⟨⟨by decide +kernel, by decide +kernel⟩, List.mem_of_getElem? (i := 1017) (by decide +kernel), List.mem_of_getElem? (i := 1280) (by decide +kernel), List.mem_of_getElem? (i := 1281) (by decide +kernel)⟩
theorem lw_p56 : lw_okq (⟨"SetAgainModel", "one", "()I"⟩, 55) := ⟨⟨by decide +kernel, by decide +kernel⟩, List.mem_of_getElem? (i := 1017) (by decide +kernel), List.mem_of_getElem? (i := 1284) (by decide +kernel), List.mem_of_getElem? (i := 1285) (by decide +kernel)⟩
theorem lw_p57 : lw_okq (⟨"SetAgainModel", "byteAt", "()I"⟩, 55) := ⟨⟨by decide +kernel, by decide +kernel⟩, List.mem_of_getElem? (i := 1017) (by decide +kernel), List.mem_of_getElem? (i := 1288) (by decide +kernel), List.mem_of_getElem? (i := 1289) (by decide +kernel)⟩
theorem lw_p58 : lw_okq (⟨"SetAgainModel", "wrong", "()I"⟩, 55) := ⟨⟨by decide +kernel, by decide +kernel⟩, List.mem_of_getElem? (i := 1017) (by decide +kernel), List.mem_of_getElem? (i := 1292) (by decide +kernel), List.mem_of_getElem? (i := 1293) (by decide +kernel)⟩
theorem lw_p59 : lw_okq (⟨"SetAgainModel", "takes", "(I)Z"⟩, 55) := ⟨⟨by decide +kernel, by decide +kernel⟩, List.mem_of_getElem? (i := 1017) (by decide +kernel), List.mem_of_getElem? (i := 1296) (by decide +kernel), List.mem_of_getElem? (i := 1297) (by decide +kernel)⟩
theorem lw_p60 : lw_okq (⟨"SetAgainModel", "lossOf", "(III)I"⟩, 55) := ⟨⟨by decide +kernel, by decide +kernel⟩, List.mem_of_getElem? (i := 1017) (by decide +kernel), List.mem_of_getElem? (i := 1307) (by decide +kernel), List.mem_of_getElem? (i := 1308) (by decide +kernel)⟩
theorem lw_p61 : lw_okq (⟨"SetAgainModel", "numberOf", "(II)I"⟩, 55) := ⟨⟨by decide +kernel, by decide +kernel⟩, List.mem_of_getElem? (i := 1017) (by decide +kernel), List.mem_of_getElem? (i := 1311) (by decide +kernel), List.mem_of_getElem? (i := 1312) (by decide +kernel)⟩
theorem lw_p62 : lw_okq (⟨"SetAgainModel", "bytesIs", "(I)I"⟩, 55) := ⟨⟨by decide +kernel, by decide +kernel⟩, List.mem_of_getElem? (i := 1017) (by decide +kernel), List.mem_of_getElem? (i := 1322) (by decide +kernel), List.mem_of_getElem? (i := 1323) (by decide +kernel)⟩
theorem lw_p63 : lw_okq (⟨"SetAgainModel", "neverOf", "(III)I"⟩, 55) := ⟨⟨by decide +kernel, by decide +kernel⟩, List.mem_of_getElem? (i := 1017) (by decide +kernel), List.mem_of_getElem? (i := 1326) (by decide +kernel), List.mem_of_getElem? (i := 1327) (by decide +kernel)⟩
def lw_privs_4 : List (MethodName × Nat) := [(⟨"SetAgainModel", "isSitter", "(J)Z"⟩, 55), (⟨"SetAgainModel", "becomes", "(II)I"⟩, 55), (⟨"SetAgainModel", "workOut", "(II)I"⟩, 55), (⟨"SetAgainModel", "either", "()I"⟩, 55), (⟨"SetAgainModel", "both", "()I"⟩, 55), (⟨"SetAgainModel", "compared", "()I"⟩, 55), (⟨"SetAgainModel", "sums", "()I"⟩, 55), (⟨"SetAgainModel", "product", "()I"⟩, 55), (⟨"SetAgainModel", "one", "()I"⟩, 55), (⟨"SetAgainModel", "byteAt", "()I"⟩, 55), (⟨"SetAgainModel", "wrong", "()I"⟩, 55), (⟨"SetAgainModel", "takes", "(I)Z"⟩, 55), (⟨"SetAgainModel", "lossOf", "(III)I"⟩, 55), (⟨"SetAgainModel", "numberOf", "(II)I"⟩, 55), (⟨"SetAgainModel", "bytesIs", "(I)I"⟩, 55), (⟨"SetAgainModel", "neverOf", "(III)I"⟩, 55)]
theorem lw_r4 : ∀ q ∈ lw_privs_4, lw_okq q := List.forall_mem_cons.mpr ⟨lw_p48, List.forall_mem_cons.mpr ⟨lw_p49, List.forall_mem_cons.mpr ⟨lw_p50, List.forall_mem_cons.mpr ⟨lw_p51, List.forall_mem_cons.mpr ⟨lw_p52, List.forall_mem_cons.mpr ⟨lw_p53, List.forall_mem_cons.mpr ⟨lw_p54, List.forall_mem_cons.mpr ⟨lw_p55, List.forall_mem_cons.mpr ⟨lw_p56, List.forall_mem_cons.mpr ⟨lw_p57, List.forall_mem_cons.mpr ⟨lw_p58, List.forall_mem_cons.mpr ⟨lw_p59, List.forall_mem_cons.mpr ⟨lw_p60, List.forall_mem_cons.mpr ⟨lw_p61, List.forall_mem_cons.mpr ⟨lw_p62, List.forall_mem_cons.mpr ⟨lw_p63, fun _ h => absurd h List.not_mem_nil⟩⟩⟩⟩⟩⟩⟩⟩⟩⟩⟩⟩⟩⟩⟩⟩
theorem lw_p64 : lw_okq (⟨"SetAgainModel", "shiftsOf", "(I)I"⟩, 55) := ⟨⟨by decide +kernel, by decide +kernel⟩, List.mem_of_getElem? (i := 1017) (by decide +kernel), List.mem_of_getElem? (i := 1330) (by decide +kernel), List.mem_of_getElem? (i := 1331) (by decide +kernel)⟩
theorem lw_p65 : lw_okq (⟨"SetAgainModel", "whoSits", "(II)I"⟩, 55) := ⟨⟨by decide +kernel, by decide +kernel⟩, List.mem_of_getElem? (i := 1017) (by decide +kernel), List.mem_of_getElem? (i := 1334) (by decide +kernel), List.mem_of_getElem? (i := 1335) (by decide +kernel)⟩
theorem lw_p66 : lw_okq (⟨"SetAgainModel", "anySits", "(I)Z"⟩, 55) := ⟨⟨by decide +kernel, by decide +kernel⟩, List.mem_of_getElem? (i := 1017) (by decide +kernel), List.mem_of_getElem? (i := 1343) (by decide +kernel), List.mem_of_getElem? (i := 1344) (by decide +kernel)⟩
theorem lw_p67 : lw_okq (⟨"SetAgainModel", "worstOf", "(III)I"⟩, 55) := ⟨⟨by decide +kernel, by decide +kernel⟩, List.mem_of_getElem? (i := 1017) (by decide +kernel), List.mem_of_getElem? (i := 1347) (by decide +kernel), List.mem_of_getElem? (i := 1348) (by decide +kernel)⟩
theorem lw_p68 : lw_okq (⟨"SetAgainModel", "weightTo", "(III)I"⟩, 55) := ⟨⟨by decide +kernel, by decide +kernel⟩, List.mem_of_getElem? (i := 1017) (by decide +kernel), List.mem_of_getElem? (i := 1355) (by decide +kernel), List.mem_of_getElem? (i := 1356) (by decide +kernel)⟩
theorem lw_p69 : lw_okq (⟨"SetAgainModel", "weightOf", "(I)I"⟩, 55) := ⟨⟨by decide +kernel, by decide +kernel⟩, List.mem_of_getElem? (i := 1017) (by decide +kernel), List.mem_of_getElem? (i := 1359) (by decide +kernel), List.mem_of_getElem? (i := 1360) (by decide +kernel)⟩
theorem lw_p70 : lw_okq (⟨"SetAgainModel", "isWanted", "(III)Z"⟩, 55) := ⟨⟨by decide +kernel, by decide +kernel⟩, List.mem_of_getElem? (i := 1017) (by decide +kernel), List.mem_of_getElem? (i := 1363) (by decide +kernel), List.mem_of_getElem? (i := 1364) (by decide +kernel)⟩
theorem lw_p71 : lw_okq (⟨"SetAgainModel", "asksLosses", "(II)V"⟩, 55) := ⟨⟨by decide +kernel, by decide +kernel⟩, List.mem_of_getElem? (i := 1017) (by decide +kernel), List.mem_of_getElem? (i := 1371) (by decide +kernel), List.mem_of_getElem? (i := 1372) (by decide +kernel)⟩
theorem lw_p72 : lw_okq (⟨"SetAgainModel", "costBy", "(IIII)I"⟩, 55) := ⟨⟨by decide +kernel, by decide +kernel⟩, List.mem_of_getElem? (i := 1017) (by decide +kernel), List.mem_of_getElem? (i := 1375) (by decide +kernel), List.mem_of_getElem? (i := 1376) (by decide +kernel)⟩
theorem lw_p73 : lw_okq (⟨"SetAgainModel", "slipped", "(II)I"⟩, 55) := ⟨⟨by decide +kernel, by decide +kernel⟩, List.mem_of_getElem? (i := 1017) (by decide +kernel), List.mem_of_getElem? (i := 1379) (by decide +kernel), List.mem_of_getElem? (i := 1380) (by decide +kernel)⟩
theorem lw_p74 : lw_okq (⟨"SetAgainModel", "weekOf", "(I)I"⟩, 55) := ⟨⟨by decide +kernel, by decide +kernel⟩, List.mem_of_getElem? (i := 1017) (by decide +kernel), List.mem_of_getElem? (i := 1391) (by decide +kernel), List.mem_of_getElem? (i := 1392) (by decide +kernel)⟩
theorem lw_p75 : lw_okq (⟨"SetAgainModel", "beginsWeek", "()V"⟩, 55) := ⟨⟨by decide +kernel, by decide +kernel⟩, List.mem_of_getElem? (i := 1017) (by decide +kernel), List.mem_of_getElem? (i := 1395) (by decide +kernel), List.mem_of_getElem? (i := 1396) (by decide +kernel)⟩
theorem lw_p76 : lw_okq (⟨"SetAgainModel", "comes", "(I)V"⟩, 55) := ⟨⟨by decide +kernel, by decide +kernel⟩, List.mem_of_getElem? (i := 1017) (by decide +kernel), List.mem_of_getElem? (i := 1399) (by decide +kernel), List.mem_of_getElem? (i := 1400) (by decide +kernel)⟩
theorem lw_p77 : lw_okq (⟨"SetAgainModel", "nearBy", "(I)I"⟩, 55) := ⟨⟨by decide +kernel, by decide +kernel⟩, List.mem_of_getElem? (i := 1017) (by decide +kernel), List.mem_of_getElem? (i := 1403) (by decide +kernel), List.mem_of_getElem? (i := 1404) (by decide +kernel)⟩
theorem lw_p78 : lw_okq (⟨"SetAgainModel", "turnsTo", "(III)V"⟩, 55) := ⟨⟨by decide +kernel, by decide +kernel⟩, List.mem_of_getElem? (i := 1017) (by decide +kernel), List.mem_of_getElem? (i := 1407) (by decide +kernel), List.mem_of_getElem? (i := 1408) (by decide +kernel)⟩
theorem lw_p79 : lw_okq (⟨"SetAgainModel", "priceOf", "(I)I"⟩, 55) := ⟨⟨by decide +kernel, by decide +kernel⟩, List.mem_of_getElem? (i := 1017) (by decide +kernel), List.mem_of_getElem? (i := 1411) (by decide +kernel), List.mem_of_getElem? (i := 1412) (by decide +kernel)⟩
def lw_privs_5 : List (MethodName × Nat) := [(⟨"SetAgainModel", "shiftsOf", "(I)I"⟩, 55), (⟨"SetAgainModel", "whoSits", "(II)I"⟩, 55), (⟨"SetAgainModel", "anySits", "(I)Z"⟩, 55), (⟨"SetAgainModel", "worstOf", "(III)I"⟩, 55), (⟨"SetAgainModel", "weightTo", "(III)I"⟩, 55), (⟨"SetAgainModel", "weightOf", "(I)I"⟩, 55), (⟨"SetAgainModel", "isWanted", "(III)Z"⟩, 55), (⟨"SetAgainModel", "asksLosses", "(II)V"⟩, 55), (⟨"SetAgainModel", "costBy", "(IIII)I"⟩, 55), (⟨"SetAgainModel", "slipped", "(II)I"⟩, 55), (⟨"SetAgainModel", "weekOf", "(I)I"⟩, 55), (⟨"SetAgainModel", "beginsWeek", "()V"⟩, 55), (⟨"SetAgainModel", "comes", "(I)V"⟩, 55), (⟨"SetAgainModel", "nearBy", "(I)I"⟩, 55), (⟨"SetAgainModel", "turnsTo", "(III)V"⟩, 55), (⟨"SetAgainModel", "priceOf", "(I)I"⟩, 55)]
theorem lw_r5 : ∀ q ∈ lw_privs_5, lw_okq q := List.forall_mem_cons.mpr ⟨lw_p64, List.forall_mem_cons.mpr ⟨lw_p65, List.forall_mem_cons.mpr ⟨lw_p66, List.forall_mem_cons.mpr ⟨lw_p67, List.forall_mem_cons.mpr ⟨lw_p68, List.forall_mem_cons.mpr ⟨lw_p69, List.forall_mem_cons.mpr ⟨lw_p70, List.forall_mem_cons.mpr ⟨lw_p71, List.forall_mem_cons.mpr ⟨lw_p72, List.forall_mem_cons.mpr ⟨lw_p73, List.forall_mem_cons.mpr ⟨lw_p74, List.forall_mem_cons.mpr ⟨lw_p75, List.forall_mem_cons.mpr ⟨lw_p76, List.forall_mem_cons.mpr ⟨lw_p77, List.forall_mem_cons.mpr ⟨lw_p78, List.forall_mem_cons.mpr ⟨lw_p79, fun _ h => absurd h List.not_mem_nil⟩⟩⟩⟩⟩⟩⟩⟩⟩⟩⟩⟩⟩⟩⟩⟩
theorem lw_p80 : lw_okq (⟨"SetAgainModel", "sitsSet", "(I)I"⟩, 55) := ⟨⟨by decide +kernel, by decide +kernel⟩, List.mem_of_getElem? (i := 1017) (by decide +kernel), List.mem_of_getElem? (i := 1446) (by decide +kernel), List.mem_of_getElem? (i := 1447) (by decide +kernel)⟩
theorem lw_p81 : lw_okq (⟨"SetAgainModel", "chairsOn", "(IIII)V"⟩, 55) := ⟨⟨by decide +kernel, by decide +kernel⟩, List.mem_of_getElem? (i := 1017) (by decide +kernel), List.mem_of_getElem? (i := 1450) (by decide +kernel), List.mem_of_getElem? (i := 1451) (by decide +kernel)⟩
theorem lw_p82 : lw_okq (⟨"SetAgainModel", "chairLoss", "(II)I"⟩, 55) := ⟨⟨by decide +kernel, by decide +kernel⟩, List.mem_of_getElem? (i := 1017) (by decide +kernel), List.mem_of_getElem? (i := 1454) (by decide +kernel), List.mem_of_getElem? (i := 1455) (by decide +kernel)⟩
theorem lw_p83 : lw_okq (⟨"SetAgainModel", "may1", "(I)Z"⟩, 55) := ⟨⟨by decide +kernel, by decide +kernel⟩, List.mem_of_getElem? (i := 1017) (by decide +kernel), List.mem_of_getElem? (i := 1463) (by decide +kernel), List.mem_of_getElem? (i := 1464) (by decide +kernel)⟩
theorem lw_p84 : lw_okq (⟨"SetAgainModel", "standsBy", "(III)I"⟩, 55) := ⟨⟨by decide +kernel, by decide +kernel⟩, List.mem_of_getElem? (i := 1017) (by decide +kernel), List.mem_of_getElem? (i := 1467) (by decide +kernel), List.mem_of_getElem? (i := 1468) (by decide +kernel)⟩
theorem lw_p85 : lw_okq (⟨"SetAgainModel", "isSeen", "(III)Z"⟩, 55) := ⟨⟨by decide +kernel, by decide +kernel⟩, List.mem_of_getElem? (i := 1017) (by decide +kernel), List.mem_of_getElem? (i := 1471) (by decide +kernel), List.mem_of_getElem? (i := 1472) (by decide +kernel)⟩
theorem lw_p86 : lw_okq (⟨"SetAgainModel", "isBody", "(I)Z"⟩, 55) := ⟨⟨by decide +kernel, by decide +kernel⟩, List.mem_of_getElem? (i := 1017) (by decide +kernel), List.mem_of_getElem? (i := 1519) (by decide +kernel), List.mem_of_getElem? (i := 1520) (by decide +kernel)⟩
theorem lw_p87 : lw_okq (⟨"SetAgainModel", "setsAs", "(II)I"⟩, 55) := ⟨⟨by decide +kernel, by decide +kernel⟩, List.mem_of_getElem? (i := 1017) (by decide +kernel), List.mem_of_getElem? (i := 1523) (by decide +kernel), List.mem_of_getElem? (i := 1524) (by decide +kernel)⟩
theorem lw_p88 : lw_okq (⟨"SetAgainModel", "begins", "(I)V"⟩, 55) := ⟨⟨by decide +kernel, by decide +kernel⟩, List.mem_of_getElem? (i := 1017) (by decide +kernel), List.mem_of_getElem? (i := 1527) (by decide +kernel), List.mem_of_getElem? (i := 1528) (by decide +kernel)⟩
theorem lw_p89 : lw_okq (⟨"SetAgainModel", "sitsAs", "(II)I"⟩, 55) := ⟨⟨by decide +kernel, by decide +kernel⟩, List.mem_of_getElem? (i := 1017) (by decide +kernel), List.mem_of_getElem? (i := 1531) (by decide +kernel), List.mem_of_getElem? (i := 1532) (by decide +kernel)⟩
theorem lw_p90 : lw_okq (⟨"SetAgainModel", "slipsAs", "(II)I"⟩, 55) := ⟨⟨by decide +kernel, by decide +kernel⟩, List.mem_of_getElem? (i := 1017) (by decide +kernel), List.mem_of_getElem? (i := 1535) (by decide +kernel), List.mem_of_getElem? (i := 1536) (by decide +kernel)⟩
theorem lw_p91 : lw_okq (⟨"SetAgainModel", "tellsAs", "(II)I"⟩, 55) := ⟨⟨by decide +kernel, by decide +kernel⟩, List.mem_of_getElem? (i := 1017) (by decide +kernel), List.mem_of_getElem? (i := 1539) (by decide +kernel), List.mem_of_getElem? (i := 1540) (by decide +kernel)⟩
theorem lw_p92 : lw_okq (⟨"SetAgainModel", "refusal", "(II)I"⟩, 55) := ⟨⟨by decide +kernel, by decide +kernel⟩, List.mem_of_getElem? (i := 1017) (by decide +kernel), List.mem_of_getElem? (i := 1560) (by decide +kernel), List.mem_of_getElem? (i := 1561) (by decide +kernel)⟩
theorem lw_p93 : lw_okq (⟨"SetAgainModel", "kindOf", "(I)I"⟩, 55) := ⟨⟨by decide +kernel, by decide +kernel⟩, List.mem_of_getElem? (i := 1017) (by decide +kernel), List.mem_of_getElem? (i := 1580) (by decide +kernel), List.mem_of_getElem? (i := 1581) (by decide +kernel)⟩
def lw_privs_6 : List (MethodName × Nat) := [(⟨"SetAgainModel", "sitsSet", "(I)I"⟩, 55), (⟨"SetAgainModel", "chairsOn", "(IIII)V"⟩, 55), (⟨"SetAgainModel", "chairLoss", "(II)I"⟩, 55), (⟨"SetAgainModel", "may1", "(I)Z"⟩, 55), (⟨"SetAgainModel", "standsBy", "(III)I"⟩, 55), (⟨"SetAgainModel", "isSeen", "(III)Z"⟩, 55), (⟨"SetAgainModel", "isBody", "(I)Z"⟩, 55), (⟨"SetAgainModel", "setsAs", "(II)I"⟩, 55), (⟨"SetAgainModel", "begins", "(I)V"⟩, 55), (⟨"SetAgainModel", "sitsAs", "(II)I"⟩, 55), (⟨"SetAgainModel", "slipsAs", "(II)I"⟩, 55), (⟨"SetAgainModel", "tellsAs", "(II)I"⟩, 55), (⟨"SetAgainModel", "refusal", "(II)I"⟩, 55), (⟨"SetAgainModel", "kindOf", "(I)I"⟩, 55)]
theorem lw_r6 : ∀ q ∈ lw_privs_6, lw_okq q := List.forall_mem_cons.mpr ⟨lw_p80, List.forall_mem_cons.mpr ⟨lw_p81, List.forall_mem_cons.mpr ⟨lw_p82, List.forall_mem_cons.mpr ⟨lw_p83, List.forall_mem_cons.mpr ⟨lw_p84, List.forall_mem_cons.mpr ⟨lw_p85, List.forall_mem_cons.mpr ⟨lw_p86, List.forall_mem_cons.mpr ⟨lw_p87, List.forall_mem_cons.mpr ⟨lw_p88, List.forall_mem_cons.mpr ⟨lw_p89, List.forall_mem_cons.mpr ⟨lw_p90, List.forall_mem_cons.mpr ⟨lw_p91, List.forall_mem_cons.mpr ⟨lw_p92, List.forall_mem_cons.mpr ⟨lw_p93, fun _ h => absurd h List.not_mem_nil⟩⟩⟩⟩⟩⟩⟩⟩⟩⟩⟩⟩⟩⟩
def lw_privs : List (MethodName × Nat) := lw_privs_1 ++ (lw_privs_2 ++ (lw_privs_3 ++ (lw_privs_4 ++ (lw_privs_5 ++ (lw_privs_6)))))
def lw_tbl : List Cond := k2_sels lw_privs ++ tables_1
theorem lw_privs_ok : ∀ q ∈ lw_privs, lw_okq q := by
  show ∀ q ∈ lw_privs_1 ++ (lw_privs_2 ++ (lw_privs_3 ++ (lw_privs_4 ++ (lw_privs_5 ++ (lw_privs_6))))), lw_okq q
  exact List.forall_mem_append.mpr ⟨lw_r1, List.forall_mem_append.mpr ⟨lw_r2, List.forall_mem_append.mpr ⟨lw_r3, List.forall_mem_append.mpr ⟨lw_r4, List.forall_mem_append.mpr ⟨lw_r5, lw_r6⟩⟩⟩⟩⟩
-- ===== end of PART A; then your names; then what follows =====
end
section
/-! A WORLD AS FUNCTIONS: the cells of a system are numbered 0 .. n-1; cell k lies at h k and holds e k (its ints) (its longs) (its references). The words here are general; each system has its own n, h, e. -/
def sg_up {α : Type} (f : Nat → Nat → α) (k : Nat) (g : Nat → α) : Nat → Nat → α := fun i => bif Nat.beq i k then g else f i
def sgu {α : Type} (g : Nat → α) (j : Nat) (x : α) : Nat → α := fun i => bif Nat.beq i j then x else g i
theorem sg_up_s {α : Type} {f : Nat → Nat → α} {k : Nat} {g : Nat → α} : sg_up f k g k = g := by
  unfold sg_up
  rw [Nat.beq_refl]
  rfl
theorem sg_up_n {α : Type} {f : Nat → Nat → α} {k i : Nat} {g : Nat → α} (h : i ≠ k) : sg_up f k g i = f i := by
  unfold sg_up
  have : Nat.beq i k = false := by
    cases hb : Nat.beq i k
    · rfl
    · exact absurd (Nat.eq_of_beq_eq_true hb) h
  rw [this]
  rfl
theorem sgu_s {α : Type} {g : Nat → α} {j : Nat} {x : α} : sgu g j x j = x := by
  unfold sgu
  rw [Nat.beq_refl]
  rfl
theorem sgu_n {α : Type} {g : Nat → α} {j i : Nat} {x : α} (h : i ≠ j) : sgu g j x i = g i := by
  unfold sgu
  have : Nat.beq i j = false := by
    cases hb : Nat.beq i j
    · rfl
    · exact absurd (Nat.eq_of_beq_eq_true hb) h
  rw [this]
  rfl
theorem sgu_upd (g : Nat → Int32) (j : Nat) (x : Int32) : upd g j x = sgu g j x := by
  funext i
  by_cases h : i = j
  · subst h; rw [sgu_s]; exact if_pos rfl
  · rw [sgu_n h]; exact if_neg h
theorem sgu_updL (g : Nat → Int64) (j : Nat) (x : Int64) : vp_updL g j x = sgu g j x := by
  funext i
  by_cases h : i = j
  · subst h; rw [sgu_s]; exact if_pos rfl
  · rw [sgu_n h]; exact if_neg h
theorem sg_up_id {α : Type} (f : Nat → Nat → α) (k : Nat) : sg_up f k (f k) = f := by
  funext i
  by_cases h : i = k
  · subst h; exact sg_up_s
  · exact sg_up_n h
abbrev sg_F : Type := Nat → Nat → Int32
abbrev sg_L : Type := Nat → Nat → Int64
abbrev sg_Q : Type := Nat → Nat → Option Nat
abbrev sg_E : Type := Nat → (Nat → Int32) → (Nat → Int64) → (Nat → Option Nat) → va_E
def sgw (n : Nat) (h : Nat → Nat) (e : sg_E) (f : sg_F) (L : sg_L) (Q : sg_Q) : va_W := (List.range n).map (fun k => (h k, e k (f k) (L k) (Q k)))
theorem sgw_at {n : Nat} {h : Nat → Nat} {e : sg_E} {f : sg_F} {L : sg_L} {Q : sg_Q} {k : Nat} (hk : k < n) : (sgw n h e f L Q)[k]? = some (h k, e k (f k) (L k) (Q k)) := by
  unfold sgw
  rw [List.getElem?_map, List.getElem?_range hk]
  rfl
theorem sgw_len {n : Nat} {h : Nat → Nat} {e : sg_E} {f : sg_F} {L : sg_L} {Q : sg_Q} : (sgw n h e f L Q).length = n := by simp [sgw]
theorem sgw_inv {n : Nat} {h : Nat → Nat} {e : sg_E} {f : sg_F} {L : sg_L} {Q : sg_Q} {k : Nat} {q : Nat × va_E} (hq : (sgw n h e f L Q)[k]? = some q) : k < n ∧ q = (h k, e k (f k) (L k) (Q k)) := by
  have hk : k < n := by
    have := (List.getElem?_eq_some_iff.mp hq).1
    rwa [sgw_len] at this
  rw [sgw_at hk] at hq
  exact ⟨hk, (Option.some.inj hq).symm⟩
theorem sgw_set {n : Nat} {h : Nat → Nat} {e : sg_E} {f : sg_F} {L : sg_L} {Q : sg_Q} {k : Nat} (hk : k < n) (g : Nat → Int32) (l : Nat → Int64) (r : Nat → Option Nat) : (sgw n h e f L Q).set k (h k, e k g l r) = sgw n h e (sg_up f k g) (sg_up L k l) (sg_up Q k r) := by
  apply List.ext_getElem?
  intro i
  by_cases hi : i < n
  · rw [sgw_at hi]
    by_cases hik : i = k
    · subst hik
      rw [List.getElem?_set_self (by rw [sgw_len]; exact hi), sg_up_s, sg_up_s, sg_up_s]
    · rw [List.getElem?_set_ne (Ne.symm hik), sgw_at hi, sg_up_n hik, sg_up_n hik, sg_up_n hik]
  · rw [List.getElem?_eq_none (by rw [List.length_set, sgw_len]; omega), List.getElem?_eq_none (by rw [sgw_len]; omega)]
/-- the cells of a system, and those that came since -/
def sgA (n : Nat) (h : Nat → Nat) (sz : Nat) : Nat → Prop := fun q => (∃ k : Nat, k < n ∧ q = h k) ∨ sz ≤ q
theorem sgA_mono {n : Nat} {h : Nat → Nat} {a b q : Nat} (hab : a ≤ b) (hq : sgA n h b q) : sgA n h a q := by
  rcases hq with hq | hq
  · exact Or.inl hq
  · exact Or.inr (Nat.le_trans hab hq)
/-- the cells lie apart -/
def sgH (n : Nat) (h : Nat → Nat) : Prop := ∀ i j : Nat, i < n → j < n → h i = h j → i = j
/-- what a walk may write: the cells of the system, and all that came since -/
def sgY (A : Nat → Prop) (n : Nat) (h : Nat → Nat) (sz : Nat) : Prop := (∀ k : Nat, k < n → A (h k)) ∧ ∀ q : Nat, sz ≤ q → A q
theorem sgY.self {n : Nat} {h : Nat → Nat} {sz : Nat} : sgY (sgA n h sz) n h sz := ⟨fun k hk => Or.inl ⟨k, hk, rfl⟩, fun _ hq => Or.inr hq⟩
theorem sgY.sub {A : Nat → Prop} {n : Nat} {h : Nat → Nat} {a b : Nat} (hA : sgY A n h a) (hab : a ≤ b) {q : Nat} (hq : sgA n h b q) : A q := by
  rcases hq with ⟨k, hk, rfl⟩ | hq
  · exact hA.1 k hk
  · exact hA.2 q (Nat.le_trans hab hq)
theorem sgD {A : Nat → Prop} {n : Nat} {h : Nat → Nat} {e : sg_E} {f : sg_F} {L : sg_L} {Q : sg_Q} {sz : Nat} (hh : sgH n h) (hA : sgY A n h sz) : va_D A (sgw n h e f L Q) := by
  refine ⟨fun i j p q hp hq hpq => ?_, fun k q hq => ?_⟩
  · obtain ⟨hi, rfl⟩ := sgw_inv hp
    obtain ⟨hj, rfl⟩ := sgw_inv hq
    exact hh i j hi hj hpq
  · obtain ⟨hk, rfl⟩ := sgw_inv hq
    exact hA.1 k hk
/-- bounds of all ints -/
def sgI (lo hi : Nat → Nat → Int) (f : sg_F) : Prop := ∀ k j : Nat, lo k j ≤ (f k j).toInt ∧ (f k j).toInt ≤ hi k j
theorem sgI.row {lo hi : Nat → Nat → Int} {f : sg_F} (hI : sgI lo hi f) (k : Nat) {g : Nat → Int32} (hg : ∀ j : Nat, lo k j ≤ (g j).toInt ∧ (g j).toInt ≤ hi k j) : sgI lo hi (sg_up f k g) := by
  intro i j
  by_cases h : i = k
  · subst h; rw [sg_up_s]; exact hg j
  · rw [sg_up_n h]; exact hI i j
theorem sgI.put {lo hi : Nat → Nat → Int} {f : sg_F} (hI : sgI lo hi f) (k j : Nat) {x : Int32} (hx : lo k j ≤ x.toInt ∧ x.toInt ≤ hi k j) : sgI lo hi (sg_up f k (sgu (f k) j x)) := by
  refine hI.row k (fun i => ?_)
  by_cases h : i = j
  · subst h; rw [sgu_s]; exact hx
  · rw [sgu_n h]; exact hI k i
theorem sgI.cpy {lo hi : Nat → Nat → Int} {f : sg_F} (hI : sgI lo hi f) (a b : Nat) {sp dp n : Nat} (hx : ∀ j i : Nat, lo b j ≤ lo a i ∧ hi a i ≤ hi b j) : sgI lo hi (sg_up f b (va_cpy (f a) (f b) sp dp n)) := by
  refine hI.row b (fun i => ?_)
  unfold va_cpy
  split
  · exact ⟨Int.le_trans (hx i _).1 (hI a _).1, Int.le_trans (hI a _).2 (hx i _).2⟩
  · exact hI b i
/-- static arrays: a static field (class, name, descriptor) holds an array of ints that is none of the system's -/
abbrev sg_S : Type := String × String × String × Nat × (Nat → Int32)
def sgZ (zc : List sg_S) (za : Nat → Nat) (A : Nat → Prop) (sz : Nat) (U : State) : Prop := ∀ (i : Nat) (q : sg_S), zc[i]? = some q → va_Z q.1 q.2.1 q.2.2.1 (.ref (za i)) A U U.heap ∧ va_T .int (za i) q.2.2.2.1 (fun j => .int (q.2.2.2.2 j)) A U U.heap ∧ za i < sz ∧ ¬ A (za i)
theorem sgZ.go {zc : List sg_S} {za : Nat → Nat} {A A1 : Nat → Prop} {s U : State} {H : Heap} {locs : List Loc} (hZ : sgZ zc za A s.heap.size s) (hS : va_S A s.heap H locs) (hU : U.heap = H) (hvm : s.vm.Alike U.vm) (hAA : ∀ q, A1 q → A q) : sgZ zc za A1 H.size U := by
  intro i q hq
  obtain ⟨h1, h2, h3, h4⟩ := hZ i q hq
  refine ⟨?_, ?_, Nat.lt_of_lt_of_le h3 hS.1, fun z => h4 (hAA _ z)⟩
  · rw [hU]
    exact ((va_Z.moved hvm h1).kept (fun a g1 g2 => hS.2.1 a g1 g2)).narrow hAA
  · rw [hU]
    exact ((va_T.moved hvm h2).kept (fun a g1 g2 => hS.2.1 a g1 g2)).narrow hAA
/-- a contract's start -/
def sgP (D : va_G) (cl : List vw_C) (tys : List (ClassId × FieldType)) (n : Nat) (h : Nat → Nat) (e : sg_E) (zc : List sg_S) (za : Nat → Nat) (f : sg_F) (L : sg_L) (Q : sg_Q) (sz : Nat) (av : List Value) : Array Value → State → Prop := va_Pc av (fun U => U.heap.size = sz ∧ va_P D cl (sgw n h e f L Q) U.heap ∧ va_K D cl tys U ∧ sgZ zc za (sgA n h sz) sz U)
theorem sgP_blind {D : va_G} {cl : List vw_C} {tys : List (ClassId × FieldType)} {n : Nat} {h : Nat → Nat} {e : sg_E} {zc : List sg_S} {za : Nat → Nat} {f : sg_F} {L : sg_L} {Q : sg_Q} {sz : Nat} {av : List Value} : FrameBlind (sgP D cl tys n h e zc za f L Q sz av) := by
  intro a U g mk q
  obtain ⟨q0, q1, qP, qK, qZ⟩ := q
  refine ⟨q0, q1, qP, va_K.moved (u := U) (U := U.calling g mk a) (Vm.Alike.refl U.vm) qK, fun i z hz => ?_⟩
  obtain ⟨h1, h2, h3, h4⟩ := qZ i z hz
  exact ⟨va_Z.moved (u := U) (U := U.calling g mk a) (Vm.Alike.refl U.vm) h1, va_T.moved (u := U) (U := U.calling g mk a) (Vm.Alike.refl U.vm) h2, h3, h4⟩
/-- a contract's end, by what it answers -/
abbrev sg_U : Type := sg_F × sg_L × sg_Q
def sgQi (D : va_G) (cl : List vw_C) (n : Nat) (h : Nat → Nat) (e : sg_E) (sz : Nat) (post : Int32 → sg_F → sg_L → sg_Q → Prop) : Array Value → State → Outcome → State → Prop := va_Qi (S := sg_U) (fun r u => post r u.1 u.2.1 u.2.2) (fun u t => va_P D cl (sgw n h e u.1 u.2.1 u.2.2) t.heap) (sgA n h sz)
def sgQl (D : va_G) (cl : List vw_C) (n : Nat) (h : Nat → Nat) (e : sg_E) (sz : Nat) (post : Int64 → sg_F → sg_L → sg_Q → Prop) : Array Value → State → Outcome → State → Prop := va_Ql (S := sg_U) (fun r u => post r u.1 u.2.1 u.2.2) (fun u t => va_P D cl (sgw n h e u.1 u.2.1 u.2.2) t.heap) (sgA n h sz)
def sgQv (D : va_G) (cl : List vw_C) (n : Nat) (h : Nat → Nat) (e : sg_E) (sz : Nat) (post : sg_F → sg_L → sg_Q → Prop) : Array Value → State → Outcome → State → Prop := va_Qv (S := sg_U) (fun u => post u.1 u.2.1 u.2.2) (fun u t => va_P D cl (sgw n h e u.1 u.2.1 u.2.2) t.heap) (sgA n h sz)
end
section
section SGR
variable {p : Program} {l : Launch} {e : Env} {R : Room} {s : State} {m : MethodId} {args : Array Value} {below : List Frame} {meth : Method} {c : Code} {H : Heap} {locs : List Loc} {cells slots : Nat} {Qz : State → Prop}
variable {cc : ByteArray} {pc : Nat} {ls : Array Slot} {rest : List Value} {D : va_G} {cl : List vw_C} {tys : List (ClassId × FieldType)} {n : Nat} {h : Nat → Nat} {ee : sg_E} {f : sg_F} {L : sg_L} {Q : sg_Q} {sz : Nat} {zc : List sg_S} {za : Nat → Nat} {A : Nat → Prop}
theorem sg_get (hx : p.tables.exec = Jvm.exec) (hb : c.code = cc) {own ref C : String} {T : u_T} {N ci index : Nat} {Ts : List Cond} (hts : ∀ w ∈ Ts, w.before args s = true) (hin : ∀ w ∈ u_ws C T N, w ∈ Ts) (hown : s.vm.findClass own = some m.cls) (hK : va_K D cl tys s) (hP : va_P D cl (sgw n h ee f L Q) H) (k : Nat) (hk : k < n) {fs : List Value} (he : ee k (f k) (L k) (Q k) = .inr (ci, fs)) (hc : cl[ci]? = some (C, T, N)) (j : Nat) (hj : j < N) (hlink : (Cond.fieldLink own index ref (T j).2.1 (T j).2.2.1).before args s = true) (hsame : ∀ x, s.fieldFound? (T j).1 (T j).2.1 (T j).2.2.1 = some x → s.fieldFound? ref (T j).2.1 (T j).2.2.1 = some x) {v : Value} (hv : fs[j]? = some v) (hdg : decode cc pc = .ok (.getfield index, 3))
    (kk : W p l e R s m args below meth c H locs cells slots Qz (F0 m (pc + 3) ls (v :: rest))) : W p l e R s m args below meth c H locs cells slots Qz (F0 m pc ls (.ref (h k) :: rest)) :=
  va_get hx hb hts hin hown hK hP k (by rw [sgw_at hk, he]) hc j hj hlink hsame hv hdg kk
theorem sg_put (hx : p.tables.exec = Jvm.exec) (hb : c.code = cc) {own ref C : String} {T : u_T} {N ci index : Nat} {Ts : List Cond} (hts : ∀ w ∈ Ts, w.before args s = true) (hin : ∀ w ∈ u_ws C T N, w ∈ Ts) (ty0 : Nat → FieldType) (hty : ∀ k, k < N → parseFieldDescriptor (T k).2.2.1 = some (ty0 k)) (hnm : ∀ a, a < N → ∀ b, b < N → a ≠ b → (T a).2.1 ≠ (T b).2.1) (hown : s.vm.findClass own = some m.cls) (hh : sgH n h) (hA : sgY A n h s.heap.size) (hK : va_K D cl tys s) (hP : va_P D cl (sgw n h ee f L Q) H) (hS : va_S A s.heap H locs) (k : Nat) (hk : k < n) {fs : List Value} (he : ee k (f k) (L k) (Q k) = .inr (ci, fs)) (hc : cl[ci]? = some (C, T, N)) (j : Nat) (hj : j < N) (hlink : (Cond.fieldLink own index ref (T j).2.1 (T j).2.2.1).before args s = true) (hsame : ∀ x, s.fieldFound? (T j).1 (T j).2.1 (T j).2.2.1 = some x → s.fieldFound? ref (T j).2.1 (T j).2.2.1 = some x) (hfin : (T j).2.2.2 = false) {ty : FieldType} {x : Int32} (he2 : ee k (sgu (f k) j x) (L k) (Q k) = .inr (ci, fs.set j (.int x))) (hd : parseFieldDescriptor (T j).2.2.1 = some ty) (hn : narrow ty (.int x) = .int x) (hfit : fits ty (.int x) = true) (hl : j < fs.length)
    (hdg : decode cc pc = .ok (.putfield index, 3)) (kk : ∀ (f1 : sg_F) (H1 : Heap) (locs1 : List Loc), f1 = sg_up f k (sgu (f k) j x) → va_P D cl (sgw n h ee f1 L Q) H1 → va_S A s.heap H1 locs1 → W p l e R s m args below meth c H1 locs1 cells slots Qz (F0 m (pc + 3) ls rest)) : W p l e R s m args below meth c H locs cells slots Qz (F0 m pc ls (.int x :: .ref (h k) :: rest)) :=
  va_put hx hb hts hin ty0 hty hnm hown hK hP (sgD hh hA) hS k (by rw [sgw_at hk, he]) hc j hj hlink hsame hfin hd hn hfit hl hdg (fun H1 locs1 hP1 _ hS1 => kk _ H1 locs1 rfl (by
    rw [← he2, sgw_set hk, sg_up_id, sg_up_id] at hP1
    exact hP1) hS1)
/-- a field that holds a reference is set: what the cell holds is said by he2 -/
theorem sg_putq (hx : p.tables.exec = Jvm.exec) (hb : c.code = cc) {own ref C : String} {T : u_T} {N ci index : Nat} {Ts : List Cond} (hts : ∀ w ∈ Ts, w.before args s = true) (hin : ∀ w ∈ u_ws C T N, w ∈ Ts) (ty0 : Nat → FieldType) (hty : ∀ k, k < N → parseFieldDescriptor (T k).2.2.1 = some (ty0 k)) (hnm : ∀ a, a < N → ∀ b, b < N → a ≠ b → (T a).2.1 ≠ (T b).2.1) (hown : s.vm.findClass own = some m.cls) (hh : sgH n h) (hA : sgY A n h s.heap.size) (hK : va_K D cl tys s) (hP : va_P D cl (sgw n h ee f L Q) H) (hS : va_S A s.heap H locs) (k : Nat) (hk : k < n) {fs : List Value} (he : ee k (f k) (L k) (Q k) = .inr (ci, fs)) (hc : cl[ci]? = some (C, T, N)) (j : Nat) (hj : j < N) (hlink : (Cond.fieldLink own index ref (T j).2.1 (T j).2.2.1).before args s = true) (hsame : ∀ x, s.fieldFound? (T j).1 (T j).2.1 (T j).2.2.1 = some x → s.fieldFound? ref (T j).2.1 (T j).2.2.1 = some x) (hfin : (T j).2.2.2 = false) {ty : FieldType} {q : Nat} {r1 : Nat → Option Nat} (he2 : ee k (f k) (L k) r1 = .inr (ci, fs.set j (.ref q))) (hd : parseFieldDescriptor (T j).2.2.1 = some ty) (hn : narrow ty (.ref q) = .ref q) (hfit : fits ty (.ref q) = true) (hl : j < fs.length)
    (hdg : decode cc pc = .ok (.putfield index, 3)) (kk : ∀ (Q1 : sg_Q) (H1 : Heap) (locs1 : List Loc), Q1 = sg_up Q k r1 → va_P D cl (sgw n h ee f L Q1) H1 → va_S A s.heap H1 locs1 → W p l e R s m args below meth c H1 locs1 cells slots Qz (F0 m (pc + 3) ls rest)) : W p l e R s m args below meth c H locs cells slots Qz (F0 m pc ls (.ref q :: .ref (h k) :: rest)) :=
  va_put hx hb hts hin ty0 hty hnm hown hK hP (sgD hh hA) hS k (by rw [sgw_at hk, he]) hc j hj hlink hsame hfin hd hn hfit hl hdg (fun H1 locs1 hP1 _ hS1 => kk _ H1 locs1 rfl (by
    rw [← he2, sgw_set hk, sg_up_id, sg_up_id] at hP1
    exact hP1) hS1)
theorem sg_iald (hx : p.tables.exec = Jvm.exec) (hb : c.code = cc) (hK : va_K D cl tys s) (hP : va_P D cl (sgw n h ee f L Q) H) (k : Nat) (hk : k < n) (t0 : Nat) {cA : ClassId} {N : Nat} {g : Nat → Int32} (he : ee k (f k) (L k) (Q k) = .inl (cA, N, .inl g)) (ht : tys[t0]? = some (cA, .int)) {i : Int32} (hin : vp_in i N) (hdg : decode cc pc = .ok (.iaload, 1))
    (kk : W p l e R s m args below meth c H locs cells slots Qz (F0 m (pc + 1) ls (.int (g i.toNatClampNeg) :: rest))) : W p l e R s m args below meth c H locs cells slots Qz (F0 m pc ls (.int i :: .ref (h k) :: rest)) :=
  va_iald hx hb hK hP k t0 (by rw [sgw_at hk, he]) ht hin hdg kk
theorem sg_zald (hx : p.tables.exec = Jvm.exec) (hb : c.code = cc) (hK : va_K D cl tys s) (hP : va_P D cl (sgw n h ee f L Q) H) (k : Nat) (hk : k < n) (t0 : Nat) {cA : ClassId} {N : Nat} {g : Nat → Int32} (he : ee k (f k) (L k) (Q k) = .inl (cA, N, .inl g)) (ht : tys[t0]? = some (cA, .boolean)) {i : Int32} (hin : vp_in i N) (hdg : decode cc pc = .ok (.baload, 1))
    (kk : W p l e R s m args below meth c H locs cells slots Qz (F0 m (pc + 1) ls (.int (g i.toNatClampNeg) :: rest))) : W p l e R s m args below meth c H locs cells slots Qz (F0 m pc ls (.int i :: .ref (h k) :: rest)) :=
  va_zald hx hb hK hP k t0 (by rw [sgw_at hk, he]) ht hin hdg kk
theorem sg_lald (hx : p.tables.exec = Jvm.exec) (hb : c.code = cc) (hK : va_K D cl tys s) (hP : va_P D cl (sgw n h ee f L Q) H) (k : Nat) (hk : k < n) (t0 : Nat) {cA : ClassId} {N : Nat} {g : Nat → Int64} (he : ee k (f k) (L k) (Q k) = .inl (cA, N, .inr (.inl g))) (ht : tys[t0]? = some (cA, .long)) {i : Int32} (hin : vp_in i N) (hdg : decode cc pc = .ok (.laload, 1))
    (kk : W p l e R s m args below meth c H locs cells slots Qz (F0 m (pc + 1) ls (.long (g i.toNatClampNeg) :: rest))) : W p l e R s m args below meth c H locs cells slots Qz (F0 m pc ls (.int i :: .ref (h k) :: rest)) :=
  va_lald hx hb hK hP k t0 (by rw [sgw_at hk, he]) ht hin hdg kk
theorem sg_aald (hx : p.tables.exec = Jvm.exec) (hb : c.code = cc) (hK : va_K D cl tys s) (hP : va_P D cl (sgw n h ee f L Q) H) (k : Nat) (hk : k < n) (t0 : Nat) {cA : ClassId} {C : String} {N : Nat} {g : Nat → Option Nat} (he : ee k (f k) (L k) (Q k) = .inl (cA, N, .inr (.inr (.inr (.inr g))))) (ht : tys[t0]? = some (cA, .object C)) {i : Int32} (hin : vp_in i N) {a : Nat} (ha : g i.toNatClampNeg = some a) (hdg : decode cc pc = .ok (.aaload, 1))
    (kk : W p l e R s m args below meth c H locs cells slots Qz (F0 m (pc + 1) ls (.ref a :: rest))) : W p l e R s m args below meth c H locs cells slots Qz (F0 m pc ls (.int i :: .ref (h k) :: rest)) :=
  va_aldq hx hb hK hP k t0 (by rw [sgw_at hk, he]) ht hin hdg (by rw [ha]; exact kk)
theorem sg_iast (hx : p.tables.exec = Jvm.exec) (hb : c.code = cc) (hh : sgH n h) (hA : sgY A n h s.heap.size) (hK : va_K D cl tys s) (hP : va_P D cl (sgw n h ee f L Q) H) (hS : va_S A s.heap H locs) (k : Nat) (hk : k < n) (t0 : Nat) {cA : ClassId} {N : Nat} (he : ∀ g : Nat → Int32, ee k g (L k) (Q k) = .inl (cA, N, .inl g)) (ht : tys[t0]? = some (cA, .int)) {i : Int32} {x : Int32} (hin : vp_in i N) (hdg : decode cc pc = .ok (.iastore, 1))
    (kk : ∀ (f1 : sg_F) (H1 : Heap) (locs1 : List Loc), f1 = sg_up f k (sgu (f k) i.toNatClampNeg x) → va_P D cl (sgw n h ee f1 L Q) H1 → va_S A s.heap H1 locs1 → W p l e R s m args below meth c H1 locs1 cells slots Qz (F0 m (pc + 1) ls rest)) : W p l e R s m args below meth c H locs cells slots Qz (F0 m pc ls (.int x :: .int i :: .ref (h k) :: rest)) :=
  va_iast hx hb hK hP (sgD hh hA) hS k t0 (by rw [sgw_at hk, he]) ht hin hdg (fun H1 locs1 hP1 _ hS1 => kk _ H1 locs1 rfl (by
    rw [sgu_upd, ← he (sgu (f k) i.toNatClampNeg x), sgw_set hk, sg_up_id, sg_up_id] at hP1
    exact hP1) hS1)
theorem sg_zast (hx : p.tables.exec = Jvm.exec) (hb : c.code = cc) (hh : sgH n h) (hA : sgY A n h s.heap.size) (hK : va_K D cl tys s) (hP : va_P D cl (sgw n h ee f L Q) H) (hS : va_S A s.heap H locs) (k : Nat) (hk : k < n) (t0 : Nat) {cA : ClassId} {N : Nat} (he : ∀ g : Nat → Int32, ee k g (L k) (Q k) = .inl (cA, N, .inl g)) (ht : tys[t0]? = some (cA, .boolean)) {i : Int32} {x : Int32} (hin : vp_in i N) (hx1 : vp_nar .boolean x = x) (hdg : decode cc pc = .ok (.bastore, 1))
    (kk : ∀ (f1 : sg_F) (H1 : Heap) (locs1 : List Loc), f1 = sg_up f k (sgu (f k) i.toNatClampNeg x) → va_P D cl (sgw n h ee f1 L Q) H1 → va_S A s.heap H1 locs1 → W p l e R s m args below meth c H1 locs1 cells slots Qz (F0 m (pc + 1) ls rest)) : W p l e R s m args below meth c H locs cells slots Qz (F0 m pc ls (.int x :: .int i :: .ref (h k) :: rest)) :=
  va_zast hx hb hK hP (sgD hh hA) hS k t0 (by rw [sgw_at hk, he]) ht hin hdg (fun H1 locs1 hP1 _ hS1 => kk _ H1 locs1 rfl (by
    rw [hx1, sgu_upd, ← he (sgu (f k) i.toNatClampNeg x), sgw_set hk, sg_up_id, sg_up_id] at hP1
    exact hP1) hS1)
theorem sg_last (hx : p.tables.exec = Jvm.exec) (hb : c.code = cc) (hh : sgH n h) (hA : sgY A n h s.heap.size) (hK : va_K D cl tys s) (hP : va_P D cl (sgw n h ee f L Q) H) (hS : va_S A s.heap H locs) (k : Nat) (hk : k < n) (t0 : Nat) {cA : ClassId} {N : Nat} (he : ∀ g : Nat → Int64, ee k (f k) g (Q k) = .inl (cA, N, .inr (.inl g))) (ht : tys[t0]? = some (cA, .long)) {i : Int32} {x : Int64} (hin : vp_in i N) (hdg : decode cc pc = .ok (.lastore, 1))
    (kk : ∀ (L1 : sg_L) (H1 : Heap) (locs1 : List Loc), L1 = sg_up L k (sgu (L k) i.toNatClampNeg x) → va_P D cl (sgw n h ee f L1 Q) H1 → va_S A s.heap H1 locs1 → W p l e R s m args below meth c H1 locs1 cells slots Qz (F0 m (pc + 1) ls rest)) : W p l e R s m args below meth c H locs cells slots Qz (F0 m pc ls (.long x :: .int i :: .ref (h k) :: rest)) :=
  va_last hx hb hK hP (sgD hh hA) hS k t0 (by rw [sgw_at hk, he]) ht hin hdg (fun H1 locs1 hP1 _ hS1 => kk _ H1 locs1 rfl (by
    rw [sgu_updL, ← he (sgu (L k) i.toNatClampNeg x), sgw_set hk, sg_up_id, sg_up_id] at hP1
    exact hP1) hS1)
theorem sg_alen (hx : p.tables.exec = Jvm.exec) (hb : c.code = cc) (hK : va_K D cl tys s) (hP : va_P D cl (sgw n h ee f L Q) H) (k : Nat) (hk : k < n) (t0 : Nat) {cA : ClassId} {y : vp_A} (he : ee k (f k) (L k) (Q k) = .inl (cA, y)) {ty : FieldType} (ht : tys[t0]? = some (cA, ty)) {v : Int32} (hv : Int32.ofNat y.1 = v) (hdg : decode cc pc = .ok (.arraylength, 1))
    (kk : W p l e R s m args below meth c H locs cells slots Qz (F0 m (pc + 1) ls (.int v :: rest))) : W p l e R s m args below meth c H locs cells slots Qz (F0 m pc ls (.ref (h k) :: rest)) :=
  va_alen hx hb hK hP k t0 (by rw [sgw_at hk, he]) ht hv hdg kk
/-- a static array -/
theorem sg_gets (hx : p.tables.exec = Jvm.exec) (hb : c.code = cc) (hZ : sgZ zc za A s.heap.size s) (i : Nat) {C nm d own ref : String} {N index : Nat} {g : Nat → Int32} (hz : zc[i]? = some (C, nm, d, N, g)) (hS : va_S A s.heap H locs) (hown : s.vm.findClass own = some m.cls) (hlink : (Cond.fieldLink own index ref nm d).before args s = true) (hsame : ∀ x, s.fieldFound? C nm d = some x → s.fieldFound? ref nm d = some x) (hdg : decode cc pc = .ok (.getstatic index, 3))
    (kk : W p l e R s m args below meth c H locs cells slots Qz (F0 m (pc + 3) ls (.ref (za i) :: rest))) : W p l e R s m args below meth c H locs cells slots Qz (F0 m pc ls rest) :=
  va_gets hx hb (hZ i _ hz).1 hS hown hlink hsame hdg kk
theorem sg_sald (hx : p.tables.exec = Jvm.exec) (hb : c.code = cc) (hZ : sgZ zc za A s.heap.size s) (i : Nat) {C nm d : String} {N : Nat} {g : Nat → Int32} (hz : zc[i]? = some (C, nm, d, N, g)) (hS : va_S A s.heap H locs) {y : Int32} (hin : vp_in y N) (hdg : decode cc pc = .ok (.iaload, 1))
    (kk : W p l e R s m args below meth c H locs cells slots Qz (F0 m (pc + 1) ls (.int (g y.toNatClampNeg) :: rest))) : W p l e R s m args below meth c H locs cells slots Qz (F0 m pc ls (.int y :: .ref (za i) :: rest)) :=
  va_ti hx hb (hZ i _ hz).2.1 hS hin (v := .int (g y.toNatClampNeg)) rfl hdg kk
theorem sg_slen (hx : p.tables.exec = Jvm.exec) (hb : c.code = cc) (hZ : sgZ zc za A s.heap.size s) (i : Nat) {C nm d : String} {N : Nat} {g : Nat → Int32} (hz : zc[i]? = some (C, nm, d, N, g)) (hS : va_S A s.heap H locs) {v : Int32} (hv : Int32.ofNat N = v) (hdg : decode cc pc = .ok (.arraylength, 1))
    (kk : W p l e R s m args below meth c H locs cells slots Qz (F0 m (pc + 1) ls (.int v :: rest))) : W p l e R s m args below meth c H locs cells slots Qz (F0 m pc ls (.ref (za i) :: rest)) :=
  va_tlen hx hb (hZ i _ hz).2.1 hS hv hdg kk
/-- calls: the whole world goes in, the whole world comes back -/
theorem sg_calli {st0 : List Value} {a : Array Value} {mc ms : Nat} {post : Int32 → sg_F → sg_L → sg_Q → Prop} (hr : va_Run p l e R s m args below meth c H locs cells slots mc ms (F0 m pc ls st0) rest (sgQi D cl n h ee H.size post a) (sgA n h H.size)) (hA : sgY A n h s.heap.size) (hS : va_S A s.heap H locs)
    (kk : ∀ (r : Int32) (f1 : sg_F) (L1 : sg_L) (Q1 : sg_Q) (H1 : Heap) (locs1 : List Loc), post r f1 L1 Q1 → va_P D cl (sgw n h ee f1 L1 Q1) H1 → va_S A s.heap H1 locs1 → W p l e R s m args below meth c H1 locs1 (cells + mc) (slots + ms) Qz (F0 m (pc + 3) ls (.int r :: rest))) : W p l e R s m args below meth c H locs cells slots Qz (F0 m pc ls st0) :=
  va_calli hr hS (fun q _ hq => hA.sub hS.1 hq) (fun q hq => hA.sub hS.1 hq) (fun r u t H1 locs1 ht _ hw hB _ _ hS1 => kk r u.1 u.2.1 u.2.2 H1 locs1 hw (by rw [← ht]; exact hB) hS1)
theorem sg_calll {st0 : List Value} {a : Array Value} {mc ms : Nat} {post : Int64 → sg_F → sg_L → sg_Q → Prop} (hr : va_Run p l e R s m args below meth c H locs cells slots mc ms (F0 m pc ls st0) rest (sgQl D cl n h ee H.size post a) (sgA n h H.size)) (hA : sgY A n h s.heap.size) (hS : va_S A s.heap H locs)
    (kk : ∀ (r : Int64) (f1 : sg_F) (L1 : sg_L) (Q1 : sg_Q) (H1 : Heap) (locs1 : List Loc), post r f1 L1 Q1 → va_P D cl (sgw n h ee f1 L1 Q1) H1 → va_S A s.heap H1 locs1 → W p l e R s m args below meth c H1 locs1 (cells + mc) (slots + ms) Qz (F0 m (pc + 3) ls (.long r :: rest))) : W p l e R s m args below meth c H locs cells slots Qz (F0 m pc ls st0) :=
  va_calll hr hS (fun q _ hq => hA.sub hS.1 hq) (fun q hq => hA.sub hS.1 hq) (fun r u t H1 locs1 ht _ hw hB _ _ hS1 => kk r u.1 u.2.1 u.2.2 H1 locs1 hw (by rw [← ht]; exact hB) hS1)
theorem sg_callv {st0 : List Value} {a : Array Value} {mc ms : Nat} {post : sg_F → sg_L → sg_Q → Prop} (hr : va_Run p l e R s m args below meth c H locs cells slots mc ms (F0 m pc ls st0) rest (sgQv D cl n h ee H.size post a) (sgA n h H.size)) (hA : sgY A n h s.heap.size) (hS : va_S A s.heap H locs)
    (kk : ∀ (f1 : sg_F) (L1 : sg_L) (Q1 : sg_Q) (H1 : Heap) (locs1 : List Loc), post f1 L1 Q1 → va_P D cl (sgw n h ee f1 L1 Q1) H1 → va_S A s.heap H1 locs1 → W p l e R s m args below meth c H1 locs1 (cells + mc) (slots + ms) Qz (F0 m (pc + 3) ls rest)) : W p l e R s m args below meth c H locs cells slots Qz (F0 m pc ls st0) :=
  va_callv hr hS (fun q _ hq => hA.sub hS.1 hq) (fun q hq => hA.sub hS.1 hq) (fun u t H1 locs1 ht _ hw hB _ _ hS1 => kk u.1 u.2.1 u.2.2 H1 locs1 hw (by rw [← ht]; exact hB) hS1)
theorem sg_copyi (hx : p.tables.exec = Jvm.exec) (hb : c.code = cc) (hml : c.maxLocals = ls.size) {own : String} {index : Nat} (hown : s.vm.findClass own = some m.cls) (hlink : (Cond.methodLink own index arraycopyName).before args s = true) (hnat : (Cond.native arraycopyName).before args s = true) (hstat : (Cond.static arraycopyName).before args s = true) (hini : (Cond.initialized "java/lang/System").before args s = true)
    (hh : sgH n h) (hA : sgY A n h s.heap.size) (hK : va_K D cl tys s) (hP : va_P D cl (sgw n h ee f L Q) H) (hS : va_S A s.heap H locs) (k0 k1 : Nat) (hk0 : k0 < n) (hk1 : k1 < n) (t0 t1 : Nat) {c0 c1 : ClassId} {n0 n1 : Nat} (he0 : ee k0 (f k0) (L k0) (Q k0) = .inl (c0, n0, .inl (f k0))) (he1 : ∀ g : Nat → Int32, ee k1 g (L k1) (Q k1) = .inl (c1, n1, .inl g)) (ht0 : tys[t0]? = some (c0, .int)) (ht1 : tys[t1]? = some (c1, .int))
    {sp dp nn : Int32} (h1 : ¬ sp < 0) (h2 : ¬ dp < 0) (h3 : ¬ nn < 0) (h4 : sp.toNatClampNeg + nn.toNatClampNeg ≤ n0) (h5 : dp.toNatClampNeg + nn.toNatClampNeg ≤ n1)
    (hframes : 1 ≤ R.frames) (hlocals : (rest.map fun v => v.category).sum + (nativeFrameWords "java/lang/System" "arraycopy" 5 + 11) ≤ R.locals) (hdg : decode cc pc = .ok (.invokestatic index, 3))
    (kk : ∀ (f1 : sg_F) (H1 : Heap) (locs1 : List Loc), f1 = sg_up f k1 (va_cpy (f k0) (f k1) sp.toNatClampNeg dp.toNatClampNeg nn.toNatClampNeg) → va_P D cl (sgw n h ee f1 L Q) H1 → va_S A s.heap H1 locs1 → W p l e R s m args below meth c H1 locs1 cells slots Qz (F0 m (pc + 3) ls rest)) : W p l e R s m args below meth c H locs cells slots Qz (F0 m pc ls (.int nn :: .int dp :: .ref (h k1) :: .int sp :: .ref (h k0) :: rest)) :=
  va_copyi hx hb hml hown hlink hnat hstat hini hK hP (sgD hh hA) hS k0 k1 t0 t1 (by rw [sgw_at hk0, he0]) (by rw [sgw_at hk1, he1]) ht0 ht1 rfl h1 h2 h3 h4 h5 (fun _ _ => rfl) hframes hlocals hdg (fun H1 locs1 hP1 _ hS1 => kk _ H1 locs1 rfl (by
    rw [← he1 (va_cpy (f k0) (f k1) sp.toNatClampNeg dp.toNatClampNeg nn.toNatClampNeg), sgw_set hk1, sg_up_id, sg_up_id] at hP1
    exact hP1) hS1)
/-- what a call finds: the receiver is cell k -/
theorem sg_preV (hA : sgY A n h s.heap.size) (hK : va_K D cl tys s) (hP : va_P D cl (sgw n h ee f L Q) H) (hS : va_S A s.heap H locs) (hZ : sgZ zc za A s.heap.size s) (k : Nat) (hk : k < n) {As : List Value} {C : String} {T : u_T} {N ci : Nat} {fs : List Value} (he : ee k (f k) (L k) (Q k) = .inr (ci, fs)) (hc : cl[ci]? = some (C, T, N)) : PreV s H C (h k) (sgP D cl tys n h ee zc za f L Q H.size (.ref (h k) :: As)) As :=
  ⟨sgP_blind, va_recv hK hP hc (q0 := k) (by rw [sgw_at hk, he]), fun U hU hW => ⟨rfl, by rw [hU], by rw [hU]; exact hP, va_K.moved hW.alike hK, hZ.go hS hU hW.alike (fun q hq => hA.sub hS.1 hq)⟩⟩
theorem sg_preS (hA : sgY A n h s.heap.size) (hK : va_K D cl tys s) (hP : va_P D cl (sgw n h ee f L Q) H) (hS : va_S A s.heap H locs) (hZ : sgZ zc za A s.heap.size s) {As : List Value} : PreS s H (sgP D cl tys n h ee zc za f L Q H.size As) As :=
  ⟨sgP_blind, fun U hU hW => ⟨rfl, by rw [hU], by rw [hU]; exact hP, va_K.moved hW.alike hK, hZ.go hS hU hW.alike (fun q hq => hA.sub hS.1 hq)⟩⟩
end SGR
/-- a method's walk, from its entry to its returns -/
theorem sg_ofWi {l : Launch} {y : MethodName} {ws ws' : List Cond} {rm : Room} {cc : ByteArray} {maxL : Nat} {D : va_G} {cl : List vw_C} {tys : List (ClassId × FieldType)} {n : Nat} {h : Nat → Nat} {ee : sg_E} {zc : List sg_S} {za : Nat → Nat} {f : sg_F} {L : sg_L} {Q : sg_Q} {sz : Nat} {av : List Value} {post : Int32 → sg_F → sg_L → sg_Q → Prop} {mc ms : Nat} (own : String) (hy : plainName y.cls = true) (hyc : y.cls = own) (hw : ws = Cond.code y cc maxL (some .int) :: ws') (hav : (lg_sl av).length ≤ maxL)
    (body : ∀ (p : Program) (e : Env) (s : State) (m : MethodId) (below : List Frame) (meth : Method) (c : Code) (Qz : State → Prop) (ls : Array Slot), p.tables.exec = Jvm.exec → c.code = cc → c.maxLocals = maxL → s.vm.findClass own = some m.cls → (∀ w ∈ ws, w.before av.toArray s = true) → va_K D cl tys s → sgZ zc za (sgA n h s.heap.size) s.heap.size s → va_P D cl (sgw n h ee f L Q) s.heap → va_S (sgA n h s.heap.size) s.heap s.heap [] → lv_has ls maxL (lv_args 0 av) →
      (∀ (pc : Nat) (H : Heap) (locs : List Loc) (ls : Array Slot) (v : Int32) (f1 : sg_F) (L1 : sg_L) (Q1 : sg_Q), decode cc pc = .ok (.ireturn, 1) → va_P D cl (sgw n h ee f1 L1 Q1) H → va_S (sgA n h s.heap.size) s.heap H locs → post v f1 L1 Q1 → W p l e rm s m av.toArray below meth c H locs mc ms Qz (F0 m pc ls [.int v])) →
      W p l e rm s m av.toArray below meth c s.heap [] 0 0 Qz (F0 m 0 ls [])) :
    Met l y ws rm (sgP D cl tys n h ee zc za f L Q sz av) (sgQi D cl n h ee sz post) mc ms (sgA n h sz) := by
  refine Met.ofW (cc := cc) (maxL := maxL) (ret := some .int) hy hw ?_
  intro p e s m args below meth c s₁ B hml hv
  obtain ⟨rfl, hsz, hP, hK, hZ⟩ := hv
  subst hsz
  rw [lg_entry_eq]
  refine body p e s m below meth c _ _ B.exec B.bytes hml (hyc ▸ findClass_of_methodNamed B.named) (atoms_spec (ws := ws) B.pre) hK hZ hP va_S.rf (lv_entry av hav) ?_
  intro pc H locs ls v f1 L1 Q1 hd hP1 hS1 hp
  exact W.iret (v := v) B.exec B.bytes B.returns (fun t ht _ => ⟨⟨v, (f1, L1, Q1), rfl, hp, by subst ht; exact hP1⟩, hS1.F ht⟩) hS1.2.2 hd B.notSynchronized
theorem sg_ofWz {l : Launch} {y : MethodName} {ws ws' : List Cond} {rm : Room} {cc : ByteArray} {maxL : Nat} {D : va_G} {cl : List vw_C} {tys : List (ClassId × FieldType)} {n : Nat} {h : Nat → Nat} {ee : sg_E} {zc : List sg_S} {za : Nat → Nat} {f : sg_F} {L : sg_L} {Q : sg_Q} {sz : Nat} {av : List Value} {post : Int32 → sg_F → sg_L → sg_Q → Prop} {mc ms : Nat} (own : String) (hy : plainName y.cls = true) (hyc : y.cls = own) (hw : ws = Cond.code y cc maxL (some .boolean) :: ws') (hav : (lg_sl av).length ≤ maxL)
    (body : ∀ (p : Program) (e : Env) (s : State) (m : MethodId) (below : List Frame) (meth : Method) (c : Code) (Qz : State → Prop) (ls : Array Slot), p.tables.exec = Jvm.exec → c.code = cc → c.maxLocals = maxL → s.vm.findClass own = some m.cls → (∀ w ∈ ws, w.before av.toArray s = true) → va_K D cl tys s → sgZ zc za (sgA n h s.heap.size) s.heap.size s → va_P D cl (sgw n h ee f L Q) s.heap → va_S (sgA n h s.heap.size) s.heap s.heap [] → lv_has ls maxL (lv_args 0 av) →
      (∀ (pc : Nat) (H : Heap) (locs : List Loc) (ls : Array Slot) (v : Int32) (f1 : sg_F) (L1 : sg_L) (Q1 : sg_Q), decode cc pc = .ok (.ireturn, 1) → narrow .boolean (.int v) = .int v → va_P D cl (sgw n h ee f1 L1 Q1) H → va_S (sgA n h s.heap.size) s.heap H locs → post v f1 L1 Q1 → W p l e rm s m av.toArray below meth c H locs mc ms Qz (F0 m pc ls [.int v])) →
      W p l e rm s m av.toArray below meth c s.heap [] 0 0 Qz (F0 m 0 ls [])) :
    Met l y ws rm (sgP D cl tys n h ee zc za f L Q sz av) (sgQi D cl n h ee sz post) mc ms (sgA n h sz) := by
  refine Met.ofW (cc := cc) (maxL := maxL) (ret := some .boolean) hy hw ?_
  intro p e s m args below meth c s₁ B hml hv
  obtain ⟨rfl, hsz, hP, hK, hZ⟩ := hv
  subst hsz
  rw [lg_entry_eq]
  refine body p e s m below meth c _ _ B.exec B.bytes hml (hyc ▸ findClass_of_methodNamed B.named) (atoms_spec (ws := ws) B.pre) hK hZ hP va_S.rf (lv_entry av hav) ?_
  intro pc H locs ls v f1 L1 Q1 hd hn hP1 hS1 hp
  exact W.zret (v := v) B.exec B.bytes B.returns hn (fun t ht _ => ⟨⟨v, (f1, L1, Q1), rfl, hp, by subst ht; exact hP1⟩, hS1.F ht⟩) hS1.2.2 hd B.notSynchronized
theorem sg_ofWl {l : Launch} {y : MethodName} {ws ws' : List Cond} {rm : Room} {cc : ByteArray} {maxL : Nat} {D : va_G} {cl : List vw_C} {tys : List (ClassId × FieldType)} {n : Nat} {h : Nat → Nat} {ee : sg_E} {zc : List sg_S} {za : Nat → Nat} {f : sg_F} {L : sg_L} {Q : sg_Q} {sz : Nat} {av : List Value} {post : Int64 → sg_F → sg_L → sg_Q → Prop} {mc ms : Nat} (own : String) (hy : plainName y.cls = true) (hyc : y.cls = own) (hw : ws = Cond.code y cc maxL (some .long) :: ws') (hav : (lg_sl av).length ≤ maxL)
    (body : ∀ (p : Program) (e : Env) (s : State) (m : MethodId) (below : List Frame) (meth : Method) (c : Code) (Qz : State → Prop) (ls : Array Slot), p.tables.exec = Jvm.exec → c.code = cc → c.maxLocals = maxL → s.vm.findClass own = some m.cls → (∀ w ∈ ws, w.before av.toArray s = true) → va_K D cl tys s → sgZ zc za (sgA n h s.heap.size) s.heap.size s → va_P D cl (sgw n h ee f L Q) s.heap → va_S (sgA n h s.heap.size) s.heap s.heap [] → lv_has ls maxL (lv_args 0 av) →
      (∀ (pc : Nat) (H : Heap) (locs : List Loc) (ls : Array Slot) (v : Int64) (f1 : sg_F) (L1 : sg_L) (Q1 : sg_Q), decode cc pc = .ok (.lreturn, 1) → va_P D cl (sgw n h ee f1 L1 Q1) H → va_S (sgA n h s.heap.size) s.heap H locs → post v f1 L1 Q1 → W p l e rm s m av.toArray below meth c H locs mc ms Qz (F0 m pc ls [.long v])) →
      W p l e rm s m av.toArray below meth c s.heap [] 0 0 Qz (F0 m 0 ls [])) :
    Met l y ws rm (sgP D cl tys n h ee zc za f L Q sz av) (sgQl D cl n h ee sz post) mc ms (sgA n h sz) := by
  refine Met.ofW (cc := cc) (maxL := maxL) (ret := some .long) hy hw ?_
  intro p e s m args below meth c s₁ B hml hv
  obtain ⟨rfl, hsz, hP, hK, hZ⟩ := hv
  subst hsz
  rw [lg_entry_eq]
  refine body p e s m below meth c _ _ B.exec B.bytes hml (hyc ▸ findClass_of_methodNamed B.named) (atoms_spec (ws := ws) B.pre) hK hZ hP va_S.rf (lv_entry av hav) ?_
  intro pc H locs ls v f1 L1 Q1 hd hP1 hS1 hp
  exact W.lret (v := v) B.exec B.bytes B.returns (fun t ht _ => ⟨⟨v, (f1, L1, Q1), rfl, hp, by subst ht; exact hP1⟩, hS1.F ht⟩) hS1.2.2 hd B.notSynchronized
theorem sg_ofWv {l : Launch} {y : MethodName} {ws ws' : List Cond} {rm : Room} {cc : ByteArray} {maxL : Nat} {D : va_G} {cl : List vw_C} {tys : List (ClassId × FieldType)} {n : Nat} {h : Nat → Nat} {ee : sg_E} {zc : List sg_S} {za : Nat → Nat} {f : sg_F} {L : sg_L} {Q : sg_Q} {sz : Nat} {av : List Value} {post : sg_F → sg_L → sg_Q → Prop} {mc ms : Nat} (own : String) (hy : plainName y.cls = true) (hyc : y.cls = own) (hw : ws = Cond.code y cc maxL none :: ws') (hav : (lg_sl av).length ≤ maxL)
    (body : ∀ (p : Program) (e : Env) (s : State) (m : MethodId) (below : List Frame) (meth : Method) (c : Code) (Qz : State → Prop) (ls : Array Slot), p.tables.exec = Jvm.exec → c.code = cc → c.maxLocals = maxL → s.vm.findClass own = some m.cls → (∀ w ∈ ws, w.before av.toArray s = true) → va_K D cl tys s → sgZ zc za (sgA n h s.heap.size) s.heap.size s → va_P D cl (sgw n h ee f L Q) s.heap → va_S (sgA n h s.heap.size) s.heap s.heap [] → lv_has ls maxL (lv_args 0 av) →
      (∀ (pc : Nat) (H : Heap) (locs : List Loc) (ls : Array Slot) (f1 : sg_F) (L1 : sg_L) (Q1 : sg_Q), decode cc pc = .ok (.return_, 1) → va_P D cl (sgw n h ee f1 L1 Q1) H → va_S (sgA n h s.heap.size) s.heap H locs → post f1 L1 Q1 → W p l e rm s m av.toArray below meth c H locs mc ms Qz (F0 m pc ls [])) →
      W p l e rm s m av.toArray below meth c s.heap [] 0 0 Qz (F0 m 0 ls [])) :
    Met l y ws rm (sgP D cl tys n h ee zc za f L Q sz av) (sgQv D cl n h ee sz post) mc ms (sgA n h sz) := by
  refine Met.ofW (cc := cc) (maxL := maxL) (ret := none) hy hw ?_
  intro p e s m args below meth c s₁ B hml hv
  obtain ⟨rfl, hsz, hP, hK, hZ⟩ := hv
  subst hsz
  rw [lg_entry_eq]
  refine body p e s m below meth c _ _ B.exec B.bytes hml (hyc ▸ findClass_of_methodNamed B.named) (atoms_spec (ws := ws) B.pre) hK hZ hP va_S.rf (lv_entry av hav) ?_
  intro pc H locs ls f1 L1 Q1 hd hP1 hS1 hp
  exact W.vret B.exec B.bytes B.returns (fun t ht _ => ⟨⟨(f1, L1, Q1), rfl, hp, by subst ht; exact hP1⟩, hS1.F ht⟩) hS1.2.2 hd B.notSynchronized
end
section
/-! bounds of ints: sgB a b x says that x lies between a and b -/
abbrev sgB (a b : Int) (x : Int32) : Prop := a ≤ x.toInt ∧ x.toInt ≤ b
theorem bn_any (x : Int32) : sgB (-2147483648) 2147483647 x := by
  have h1 := x.le_toInt
  have h2 := x.toInt_lt
  exact ⟨by omega, by omega⟩
theorem bn_w {a b c d : Int} {x : Int32} (h : sgB a b x) (k : c ≤ a ∧ b ≤ d) : sgB c d x := ⟨Int.le_trans k.1 h.1, Int.le_trans h.2 k.2⟩
theorem bn_add {a b c d l u : Int} {x y : Int32} (h : sgB a b x) (g : sgB c d y) (k : (-2147483648 ≤ a + c ∧ b + d ≤ 2147483647) ∧ l ≤ a + c ∧ b + d ≤ u) : sgB l u (x + y) ∧ (x + y).toInt = x.toInt + y.toInt := by
  have e : (x + y).toInt = x.toInt + y.toInt := by
    rw [Int32.toInt_add]
    exact Int.bmod_eq_of_le (by omega) (by omega)
  exact ⟨⟨by omega, by omega⟩, e⟩
theorem bn_sub {a b c d l u : Int} {x y : Int32} (h : sgB a b x) (g : sgB c d y) (k : (-2147483648 ≤ a - d ∧ b - c ≤ 2147483647) ∧ l ≤ a - d ∧ b - c ≤ u) : sgB l u (x - y) ∧ (x - y).toInt = x.toInt - y.toInt := by
  have e : (x - y).toInt = x.toInt - y.toInt := by
    rw [Int32.toInt_sub]
    exact Int.bmod_eq_of_le (by omega) (by omega)
  exact ⟨⟨by omega, by omega⟩, e⟩
theorem bn_neg {a b l u : Int} {x : Int32} (h : sgB a b x) (k : -2147483648 < a ∧ l ≤ -b ∧ -a ≤ u) : sgB l u (-x) ∧ (-x).toInt = -x.toInt := by
  have h2 := x.toInt_lt
  have e : (-x).toInt = -x.toInt := by
    rw [Int32.toInt_neg]
    exact Int.bmod_eq_of_le (by omega) (by omega)
  exact ⟨⟨by omega, by omega⟩, e⟩
theorem bn_mul {a b c d l u : Int} {x y : Int32} (h : sgB a b x) (g : sgB c d y) (k : (0 ≤ a ∧ 0 ≤ c) ∧ b * d ≤ 2147483647 ∧ l ≤ a * c ∧ b * d ≤ u) : sgB l u (x * y) ∧ (x * y).toInt = x.toInt * y.toInt := by
  obtain ⟨⟨k1, k2⟩, k3, k4, k5⟩ := k
  have h1 : a * c ≤ x.toInt * y.toInt := Int.mul_le_mul h.1 g.1 k2 (Int.le_trans k1 h.1)
  have h2 : x.toInt * y.toInt ≤ b * d := Int.mul_le_mul h.2 g.2 (Int.le_trans k2 g.1) (Int.le_trans (Int.le_trans k1 h.1) h.2)
  have h3 : 0 ≤ x.toInt * y.toInt := Int.mul_nonneg (Int.le_trans k1 h.1) (Int.le_trans k2 g.1)
  have e : (x * y).toInt = x.toInt * y.toInt := by
    rw [Int32.toInt_mul]
    exact Int.bmod_eq_of_le (by omega) (by omega)
  rw [sgB, e]
  exact ⟨⟨Int.le_trans k4 h1, Int.le_trans h2 k5⟩, rfl⟩
/-- the sides of a branch -/
theorem bn_lt {x y : Int32} (h : x < y) : x.toInt < y.toInt := Int32.lt_iff_toInt_lt.mp h
theorem bn_nlt {x y : Int32} (h : ¬ x < y) : y.toInt ≤ x.toInt := Int.not_lt.mp (fun z => h (Int32.lt_iff_toInt_lt.mpr z))
theorem bn_le {x y : Int32} (h : x ≤ y) : x.toInt ≤ y.toInt := Int32.le_iff_toInt_le.mp h
theorem bn_nle {x y : Int32} (h : ¬ x ≤ y) : y.toInt < x.toInt := Int.not_le.mp (fun z => h (Int32.le_iff_toInt_le.mpr z))
theorem bn_ne {x y : Int32} (h : ¬ x = y) : x.toInt ≠ y.toInt := fun z => h (Int32.toInt_inj.mp z)
/-- what a side says: x below y, of x; of y -/
theorem bs_lt1 {a b c d u : Int} {x y : Int} (h : x < y) (hx : a ≤ x ∧ x ≤ b) (hy : c ≤ y ∧ y ≤ d) (k : d ≤ u + 1) : a ≤ x ∧ x ≤ u := ⟨hx.1, by omega⟩
theorem bs_lt2 {a b c d u : Int} {x y : Int} (h : x < y) (hx : a ≤ x ∧ x ≤ b) (hy : c ≤ y ∧ y ≤ d) (k : u ≤ a + 1) : u ≤ y ∧ y ≤ d := ⟨by omega, hy.2⟩
theorem bs_le1 {a b c d : Int} {x y : Int} (h : x ≤ y) (hx : a ≤ x ∧ x ≤ b) (hy : c ≤ y ∧ y ≤ d) : a ≤ x ∧ x ≤ d := ⟨hx.1, Int.le_trans h hy.2⟩
theorem bs_le2 {a b c d : Int} {x y : Int} (h : x ≤ y) (hx : a ≤ x ∧ x ≤ b) (hy : c ≤ y ∧ y ≤ d) : a ≤ y ∧ y ≤ d := ⟨Int.le_trans hx.1 h, hy.2⟩
theorem bs_eq {a b c d l u : Int} {x y : Int32} (h : x = y) (hx : sgB a b x) (hy : sgB c d y) (k : (l ≤ a ∨ l ≤ c) ∧ (b ≤ u ∨ d ≤ u)) : sgB l u x := by
  subst h
  exact ⟨by omega, by omega⟩
theorem bs_ne1 {a b c l : Int} {x y : Int32} (h : ¬ x = y) (hx : sgB a b x) (hy : sgB c c y) (k : l ≤ a + 1 ∧ c = a) : sgB l b x := by
  have := bn_ne h
  exact ⟨by omega, hx.2⟩
theorem bs_ne2 {a b c u : Int} {x y : Int32} (h : ¬ x = y) (hx : sgB a b x) (hy : sgB c c y) (k : b ≤ u + 1 ∧ c = b) : sgB a u x := by
  have := bn_ne h
  exact ⟨hx.1, by omega⟩
/-- an index -/
theorem bn_in {a b : Int} {x : Int32} {N : Nat} (h : sgB a b x) (k : 0 ≤ a ∧ b < (N : Int)) : vp_in x N := vp_in_iff.mpr ⟨by omega, by omega⟩
theorem bn_cl {a b : Int} {x : Int32} (h : sgB a b x) (k : 0 ≤ a) : ((x.toNatClampNeg : Nat) : Int) = x.toInt := by
  show ((x.toInt.toNat : Nat) : Int) = x.toInt
  omega
theorem bn_k {a b : Int} {x : Int32} {N : Nat} (h : sgB a b x) (k : 0 ≤ a ∧ b < (N : Int)) : x.toNatClampNeg < N := by
  have := bn_cl h k.1
  omega
theorem bn_max {a b c d l u : Int} {x y : Int32} (h : sgB a b x) (g : sgB c d y) (k : (l ≤ a ∨ l ≤ c) ∧ b ≤ u ∧ d ≤ u) : sgB l u (if x < y then y else x) := by
  split
  · have := bn_lt (by assumption); exact ⟨by omega, by omega⟩
  · have := bn_nlt (by assumption); exact ⟨by omega, by omega⟩
theorem bn_min {a b c d l u : Int} {x y : Int32} (h : sgB a b x) (g : sgB c d y) (k : (l ≤ a ∧ l ≤ c) ∧ (b ≤ u ∨ d ≤ u)) : sgB l u (if x < y then x else y) := by
  split
  · have := bn_lt (by assumption); exact ⟨by omega, by omega⟩
  · have := bn_nlt (by assumption); exact ⟨by omega, by omega⟩
theorem bn_abs {a b u : Int} {x : Int32} (h : sgB a b x) (k : -2147483648 < a ∧ -a ≤ u ∧ b ≤ u) : sgB 0 u (if 0 ≤ x then x else 0 - x) := by
  have z : (0 : Int32).toInt = 0 := by decide
  split
  · have := bn_le (by assumption)
    exact ⟨by omega, by omega⟩
  · have := bn_nle (by assumption)
    have e : (0 - x).toInt = 0 - x.toInt := by
      rw [Int32.toInt_sub, z]
      exact Int.bmod_eq_of_le (by omega) (by omega)
    exact ⟨by omega, by omega⟩
theorem bn_div {a b c l u : Int} {x y : Int32} (h : sgB a b x) (g : sgB c c y) (k : (0 ≤ a ∧ 0 < c) ∧ l ≤ a / c ∧ b / c ≤ u) : sgB l u (x / y) ∧ (x / y).toInt = x.toInt / c := by
  obtain ⟨⟨k1, k2⟩, k3, k4⟩ := k
  have e0 : y.toInt = c := by omega
  have e : (x / y).toInt = x.toInt / c := by
    rw [Int32.toInt_div_of_ne_right _ _ (by intro z; rw [z] at e0; have : (-1 : Int32).toInt = -1 := by decide
                                            omega), e0]
    exact Int.tdiv_eq_ediv_of_nonneg (by omega)
  rw [sgB, e]
  exact ⟨⟨Int.le_trans k3 (Int.ediv_le_ediv k2 h.1), Int.le_trans (Int.ediv_le_ediv k2 h.2) k4⟩, rfl⟩
theorem bn_rem {a b c u : Int} {x y : Int32} (h : sgB a b x) (g : sgB c c y) (k : (0 ≤ a ∧ 0 < c) ∧ c ≤ u + 1) : sgB 0 u (x - x / y * y) ∧ (x - x / y * y).toInt = x.toInt % c := by
  obtain ⟨⟨k1, k2⟩, k3⟩ := k
  have e0 : y.toInt = c := by omega
  have ed : (x / y).toInt = x.toInt / c := (bn_div (l := a / c) (u := b / c) h g ⟨⟨k1, k2⟩, Int.le_refl _, Int.le_refl _⟩).2
  have hb := x.toInt_lt
  have h0 : 0 ≤ x.toInt := by omega
  have d0 : 0 ≤ x.toInt / c := Int.ediv_nonneg h0 (by omega)
  have d1 : x.toInt / c * c ≤ x.toInt := Int.ediv_mul_le _ (by omega)
  have d2 : 0 ≤ x.toInt / c * c := Int.mul_nonneg d0 (by omega)
  have em : (x / y * y).toInt = x.toInt / c * c := by
    rw [Int32.toInt_mul, ed, e0]
    exact Int.bmod_eq_of_le (by omega) (by omega)
  have es : (x - x / y * y).toInt = x.toInt - x.toInt / c * c := by
    rw [Int32.toInt_sub, em]
    exact Int.bmod_eq_of_le (by omega) (by omega)
  have em2 : x.toInt - x.toInt / c * c = x.toInt % c := by
    rw [Int.emod_def, Int.mul_comm]
  have r0 := Int.emod_nonneg x.toInt (by omega : c ≠ 0)
  have r1 := Int.emod_lt_of_pos x.toInt k2
  rw [sgB, es, em2]
  exact ⟨⟨r0, by omega⟩, rfl⟩
theorem bn_lcmp (x y : Int64) : sgB (-1) 1 (lg_cmp x y) := by
  unfold lg_cmp
  split
  · decide
  · split <;> decide
/-- a measure that falls -/
theorem ms_0 {a b K : Int} {x : Int} (hx : a ≤ x ∧ x ≤ b) (k : b ≤ K) (hm : K - x < ((0 : Nat) : Int)) : False := by omega
theorem ms_s {K x y : Int} {n : Nat} (hm : K - x < ((n + 1 : Nat) : Int)) (e : x + 1 ≤ y) : K - y < (n : Int) := by omega
theorem ms_1 {a b K : Int} {x : Int} (hx : a ≤ x ∧ x ≤ b) (M : Nat) (k : K - a < (M : Int)) : K - x < (M : Int) := by omega
theorem md_0 {a b K : Int} {x : Int} (hx : a ≤ x ∧ x ≤ b) (k : K ≤ a) (hm : x - K < ((0 : Nat) : Int)) : False := by omega
theorem md_s {K x y : Int} {n : Nat} (hm : x - K < ((n + 1 : Nat) : Int)) (e : y + 1 ≤ x) : y - K < (n : Int) := by omega
theorem md_1 {a b K : Int} {x : Int} (hx : a ≤ x ∧ x ≤ b) (M : Nat) (k : b - K < (M : Int)) : x - K < (M : Int) := by omega
/-! the same without bounds, for a context that says enough -/
theorem bn_addI {x y : Int32} (h1 : -2147483648 ≤ x.toInt + y.toInt) (h2 : x.toInt + y.toInt ≤ 2147483647) : (x + y).toInt = x.toInt + y.toInt := by
  rw [Int32.toInt_add]
  exact Int.bmod_eq_of_le (by omega) (by omega)
theorem bn_subI {x y : Int32} (h1 : -2147483648 ≤ x.toInt - y.toInt) (h2 : x.toInt - y.toInt ≤ 2147483647) : (x - y).toInt = x.toInt - y.toInt := by
  rw [Int32.toInt_sub]
  exact Int.bmod_eq_of_le (by omega) (by omega)
theorem bn_negI {x : Int32} (h : -2147483648 < x.toInt) : (-x).toInt = -x.toInt := by
  have h2 := x.toInt_lt
  rw [Int32.toInt_neg]
  exact Int.bmod_eq_of_le (by omega) (by omega)
theorem bn_addc (x y : Int32) {n : Int} (e : y.toInt = n) (h1 : -2147483648 ≤ x.toInt + n) (h2 : x.toInt + n ≤ 2147483647) : (x + y).toInt = x.toInt + n := by
  rw [← e]
  exact bn_addI (by omega) (by omega)
theorem bn_mulI {x y : Int32} {n : Int} (e : y.toInt = n) (h1 : -2147483648 ≤ x.toInt * n) (h2 : x.toInt * n ≤ 2147483647) : (x * y).toInt = x.toInt * n := by
  rw [Int32.toInt_mul, e]
  exact Int.bmod_eq_of_le (by omega) (by omega)
theorem bn_mulJ {x y : Int32} {n : Int} (e : x.toInt = n) (h1 : -2147483648 ≤ n * y.toInt) (h2 : n * y.toInt ≤ 2147483647) : (x * y).toInt = n * y.toInt := by
  rw [Int32.toInt_mul, e]
  exact Int.bmod_eq_of_le (by omega) (by omega)
theorem bn_divI {x y : Int32} {n : Int} (h : 0 ≤ x.toInt) (e : y.toInt = n) (k : 0 < n) : (x / y).toInt = x.toInt / n :=
  (bn_div (a := 0) (b := 2147483647) (l := 0 / n) (u := 2147483647 / n) ⟨h, (bn_any x).2⟩ ⟨by omega, by omega⟩ ⟨⟨by decide, k⟩, Int.le_refl _, Int.le_refl _⟩).2
theorem bn_remI {x y : Int32} {n : Int} (h : 0 ≤ x.toInt) (e : y.toInt = n) (k : 0 < n) : (x - x / y * y).toInt = x.toInt % n :=
  (bn_rem (a := 0) (b := 2147483647) (u := n) ⟨h, (bn_any x).2⟩ ⟨by omega, by omega⟩ ⟨⟨by decide, k⟩, by omega⟩).2
theorem bn_kI {x : Int32} {N : Nat} (h1 : 0 ≤ x.toInt) (h2 : x.toInt < (N : Int)) : x.toNatClampNeg < N := by
  show x.toInt.toNat < N
  omega
theorem bn_maxI (x y : Int32) : (x.toInt < y.toInt ∧ (if x < y then y else x).toInt = y.toInt) ∨ (y.toInt ≤ x.toInt ∧ (if x < y then y else x).toInt = x.toInt) := by
  by_cases h : x < y
  · rw [if_pos h]; exact Or.inl ⟨bn_lt h, rfl⟩
  · rw [if_neg h]; exact Or.inr ⟨bn_nlt h, rfl⟩
theorem bn_minI (x y : Int32) : (x.toInt < y.toInt ∧ (if x < y then x else y).toInt = x.toInt) ∨ (y.toInt ≤ x.toInt ∧ (if x < y then x else y).toInt = y.toInt) := by
  by_cases h : x < y
  · rw [if_pos h]; exact Or.inl ⟨bn_lt h, rfl⟩
  · rw [if_neg h]; exact Or.inr ⟨bn_nlt h, rfl⟩
theorem bn_absI {x : Int32} (h : -2147483648 < x.toInt) : (0 ≤ x.toInt ∧ (if (0 : Int32) ≤ x then x else 0 - x).toInt = x.toInt) ∨ (x.toInt < 0 ∧ (if (0 : Int32) ≤ x then x else 0 - x).toInt = -x.toInt) := by
  have z : (0 : Int32).toInt = 0 := by decide
  have h2 := x.toInt_lt
  by_cases g : (0 : Int32) ≤ x
  · rw [if_pos g]
    have := bn_le g
    exact Or.inl ⟨by omega, rfl⟩
  · rw [if_neg g]
    have := bn_nle g
    refine Or.inr ⟨by omega, ?_⟩
    rw [bn_subI (by omega) (by omega), z]
    omega
theorem bn_lcmpI (x y : Int64) : ((lg_cmp x y).toInt = -1 ∧ x.toInt < y.toInt) ∨ ((lg_cmp x y).toInt = 0 ∧ x.toInt = y.toInt) ∨ ((lg_cmp x y).toInt = 1 ∧ y.toInt < x.toInt) := by
  unfold lg_cmp
  by_cases h1 : y < x
  · rw [if_pos h1]
    exact Or.inr (Or.inr ⟨by decide, Int64.lt_iff_toInt_lt.mp h1⟩)
  · rw [if_neg h1]
    by_cases h2 : x = y
    · subst h2
      exact Or.inr (Or.inl ⟨by simp, rfl⟩)
    · have h3 : ¬ y.toInt < x.toInt := fun z => h1 (Int64.lt_iff_toInt_lt.mpr z)
      have h4 : x.toInt ≠ y.toInt := fun z => h2 (Int64.toInt_inj.mp z)
      refine Or.inl ⟨?_, by omega⟩
      first | (rw [if_neg h2]; decide) | (rw [if_pos (Int64.lt_iff_toInt_lt.mpr (by omega))]; decide) | (simp [h2])
end
section
/-! names of the classes' methods that are walked, out of the printed names -/
def RX0 : String := "SetAgain$Chair"
def TX0 : u_T := fun k => match k with
  | 0 => ("SetAgain$Chair", "told", "[I", true)
  | 1 => ("SetAgain$Chair", "stands", "[I", true)
  | 2 => ("SetAgain$Chair", "law", "LSetAgain$Law;", true)
  | 3 => ("SetAgain$Chair", "sitters", "I", false)
  | _ => ("SetAgain$Chair", "lost", "[I", true)
def tyX0 : Nat → FieldType := fun k => match k with
  | 0 => .array .int
  | 1 => .array .int
  | 2 => .object "SetAgain$Law"
  | 3 => .int
  | _ => .array .int
abbrev wsX00 : List Cond := u_ws RX0 TX0 5
theorem nmX0 : ∀ a, a < 5 → ∀ b, b < 5 → a ≠ b → (TX0 a).2.1 ≠ (TX0 b).2.1 := by decide +kernel
theorem tyX0_ok : ∀ k, k < 5 → parseFieldDescriptor (TX0 k).2.2.1 = some (tyX0 k) := by decide +kernel
abbrev cX0_init : ByteArray := prog_2_method_1_code
def yX0_init : MethodName := ⟨RX0, "<init>", "()V"⟩
abbrev cX0_has : ByteArray := prog_2_method_2_code
def yX0_has : MethodName := ⟨RX0, "has", "(I)Z"⟩
abbrev cX0_placeOf : ByteArray := prog_2_method_3_code
def yX0_placeOf : MethodName := ⟨RX0, "placeOf", "(II)I"⟩
abbrev cX0_comes : ByteArray := prog_2_method_4_code
def yX0_comes : MethodName := ⟨RX0, "comes", "(IIII)I"⟩
abbrev cX0_becomes : ByteArray := prog_2_method_5_code
def yX0_becomes : MethodName := ⟨RX0, "becomes", "(II)V"⟩
abbrev cX0_slipped : ByteArray := prog_2_method_9_code
def yX0_slipped : MethodName := ⟨RX0, "slipped", "(II)I"⟩
abbrev cX0_forget : ByteArray := prog_2_method_13_code
def yX0_forget : MethodName := ⟨RX0, "forget", "(I)V"⟩
def RX1 : String := "SetAgain$Changes"
def TX1 : u_T := fun k => match k with
  | 0 => ("SetAgain$Changes", "places", "[I", true)
  | 1 => ("SetAgain$Changes", "before", "[I", true)
  | 2 => ("SetAgain$Changes", "after", "[I", true)
  | 3 => ("SetAgain$Changes", "done", "I", false)
  | _ => ("SetAgain$Changes", "kept", "I", false)
def tyX1 : Nat → FieldType := fun k => match k with
  | 0 => .array .int
  | 1 => .array .int
  | 2 => .array .int
  | 3 => .int
  | _ => .int
abbrev wsX10 : List Cond := u_ws RX1 TX1 5
theorem nmX1 : ∀ a, a < 5 → ∀ b, b < 5 → a ≠ b → (TX1 a).2.1 ≠ (TX1 b).2.1 := by decide +kernel
theorem tyX1_ok : ∀ k, k < 5 → parseFieldDescriptor (TX1 k).2.2.1 = some (tyX1 k) := by decide +kernel
abbrev cX1_init : ByteArray := prog_3_method_1_code
def yX1_init : MethodName := ⟨RX1, "<init>", "()V"⟩
abbrev cX1_comes : ByteArray := prog_3_method_2_code
def yX1_comes : MethodName := ⟨RX1, "comes", "(III)V"⟩
def RX2 : String := "SetAgain$Deed"
def TX2 : u_T := fun k => match k with
  | 0 => ("SetAgain$Deed", "chair", "LSetAgain$Chair;", true)
  | 1 => ("SetAgain$Deed", "habits", "LSetAgain$Habits;", true)
  | 2 => ("SetAgain$Deed", "told", "[I", true)
  | 3 => ("SetAgain$Deed", "keptTold", "[I", true)
  | 4 => ("SetAgain$Deed", "keptStands", "[I", true)
  | _ => ("SetAgain$Deed", "kept", "Z", false)
def tyX2 : Nat → FieldType := fun k => match k with
  | 0 => .object "SetAgain$Chair"
  | 1 => .object "SetAgain$Habits"
  | 2 => .array .int
  | 3 => .array .int
  | 4 => .array .int
  | _ => .boolean
abbrev wsX20 : List Cond := u_ws RX2 TX2 6
theorem nmX2 : ∀ a, a < 6 → ∀ b, b < 6 → a ≠ b → (TX2 a).2.1 ≠ (TX2 b).2.1 := by decide +kernel
theorem tyX2_ok : ∀ k, k < 6 → parseFieldDescriptor (TX2 k).2.2.1 = some (tyX2 k) := by decide +kernel
abbrev cX2_init : ByteArray := prog_4_method_1_code
def yX2_init : MethodName := ⟨RX2, "<init>", "(LSetAgain$Chair;LSetAgain$Habits;)V"⟩
abbrev cX2_turns : ByteArray := prog_4_method_3_code
def yX2_turns : MethodName := ⟨RX2, "turns", "(II)I"⟩
abbrev cX2_allSlip : ByteArray := prog_4_method_4_code
def yX2_allSlip : MethodName := ⟨RX2, "allSlip", "()I"⟩
abbrev cX2_keepImage : ByteArray := prog_4_method_5_code
def yX2_keepImage : MethodName := ⟨RX2, "keepImage", "()I"⟩
abbrev cX2_layBack : ByteArray := prog_4_method_6_code
def yX2_layBack : MethodName := ⟨RX2, "layBack", "()I"⟩
def RX3 : String := "SetAgain$Desks"
def TX3 : u_T := fun k => match k with
  | 0 => ("SetAgain$Desks", "kinds", "[I", true)
  | 1 => ("SetAgain$Desks", "trace", "[I", true)
  | 2 => ("SetAgain$Desks", "kept", "I", false)
  | 3 => ("SetAgain$Desks", "ran", "I", false)
  | 4 => ("SetAgain$Desks", "kind", "I", false)
  | _ => ("SetAgain$Desks", "number", "I", false)
def tyX3 : Nat → FieldType := fun k => match k with
  | 0 => .array .int
  | 1 => .array .int
  | 2 => .int
  | 3 => .int
  | 4 => .int
  | _ => .int
abbrev wsX30 : List Cond := u_ws RX3 TX3 6
theorem nmX3 : ∀ a, a < 6 → ∀ b, b < 6 → a ≠ b → (TX3 a).2.1 ≠ (TX3 b).2.1 := by decide +kernel
theorem tyX3_ok : ∀ k, k < 6 → parseFieldDescriptor (TX3 k).2.2.1 = some (tyX3 k) := by decide +kernel
abbrev cX3_init : ByteArray := prog_5_method_1_code
def yX3_init : MethodName := ⟨RX3, "<init>", "()V"⟩
abbrev cX3_comes : ByteArray := prog_5_method_2_code
def yX3_comes : MethodName := ⟨RX3, "comes", "(I)I"⟩
abbrev cX3_acts : ByteArray := prog_5_method_4_code
def yX3_acts : MethodName := ⟨RX3, "acts", "(III)I"⟩
def RX4 : String := "SetAgain$Habits"
def TX4 : u_T := fun k => match k with
  | 0 => ("SetAgain$Habits", "chair", "LSetAgain$Chair;", true)
  | 1 => ("SetAgain$Habits", "week", "LSetAgain$Week;", true)
  | 2 => ("SetAgain$Habits", "stand", "[I", true)
  | 3 => ("SetAgain$Habits", "turns", "[I", true)
  | 4 => ("SetAgain$Habits", "spared", "[I", true)
  | 5 => ("SetAgain$Habits", "losses", "I", false)
  | 6 => ("SetAgain$Habits", "costs", "I", false)
  | 7 => ("SetAgain$Habits", "tried", "I", false)
  | 8 => ("SetAgain$Habits", "triedNear", "I", false)
  | 9 => ("SetAgain$Habits", "leaver", "I", false)
  | _ => ("SetAgain$Habits", "left", "I", false)
def tyX4 : Nat → FieldType := fun k => match k with
  | 0 => .object "SetAgain$Chair"
  | 1 => .object "SetAgain$Week"
  | 2 => .array .int
  | 3 => .array .int
  | 4 => .array .int
  | 5 => .int
  | 6 => .int
  | 7 => .int
  | 8 => .int
  | 9 => .int
  | _ => .int
abbrev wsX40 : List Cond := u_ws RX4 TX4 11
theorem nmX4 : ∀ a, a < 11 → ∀ b, b < 11 → a ≠ b → (TX4 a).2.1 ≠ (TX4 b).2.1 := by decide +kernel
theorem tyX4_ok : ∀ k, k < 11 → parseFieldDescriptor (TX4 k).2.2.1 = some (tyX4 k) := by decide +kernel
abbrev cX4_init : ByteArray := prog_6_method_1_code
def yX4_init : MethodName := ⟨RX4, "<init>", "(LSetAgain$Chair;LSetAgain$Week;)V"⟩
def RX5 : String := "SetAgain$Law"
def TX5 : u_T := fun k => match k with
  | 0 => ("SetAgain$Law", "tape", "[I", true)
  | 1 => ("SetAgain$Law", "length", "I", false)
  | 2 => ("SetAgain$Law", "holds", "Z", false)
  | 3 => ("SetAgain$Law", "draft", "[I", true)
  | 4 => ("SetAgain$Law", "code", "[I", true)
  | 5 => ("SetAgain$Law", "stack", "[I", true)
  | 6 => ("SetAgain$Law", "at", "I", false)
  | 7 => ("SetAgain$Law", "fault", "I", false)
  | 8 => ("SetAgain$Law", "drafted", "I", false)
  | _ => ("SetAgain$Law", "coded", "I", false)
def tyX5 : Nat → FieldType := fun k => match k with
  | 0 => .array .int
  | 1 => .int
  | 2 => .boolean
  | 3 => .array .int
  | 4 => .array .int
  | 5 => .array .int
  | 6 => .int
  | 7 => .int
  | 8 => .int
  | _ => .int
abbrev wsX50 : List Cond := u_ws RX5 TX5 10
theorem nmX5 : ∀ a, a < 10 → ∀ b, b < 10 → a ≠ b → (TX5 a).2.1 ≠ (TX5 b).2.1 := by decide +kernel
theorem tyX5_ok : ∀ k, k < 10 → parseFieldDescriptor (TX5 k).2.2.1 = some (tyX5 k) := by decide +kernel
abbrev cX5_init : ByteArray := prog_7_method_1_code
def yX5_init : MethodName := ⟨RX5, "<init>", "()V"⟩
abbrev cX5_takes : ByteArray := prog_7_method_2_code
def yX5_takes : MethodName := ⟨RX5, "takes", "(I)I"⟩
abbrev cX5_isRead : ByteArray := prog_7_method_3_code
def yX5_isRead : MethodName := ⟨RX5, "isRead", "()I"⟩
abbrev cX5_lines : ByteArray := prog_7_method_4_code
def yX5_lines : MethodName := ⟨RX5, "lines", "()V"⟩
abbrev cX5_line : ByteArray := prog_7_method_5_code
def yX5_line : MethodName := ⟨RX5, "line", "()V"⟩
abbrev cX5_either : ByteArray := prog_7_method_6_code
def yX5_either : MethodName := ⟨RX5, "either", "(I)V"⟩
abbrev cX5_both : ByteArray := prog_7_method_7_code
def yX5_both : MethodName := ⟨RX5, "both", "(I)V"⟩
abbrev cX5_compared : ByteArray := prog_7_method_8_code
def yX5_compared : MethodName := ⟨RX5, "compared", "(I)V"⟩
abbrev cX5_sum : ByteArray := prog_7_method_9_code
def yX5_sum : MethodName := ⟨RX5, "sum", "(I)V"⟩
abbrev cX5_product : ByteArray := prog_7_method_10_code
def yX5_product : MethodName := ⟨RX5, "product", "(I)V"⟩
abbrev cX5_operand : ByteArray := prog_7_method_11_code
def yX5_operand : MethodName := ⟨RX5, "operand", "(I)V"⟩
abbrev cX5_isDigit : ByteArray := prog_7_method_14_code
def yX5_isDigit : MethodName := ⟨RX5, "isDigit", "(I)Z"⟩
abbrev cX5_isName : ByteArray := prog_7_method_15_code
def yX5_isName : MethodName := ⟨RX5, "isName", "(I)Z"⟩
abbrev cX5_next : ByteArray := prog_7_method_16_code
def yX5_next : MethodName := ⟨RX5, "next", "()I"⟩
abbrev cX5_fail : ByteArray := prog_7_method_17_code
def yX5_fail : MethodName := ⟨RX5, "fail", "()V"⟩
abbrev cX5_write : ByteArray := prog_7_method_18_code
def yX5_write : MethodName := ⟨RX5, "write", "(I)V"⟩
def RX6 : String := "SetAgain$Seen"
def TX6 : u_T := fun k => match k with
  | 0 => ("SetAgain$Seen", "chair", "LSetAgain$Chair;", true)
  | 1 => ("SetAgain$Seen", "row", "LSetAgain$Shelf;", false)
  | _ => ("SetAgain$Seen", "part", "I", false)
def tyX6 : Nat → FieldType := fun k => match k with
  | 0 => .object "SetAgain$Chair"
  | 1 => .object "SetAgain$Shelf"
  | _ => .int
abbrev wsX60 : List Cond := u_ws RX6 TX6 3
theorem nmX6 : ∀ a, a < 3 → ∀ b, b < 3 → a ≠ b → (TX6 a).2.1 ≠ (TX6 b).2.1 := by decide +kernel
theorem tyX6_ok : ∀ k, k < 3 → parseFieldDescriptor (TX6 k).2.2.1 = some (tyX6 k) := by decide +kernel
abbrev cX6_init : ByteArray := prog_8_method_1_code
def yX6_init : MethodName := ⟨RX6, "<init>", "(LSetAgain$Chair;)V"⟩
def RX7 : String := "SetAgain$Shelf"
def TX7 : u_T := fun k => match k with
  | 0 => ("SetAgain$Shelf", "elements", "[J", true)
  | 1 => ("SetAgain$Shelf", "sort", "I", false)
  | 2 => ("SetAgain$Shelf", "length", "I", false)
  | _ => ("SetAgain$Shelf", "desk", "I", false)
def tyX7 : Nat → FieldType := fun k => match k with
  | 0 => .array .long
  | 1 => .int
  | 2 => .int
  | _ => .int
abbrev wsX70 : List Cond := u_ws RX7 TX7 4
theorem nmX7 : ∀ a, a < 4 → ∀ b, b < 4 → a ≠ b → (TX7 a).2.1 ≠ (TX7 b).2.1 := by decide +kernel
theorem tyX7_ok : ∀ k, k < 4 → parseFieldDescriptor (TX7 k).2.2.1 = some (tyX7 k) := by decide +kernel
abbrev cX7_init : ByteArray := prog_9_method_1_code
def yX7_init : MethodName := ⟨RX7, "<init>", "()V"⟩
abbrev cX7_takesDesk : ByteArray := prog_9_method_2_code
def yX7_takesDesk : MethodName := ⟨RX7, "takesDesk", "(I)V"⟩
abbrev cX7_takesRow : ByteArray := prog_9_method_3_code
def yX7_takesRow : MethodName := ⟨RX7, "takesRow", "(II)V"⟩
def RX8 : String := "SetAgain$Still"
def TX8 : u_T := fun k => match k with
  | 0 => ("SetAgain$Still", "chair", "LSetAgain$Chair;", true)
  | 1 => ("SetAgain$Still", "week", "LSetAgain$Week;", true)
  | 2 => ("SetAgain$Still", "weight", "[I", true)
  | 3 => ("SetAgain$Still", "wanted", "[Z", true)
  | 4 => ("SetAgain$Still", "ones", "[I", true)
  | 5 => ("SetAgain$Still", "sums", "[I", true)
  | 6 => ("SetAgain$Still", "leasts", "[I", true)
  | 7 => ("SetAgain$Still", "group", "[I", true)
  | 8 => ("SetAgain$Still", "bestGroup", "[I", true)
  | 9 => ("SetAgain$Still", "sitting", "I", false)
  | 10 => ("SetAgain$Still", "free", "I", false)
  | 11 => ("SetAgain$Still", "least", "I", false)
  | _ => ("SetAgain$Still", "found", "Z", false)
def tyX8 : Nat → FieldType := fun k => match k with
  | 0 => .object "SetAgain$Chair"
  | 1 => .object "SetAgain$Week"
  | 2 => .array .int
  | 3 => .array .boolean
  | 4 => .array .int
  | 5 => .array .int
  | 6 => .array .int
  | 7 => .array .int
  | 8 => .array .int
  | 9 => .int
  | 10 => .int
  | 11 => .int
  | _ => .boolean
abbrev wsX80 : List Cond := u_ws RX8 TX8 13
theorem nmX8 : ∀ a, a < 13 → ∀ b, b < 13 → a ≠ b → (TX8 a).2.1 ≠ (TX8 b).2.1 := by decide +kernel
theorem tyX8_ok : ∀ k, k < 13 → parseFieldDescriptor (TX8 k).2.2.1 = some (tyX8 k) := by decide +kernel
abbrev cX8_init : ByteArray := prog_10_method_1_code
def yX8_init : MethodName := ⟨RX8, "<init>", "(LSetAgain$Chair;LSetAgain$Week;)V"⟩
def RX9 : String := "SetAgain$Turning"
def TX9 : u_T := fun k => match k with
  | 0 => ("SetAgain$Turning", "chair", "LSetAgain$Chair;", true)
  | 1 => ("SetAgain$Turning", "week", "LSetAgain$Week;", true)
  | _ => ("SetAgain$Turning", "ahead", "[I", true)
def tyX9 : Nat → FieldType := fun k => match k with
  | 0 => .object "SetAgain$Chair"
  | 1 => .object "SetAgain$Week"
  | _ => .array .int
abbrev wsX90 : List Cond := u_ws RX9 TX9 3
theorem nmX9 : ∀ a, a < 3 → ∀ b, b < 3 → a ≠ b → (TX9 a).2.1 ≠ (TX9 b).2.1 := by decide +kernel
theorem tyX9_ok : ∀ k, k < 3 → parseFieldDescriptor (TX9 k).2.2.1 = some (tyX9 k) := by decide +kernel
abbrev cX9_init : ByteArray := prog_11_method_1_code
def yX9_init : MethodName := ⟨RX9, "<init>", "(LSetAgain$Chair;LSetAgain$Week;)V"⟩
def RX10 : String := "SetAgain$Week"
def TX10 : u_T := fun k => match k with
  | 0 => ("SetAgain$Week", "sitters", "[I", true)
  | 1 => ("SetAgain$Week", "times", "[I", true)
  | 2 => ("SetAgain$Week", "length", "I", false)
  | _ => ("SetAgain$Week", "sat", "I", false)
def tyX10 : Nat → FieldType := fun k => match k with
  | 0 => .array .int
  | 1 => .array .int
  | 2 => .int
  | _ => .int
abbrev wsX100 : List Cond := u_ws RX10 TX10 4
theorem nmX10 : ∀ a, a < 4 → ∀ b, b < 4 → a ≠ b → (TX10 a).2.1 ≠ (TX10 b).2.1 := by decide +kernel
theorem tyX10_ok : ∀ k, k < 4 → parseFieldDescriptor (TX10 k).2.2.1 = some (tyX10 k) := by decide +kernel
abbrev cX10_init : ByteArray := prog_12_method_1_code
def yX10_init : MethodName := ⟨RX10, "<init>", "()V"⟩
def RX11 : String := "SetAgain"
def TX11 : u_T := fun k => match k with
  | 0 => ("SetAgain", "chair", "LSetAgain$Chair;", true)
  | 1 => ("SetAgain", "week", "LSetAgain$Week;", true)
  | 2 => ("SetAgain", "habits", "LSetAgain$Habits;", true)
  | 3 => ("SetAgain", "still", "LSetAgain$Still;", true)
  | 4 => ("SetAgain", "turning", "LSetAgain$Turning;", true)
  | 5 => ("SetAgain", "seen", "LSetAgain$Seen;", true)
  | 6 => ("SetAgain", "deed", "LSetAgain$Deed;", true)
  | 7 => ("SetAgain", "changes", "LSetAgain$Changes;", true)
  | 8 => ("SetAgain", "desks", "LSetAgain$Desks;", true)
  | _ => ("SetAgain", "shelves", "[LSetAgain$Shelf;", true)
def tyX11 : Nat → FieldType := fun k => match k with
  | 0 => .object "SetAgain$Chair"
  | 1 => .object "SetAgain$Week"
  | 2 => .object "SetAgain$Habits"
  | 3 => .object "SetAgain$Still"
  | 4 => .object "SetAgain$Turning"
  | 5 => .object "SetAgain$Seen"
  | 6 => .object "SetAgain$Deed"
  | 7 => .object "SetAgain$Changes"
  | 8 => .object "SetAgain$Desks"
  | _ => .array (.object "SetAgain$Shelf")
abbrev wsX110 : List Cond := u_ws RX11 TX11 10
theorem nmX11 : ∀ a, a < 10 → ∀ b, b < 10 → a ≠ b → (TX11 a).2.1 ≠ (TX11 b).2.1 := by decide +kernel
theorem tyX11_ok : ∀ k, k < 10 → parseFieldDescriptor (TX11 k).2.2.1 = some (tyX11 k) := by decide +kernel
abbrev cX11_init : ByteArray := prog_1_method_1_code
def yX11_init : MethodName := ⟨RX11, "<init>", "()V"⟩
abbrev cX11_sitter : ByteArray := prog_1_method_2_code
def yX11_sitter : MethodName := ⟨RX11, "sitter", "(II)I"⟩
abbrev cX11_sitters : ByteArray := prog_1_method_3_code
def yX11_sitters : MethodName := ⟨RX11, "sitters", "(III)I"⟩
abbrev cX11_mend : ByteArray := prog_1_method_4_code
def yX11_mend : MethodName := ⟨RX11, "mend", "(III)I"⟩
abbrev cX11_of : ByteArray := prog_1_method_5_code
def yX11_of : MethodName := ⟨RX11, "of", "(II)I"⟩
abbrev cX11_feed : ByteArray := prog_1_method_6_code
def yX11_feed : MethodName := ⟨RX11, "feed", "(I)I"⟩
abbrev cX11_law : ByteArray := prog_1_method_7_code
def yX11_law : MethodName := ⟨RX11, "law", "()I"⟩
abbrev cX11_loss : ByteArray := prog_1_method_8_code
def yX11_loss : MethodName := ⟨RX11, "loss", "(III)I"⟩
abbrev cX11_never : ByteArray := prog_1_method_9_code
def yX11_never : MethodName := ⟨RX11, "never", "(III)I"⟩
abbrev cX11_best : ByteArray := prog_1_method_10_code
def yX11_best : MethodName := ⟨RX11, "best", "(III)I"⟩
abbrev cX11_middle : ByteArray := prog_1_method_11_code
def yX11_middle : MethodName := ⟨RX11, "middle", "(II)I"⟩
abbrev cX11_shifts : ByteArray := prog_1_method_12_code
def yX11_shifts : MethodName := ⟨RX11, "shifts", "(III)I"⟩
abbrev cX11_once : ByteArray := prog_1_method_13_code
def yX11_once : MethodName := ⟨RX11, "once", "(III)I"⟩
abbrev cX11_week : ByteArray := prog_1_method_14_code
def yX11_week : MethodName := ⟨RX11, "week", "(II)I"⟩
abbrev cX11_stands : ByteArray := prog_1_method_15_code
def yX11_stands : MethodName := ⟨RX11, "stands", "(III)I"⟩
abbrev cX11_pays : ByteArray := prog_1_method_16_code
def yX11_pays : MethodName := ⟨RX11, "pays", "(III)I"⟩
abbrev cX11_memories : ByteArray := prog_1_method_17_code
def yX11_memories : MethodName := ⟨RX11, "memories", "(III)I"⟩
abbrev cX11_marked : ByteArray := prog_1_method_18_code
def yX11_marked : MethodName := ⟨RX11, "marked", "(I)I"⟩
abbrev cX11_chairs : ByteArray := prog_1_method_19_code
def yX11_chairs : MethodName := ⟨RX11, "chairs", "(III)I"⟩
abbrev cX11_wilful : ByteArray := prog_1_method_20_code
def yX11_wilful : MethodName := ⟨RX11, "wilful", "(III)I"⟩
abbrev cX11_who : ByteArray := prog_1_method_21_code
def yX11_who : MethodName := ⟨RX11, "who", "(III)I"⟩
abbrev cX11_judge : ByteArray := prog_1_method_22_code
def yX11_judge : MethodName := ⟨RX11, "judge", "(II)I"⟩
abbrev cX11_drawn : ByteArray := prog_1_method_23_code
def yX11_drawn : MethodName := ⟨RX11, "drawn", "(IIII)I"⟩
abbrev cX11_sit : ByteArray := prog_1_method_24_code
def yX11_sit : MethodName := ⟨RX11, "sit", "(I)I"⟩
abbrev cX11_set : ByteArray := prog_1_method_25_code
def yX11_set : MethodName := ⟨RX11, "set", "(II)I"⟩
abbrev cX11_night : ByteArray := prog_1_method_26_code
def yX11_night : MethodName := ⟨RX11, "night", "()I"⟩
abbrev cX11_led : ByteArray := prog_1_method_27_code
def yX11_led : MethodName := ⟨RX11, "led", "(I)I"⟩
abbrev cX11_image : ByteArray := prog_1_method_28_code
def yX11_image : MethodName := ⟨RX11, "image", "()I"⟩
abbrev cX11_back : ByteArray := prog_1_method_29_code
def yX11_back : MethodName := ⟨RX11, "back", "()I"⟩
abbrev cX11_undo : ByteArray := prog_1_method_30_code
def yX11_undo : MethodName := ⟨RX11, "undo", "()I"⟩
abbrev cX11_redo : ByteArray := prog_1_method_31_code
def yX11_redo : MethodName := ⟨RX11, "redo", "()I"⟩
abbrev cX11_body : ByteArray := prog_1_method_32_code
def yX11_body : MethodName := ⟨RX11, "body", "(I)I"⟩
abbrev cX11_act : ByteArray := prog_1_method_33_code
def yX11_act : MethodName := ⟨RX11, "act", "(III)I"⟩
abbrev cX11_trace : ByteArray := prog_1_method_34_code
def yX11_trace : MethodName := ⟨RX11, "trace", "(I)I"⟩
abbrev cX11_keep : ByteArray := prog_1_method_35_code
def yX11_keep : MethodName := ⟨RX11, "keep", "(II)I"⟩
abbrev cX11_row : ByteArray := prog_1_method_36_code
def yX11_row : MethodName := ⟨RX11, "row", "(III)I"⟩
abbrev cX11_put : ByteArray := prog_1_method_37_code
def yX11_put : MethodName := ⟨RX11, "put", "(IIJ)I"⟩
abbrev cX11_element : ByteArray := prog_1_method_38_code
def yX11_element : MethodName := ⟨RX11, "element", "(II)J"⟩
abbrev cX11_shift : ByteArray := prog_1_method_39_code
def yX11_shift : MethodName := ⟨RX11, "shift", "(IIIII)I"⟩
abbrev cX11_taken : ByteArray := prog_1_method_40_code
def yX11_taken : MethodName := ⟨RX11, "taken", "(II)I"⟩
abbrev cX11_count : ByteArray := prog_1_method_41_code
def yX11_count : MethodName := ⟨RX11, "count", "(I)I"⟩
abbrev cX11_isPart : ByteArray := prog_1_method_42_code
def yX11_isPart : MethodName := ⟨RX11, "isPart", "(I)Z"⟩
abbrev cX11_isSetting : ByteArray := prog_1_method_43_code
def yX11_isSetting : MethodName := ⟨RX11, "isSetting", "(I)Z"⟩
abbrev cX11_isShelf : ByteArray := prog_1_method_44_code
def yX11_isShelf : MethodName := ⟨RX11, "isShelf", "(I)Z"⟩
abbrev cX11_isKind : ByteArray := prog_1_method_45_code
def yX11_isKind : MethodName := ⟨RX11, "isKind", "(I)Z"⟩
abbrev cX11_fits : ByteArray := prog_1_method_46_code
def yX11_fits : MethodName := ⟨RX11, "fits", "(II)Z"⟩
abbrev cX11_refusalOf : ByteArray := prog_1_method_47_code
def yX11_refusalOf : MethodName := ⟨RX11, "refusalOf", "(I)I"⟩
abbrev cX11_readWeek : ByteArray := prog_1_method_48_code
def yX11_readWeek : MethodName := ⟨RX11, "readWeek", "(I)I"⟩
abbrev cX11_refusalAt : ByteArray := prog_1_method_49_code
def yX11_refusalAt : MethodName := ⟨RX11, "refusalAt", "(II)I"⟩
def RX12 : String := "SetAgainModel"
def TX12 : u_T := fun k => match k with
  | 0 => ("SetAgainModel", "may", "[I", true)
  | 1 => ("SetAgainModel", "changeAt", "[I", true)
  | 2 => ("SetAgainModel", "changeWas", "[I", true)
  | 3 => ("SetAgainModel", "changeIs", "[I", true)
  | 4 => ("SetAgainModel", "keptMany", "I", false)
  | 5 => ("SetAgainModel", "done", "I", false)
  | 6 => ("SetAgainModel", "sitters", "I", false)
  | 7 => ("SetAgainModel", "stands", "[I", true)
  | 8 => ("SetAgainModel", "tape", "[I", true)
  | 9 => ("SetAgainModel", "tapeMany", "I", false)
  | 10 => ("SetAgainModel", "text", "[I", true)
  | 11 => ("SetAgainModel", "textMany", "I", false)
  | 12 => ("SetAgainModel", "base", "I", false)
  | 13 => ("SetAgainModel", "at", "I", false)
  | 14 => ("SetAgainModel", "ends", "I", false)
  | 15 => ("SetAgainModel", "fault", "I", false)
  | 16 => ("SetAgainModel", "opened", "I", false)
  | 17 => ("SetAgainModel", "names", "[I", true)
  | 18 => ("SetAgainModel", "lossIn", "[I", true)
  | 19 => ("SetAgainModel", "leastFrom", "[I", true)
  | 20 => ("SetAgainModel", "nearOf", "I", false)
  | 21 => ("SetAgainModel", "nearIs", "I", false)
  | 22 => ("SetAgainModel", "memorySet", "I", false)
  | 23 => ("SetAgainModel", "isMarked", "Z", false)
  | 24 => ("SetAgainModel", "wilfulOf", "I", false)
  | 25 => ("SetAgainModel", "wilfulTo", "I", false)
  | 26 => ("SetAgainModel", "isIll", "[Z", true)
  | 27 => ("SetAgainModel", "stand1", "[I", true)
  | 28 => ("SetAgainModel", "standBehind", "[I", true)
  | 29 => ("SetAgainModel", "turnsAll", "I", false)
  | 30 => ("SetAgainModel", "lossesAll", "I", false)
  | 31 => ("SetAgainModel", "turnCosts", "I", false)
  | 32 => ("SetAgainModel", "lossAt", "[I", true)
  | 33 => ("SetAgainModel", "chairOf", "[I", true)
  | 34 => ("SetAgainModel", "bestChair", "[I", true)
  | 35 => ("SetAgainModel", "leastChairs", "I", false)
  | 36 => ("SetAgainModel", "canStand", "[Z", true)
  | 37 => ("SetAgainModel", "canGoOn", "[Z", true)
  | 38 => ("SetAgainModel", "ledShifts", "I", false)
  | 39 => ("SetAgainModel", "ledTurns", "I", false)
  | 40 => ("SetAgainModel", "ledLosses", "I", false)
  | 41 => ("SetAgainModel", "ledDearest", "I", false)
  | 42 => ("SetAgainModel", "ledWho", "I", false)
  | 43 => ("SetAgainModel", "isKept", "Z", false)
  | 44 => ("SetAgainModel", "image", "[I", true)
  | 45 => ("SetAgainModel", "bodies", "I", false)
  | 46 => ("SetAgainModel", "bodyKind", "[I", true)
  | 47 => ("SetAgainModel", "trace", "[I", true)
  | 48 => ("SetAgainModel", "ran", "I", false)
  | 49 => ("SetAgainModel", "ownKind", "I", false)
  | 50 => ("SetAgainModel", "ownNumber", "I", false)
  | 51 => ("SetAgainModel", "shelf", "[I", true)
  | 52 => ("SetAgainModel", "many", "[I", true)
  | 53 => ("SetAgainModel", "items", "[J", true)
  | _ => ("SetAgainModel", "carried", "[J", true)
def tyX12 : Nat → FieldType := fun k => match k with
  | 0 => .array .int
  | 1 => .array .int
  | 2 => .array .int
  | 3 => .array .int
  | 4 => .int
  | 5 => .int
  | 6 => .int
  | 7 => .array .int
  | 8 => .array .int
  | 9 => .int
  | 10 => .array .int
  | 11 => .int
  | 12 => .int
  | 13 => .int
  | 14 => .int
  | 15 => .int
  | 16 => .int
  | 17 => .array .int
  | 18 => .array .int
  | 19 => .array .int
  | 20 => .int
  | 21 => .int
  | 22 => .int
  | 23 => .boolean
  | 24 => .int
  | 25 => .int
  | 26 => .array .boolean
  | 27 => .array .int
  | 28 => .array .int
  | 29 => .int
  | 30 => .int
  | 31 => .int
  | 32 => .array .int
  | 33 => .array .int
  | 34 => .array .int
  | 35 => .int
  | 36 => .array .boolean
  | 37 => .array .boolean
  | 38 => .int
  | 39 => .int
  | 40 => .int
  | 41 => .int
  | 42 => .int
  | 43 => .boolean
  | 44 => .array .int
  | 45 => .int
  | 46 => .array .int
  | 47 => .array .int
  | 48 => .int
  | 49 => .int
  | 50 => .int
  | 51 => .array .int
  | 52 => .array .int
  | 53 => .array .long
  | _ => .array .long
abbrev wsX120 : List Cond := u_ws RX12 TX12 55
theorem nmX12 : ∀ a, a < 55 → ∀ b, b < 55 → a ≠ b → (TX12 a).2.1 ≠ (TX12 b).2.1 := by decide +kernel
theorem tyX12_ok : ∀ k, k < 55 → parseFieldDescriptor (TX12 k).2.2.1 = some (tyX12 k) := by decide +kernel
abbrev cX12_within : ByteArray := prog_14_method_1_code
def yX12_within : MethodName := ⟨RX12, "within", "(JJJ)Z"⟩
abbrev cX12_sizeOf : ByteArray := prog_14_method_2_code
def yX12_sizeOf : MethodName := ⟨RX12, "sizeOf", "(I)I"⟩
abbrev cX12_init : ByteArray := prog_14_method_5_code
def yX12_init : MethodName := ⟨RX12, "<init>", "()V"⟩
abbrev cX12_becomes : ByteArray := prog_14_method_6_code
def yX12_becomes : MethodName := ⟨RX12, "becomes", "(II)I"⟩
abbrev cX12_undo : ByteArray := prog_14_method_7_code
def yX12_undo : MethodName := ⟨RX12, "undo", "()I"⟩
abbrev cX12_redo : ByteArray := prog_14_method_8_code
def yX12_redo : MethodName := ⟨RX12, "redo", "()I"⟩
abbrev cX12_isSitter : ByteArray := prog_14_method_9_code
def yX12_isSitter : MethodName := ⟨RX12, "isSitter", "(J)Z"⟩
abbrev cX12_isPart : ByteArray := prog_14_method_10_code
def yX12_isPart : MethodName := ⟨RX12, "isPart", "(I)Z"⟩
abbrev cX12_isSetting : ByteArray := prog_14_method_11_code
def yX12_isSetting : MethodName := ⟨RX12, "isSetting", "(J)Z"⟩
abbrev cX12_adds : ByteArray := prog_14_method_13_code
def yX12_adds : MethodName := ⟨RX12, "adds", "(IIII)V"⟩
abbrev cX12_sitter : ByteArray := prog_14_method_14_code
def yX12_sitter : MethodName := ⟨RX12, "sitter", "(II)I"⟩
abbrev cX12_sitters : ByteArray := prog_14_method_15_code
def yX12_sitters : MethodName := ⟨RX12, "sitters", "(III)I"⟩
abbrev cX12_placeOf : ByteArray := prog_14_method_16_code
def yX12_placeOf : MethodName := ⟨RX12, "placeOf", "(II)I"⟩
abbrev cX12_mostOf : ByteArray := prog_14_method_17_code
def yX12_mostOf : MethodName := ⟨RX12, "mostOf", "(I)I"⟩
abbrev cX12_mend : ByteArray := prog_14_method_18_code
def yX12_mend : MethodName := ⟨RX12, "mend", "(III)I"⟩
abbrev cX12_of : ByteArray := prog_14_method_19_code
def yX12_of : MethodName := ⟨RX12, "of", "(II)I"⟩
abbrev cX12_feed : ByteArray := prog_14_method_20_code
def yX12_feed : MethodName := ⟨RX12, "feed", "(I)I"⟩
abbrev cX12_byteAt : ByteArray := prog_14_method_21_code
def yX12_byteAt : MethodName := ⟨RX12, "byteAt", "()I"⟩
abbrev cX12_wrong : ByteArray := prog_14_method_22_code
def yX12_wrong : MethodName := ⟨RX12, "wrong", "()I"⟩
abbrev cX12_takes : ByteArray := prog_14_method_23_code
def yX12_takes : MethodName := ⟨RX12, "takes", "(I)Z"⟩
abbrev cX12_either : ByteArray := prog_14_method_24_code
def yX12_either : MethodName := ⟨RX12, "either", "()I"⟩
abbrev cX12_both : ByteArray := prog_14_method_25_code
def yX12_both : MethodName := ⟨RX12, "both", "()I"⟩
abbrev cX12_compared : ByteArray := prog_14_method_26_code
def yX12_compared : MethodName := ⟨RX12, "compared", "()I"⟩
abbrev cX12_sums : ByteArray := prog_14_method_27_code
def yX12_sums : MethodName := ⟨RX12, "sums", "()I"⟩
abbrev cX12_product : ByteArray := prog_14_method_28_code
def yX12_product : MethodName := ⟨RX12, "product", "()I"⟩
abbrev cX12_nameOf : ByteArray := prog_14_method_29_code
def yX12_nameOf : MethodName := ⟨RX12, "nameOf", "(I)I"⟩
abbrev cX12_one : ByteArray := prog_14_method_30_code
def yX12_one : MethodName := ⟨RX12, "one", "()I"⟩
abbrev cX12_workOut : ByteArray := prog_14_method_31_code
def yX12_workOut : MethodName := ⟨RX12, "workOut", "(II)I"⟩
abbrev cX12_law : ByteArray := prog_14_method_32_code
def yX12_law : MethodName := ⟨RX12, "law", "()I"⟩
abbrev cX12_loss : ByteArray := prog_14_method_34_code
def yX12_loss : MethodName := ⟨RX12, "loss", "(III)I"⟩
abbrev cX12_bytesIs : ByteArray := prog_14_method_35_code
def yX12_bytesIs : MethodName := ⟨RX12, "bytesIs", "(I)I"⟩
abbrev cX12_never : ByteArray := prog_14_method_41_code
def yX12_never : MethodName := ⟨RX12, "never", "(III)I"⟩
abbrev cX12_best : ByteArray := prog_14_method_42_code
def yX12_best : MethodName := ⟨RX12, "best", "(III)I"⟩
abbrev cX12_middle : ByteArray := prog_14_method_46_code
def yX12_middle : MethodName := ⟨RX12, "middle", "(II)I"⟩
abbrev cX12_slipped : ByteArray := prog_14_method_48_code
def yX12_slipped : MethodName := ⟨RX12, "slipped", "(II)I"⟩
abbrev cX12_shifts : ByteArray := prog_14_method_50_code
def yX12_shifts : MethodName := ⟨RX12, "shifts", "(III)I"⟩
abbrev cX12_once : ByteArray := prog_14_method_51_code
def yX12_once : MethodName := ⟨RX12, "once", "(III)I"⟩
abbrev cX12_week : ByteArray := prog_14_method_58_code
def yX12_week : MethodName := ⟨RX12, "week", "(II)I"⟩
abbrev cX12_stands : ByteArray := prog_14_method_59_code
def yX12_stands : MethodName := ⟨RX12, "stands", "(III)I"⟩
abbrev cX12_pays : ByteArray := prog_14_method_60_code
def yX12_pays : MethodName := ⟨RX12, "pays", "(III)I"⟩
abbrev cX12_memories : ByteArray := prog_14_method_61_code
def yX12_memories : MethodName := ⟨RX12, "memories", "(III)I"⟩
abbrev cX12_marked : ByteArray := prog_14_method_62_code
def yX12_marked : MethodName := ⟨RX12, "marked", "(I)I"⟩
abbrev cX12_wilful : ByteArray := prog_14_method_63_code
def yX12_wilful : MethodName := ⟨RX12, "wilful", "(III)I"⟩
abbrev cX12_chairs : ByteArray := prog_14_method_67_code
def yX12_chairs : MethodName := ⟨RX12, "chairs", "(III)I"⟩
abbrev cX12_who : ByteArray := prog_14_method_71_code
def yX12_who : MethodName := ⟨RX12, "who", "(III)I"⟩
abbrev cX12_judge : ByteArray := prog_14_method_72_code
def yX12_judge : MethodName := ⟨RX12, "judge", "(II)I"⟩
abbrev cX12_drawn : ByteArray := prog_14_method_73_code
def yX12_drawn : MethodName := ⟨RX12, "drawn", "(IIII)I"⟩
abbrev cX12_sit : ByteArray := prog_14_method_74_code
def yX12_sit : MethodName := ⟨RX12, "sit", "(I)I"⟩
abbrev cX12_set : ByteArray := prog_14_method_75_code
def yX12_set : MethodName := ⟨RX12, "set", "(II)I"⟩
abbrev cX12_night : ByteArray := prog_14_method_76_code
def yX12_night : MethodName := ⟨RX12, "night", "()I"⟩
abbrev cX12_led : ByteArray := prog_14_method_77_code
def yX12_led : MethodName := ⟨RX12, "led", "(I)I"⟩
abbrev cX12_image : ByteArray := prog_14_method_78_code
def yX12_image : MethodName := ⟨RX12, "image", "()I"⟩
abbrev cX12_back : ByteArray := prog_14_method_79_code
def yX12_back : MethodName := ⟨RX12, "back", "()I"⟩
abbrev cX12_isBody : ByteArray := prog_14_method_80_code
def yX12_isBody : MethodName := ⟨RX12, "isBody", "(I)Z"⟩
abbrev cX12_body : ByteArray := prog_14_method_82_code
def yX12_body : MethodName := ⟨RX12, "body", "(I)I"⟩
abbrev cX12_act : ByteArray := prog_14_method_89_code
def yX12_act : MethodName := ⟨RX12, "act", "(III)I"⟩
abbrev cX12_trace : ByteArray := prog_14_method_90_code
def yX12_trace : MethodName := ⟨RX12, "trace", "(I)I"⟩
abbrev cX12_isShelf : ByteArray := prog_14_method_91_code
def yX12_isShelf : MethodName := ⟨RX12, "isShelf", "(I)Z"⟩
abbrev cX12_keep : ByteArray := prog_14_method_92_code
def yX12_keep : MethodName := ⟨RX12, "keep", "(II)I"⟩
abbrev cX12_row : ByteArray := prog_14_method_93_code
def yX12_row : MethodName := ⟨RX12, "row", "(III)I"⟩
abbrev cX12_refusal : ByteArray := prog_14_method_94_code
def yX12_refusal : MethodName := ⟨RX12, "refusal", "(II)I"⟩
abbrev cX12_put : ByteArray := prog_14_method_96_code
def yX12_put : MethodName := ⟨RX12, "put", "(IIJ)I"⟩
abbrev cX12_element : ByteArray := prog_14_method_97_code
def yX12_element : MethodName := ⟨RX12, "element", "(II)J"⟩
abbrev cX12_shift : ByteArray := prog_14_method_98_code
def yX12_shift : MethodName := ⟨RX12, "shift", "(IIIII)I"⟩
abbrev cX12_taken : ByteArray := prog_14_method_99_code
def yX12_taken : MethodName := ⟨RX12, "taken", "(II)I"⟩
abbrev cX12_count : ByteArray := prog_14_method_100_code
def yX12_count : MethodName := ⟨RX12, "count", "(I)I"⟩
def RL : String := "SetAgainLaw"
abbrev cL_law : ByteArray := code
theorem dX0_init_0 : decode cX0_init 0 = .ok (.aload_n 0, 1) := by decide +kernel
theorem dX0_init_1 : decode cX0_init 1 = .ok (.invokespecial 5, 3) := by decide +kernel
theorem dX0_init_4 : decode cX0_init 4 = .ok (.aload_n 0, 1) := by decide +kernel
theorem dX0_init_5 : decode cX0_init 5 = .ok (.bipush 71, 2) := by decide +kernel
theorem dX0_init_7 : decode cX0_init 7 = .ok (.newarray .int, 2) := by decide +kernel
theorem dX0_init_9 : decode cX0_init 9 = .ok (.putfield 11, 3) := by decide +kernel
theorem dX0_init_12 : decode cX0_init 12 = .ok (.aload_n 0, 1) := by decide +kernel
theorem dX0_init_13 : decode cX0_init 13 = .ok (.iconst 3, 1) := by decide +kernel
theorem dX0_init_14 : decode cX0_init 14 = .ok (.newarray .int, 2) := by decide +kernel
theorem dX0_init_16 : decode cX0_init 16 = .ok (.putfield 15, 3) := by decide +kernel
theorem dX0_init_19 : decode cX0_init 19 = .ok (.aload_n 0, 1) := by decide +kernel
theorem dX0_init_20 : decode cX0_init 20 = .ok (.new 18, 3) := by decide +kernel
theorem dX0_init_23 : decode cX0_init 23 = .ok (.dup, 1) := by decide +kernel
theorem dX0_init_24 : decode cX0_init 24 = .ok (.invokespecial 20, 3) := by decide +kernel
theorem dX0_init_27 : decode cX0_init 27 = .ok (.putfield 21, 3) := by decide +kernel
theorem dX0_init_30 : decode cX0_init 30 = .ok (.aload_n 0, 1) := by decide +kernel
theorem dX0_init_31 : decode cX0_init 31 = .ok (.sipush 1464, 3) := by decide +kernel
theorem dX0_init_34 : decode cX0_init 34 = .ok (.newarray .int, 2) := by decide +kernel
theorem dX0_init_36 : decode cX0_init 36 = .ok (.putfield 25, 3) := by decide +kernel
theorem dX0_init_39 : decode cX0_init 39 = .ok (.iconst 0, 1) := by decide +kernel
theorem dX0_init_40 : decode cX0_init 40 = .ok (.istore_n 1, 1) := by decide +kernel
theorem dX0_init_41 : decode cX0_init 41 = .ok (.iload_n 1, 1) := by decide +kernel
theorem dX0_init_42 : decode cX0_init 42 = .ok (.iconst 3, 1) := by decide +kernel
theorem dX0_init_43 : decode cX0_init 43 = .ok (.if_icmp .ge 27, 3) := by decide +kernel
theorem dX0_init_46 : decode cX0_init 46 = .ok (.aload_n 0, 1) := by decide +kernel
theorem dX0_init_47 : decode cX0_init 47 = .ok (.getfield 15, 3) := by decide +kernel
theorem dX0_init_50 : decode cX0_init 50 = .ok (.iload_n 1, 1) := by decide +kernel
theorem dX0_init_51 : decode cX0_init 51 = .ok (.bipush 30, 2) := by decide +kernel
theorem dX0_init_53 : decode cX0_init 53 = .ok (.iastore, 1) := by decide +kernel
theorem dX0_init_54 : decode cX0_init 54 = .ok (.aload_n 0, 1) := by decide +kernel
theorem dX0_init_55 : decode cX0_init 55 = .ok (.getfield 11, 3) := by decide +kernel
theorem dX0_init_58 : decode cX0_init 58 = .ok (.bipush 67, 2) := by decide +kernel
theorem dX0_init_60 : decode cX0_init 60 = .ok (.iload_n 1, 1) := by decide +kernel
theorem dX0_init_61 : decode cX0_init 61 = .ok (.iadd, 1) := by decide +kernel
theorem dX0_init_62 : decode cX0_init 62 = .ok (.iconst 1, 1) := by decide +kernel
theorem dX0_init_63 : decode cX0_init 63 = .ok (.iastore, 1) := by decide +kernel
theorem dX0_init_64 : decode cX0_init 64 = .ok (.iinc 1 1, 3) := by decide +kernel
theorem dX0_init_67 : decode cX0_init 67 = .ok (.goto (-26), 3) := by decide +kernel
theorem dX0_init_70 : decode cX0_init 70 = .ok (.aload_n 0, 1) := by decide +kernel
theorem dX0_init_71 : decode cX0_init 71 = .ok (.getfield 11, 3) := by decide +kernel
theorem dX0_init_74 : decode cX0_init 74 = .ok (.bipush 70, 2) := by decide +kernel
theorem dX0_init_76 : decode cX0_init 76 = .ok (.iconst 3, 1) := by decide +kernel
theorem dX0_init_77 : decode cX0_init 77 = .ok (.iastore, 1) := by decide +kernel
theorem dX0_init_78 : decode cX0_init 78 = .ok (.return_, 1) := by decide +kernel
theorem dX0_has_0 : decode cX0_has 0 = .ok (.iload_n 1, 1) := by decide +kernel
theorem dX0_has_1 : decode cX0_has 1 = .ok (.ifCond .lt 15, 3) := by decide +kernel
theorem dX0_has_4 : decode cX0_has 4 = .ok (.iload_n 1, 1) := by decide +kernel
theorem dX0_has_5 : decode cX0_has 5 = .ok (.aload_n 0, 1) := by decide +kernel
theorem dX0_has_6 : decode cX0_has 6 = .ok (.getfield 28, 3) := by decide +kernel
theorem dX0_has_9 : decode cX0_has 9 = .ok (.if_icmp .ge 7, 3) := by decide +kernel
theorem dX0_has_16 : decode cX0_has 16 = .ok (.iconst 0, 1) := by decide +kernel
theorem dX0_has_17 : decode cX0_has 17 = .ok (.ireturn, 1) := by decide +kernel
theorem dX0_placeOf_0 : decode cX0_placeOf 0 = .ok (.iload_n 1, 1) := by decide +kernel
theorem dX0_placeOf_1 : decode cX0_placeOf 1 = .ok (.ifCond .lt 13, 3) := by decide +kernel
theorem dX0_placeOf_4 : decode cX0_placeOf 4 = .ok (.iload_n 2, 1) := by decide +kernel
theorem dX0_placeOf_5 : decode cX0_placeOf 5 = .ok (.ifCond .lt 9, 3) := by decide +kernel
theorem dX0_placeOf_8 : decode cX0_placeOf 8 = .ok (.iload_n 2, 1) := by decide +kernel
theorem dX0_placeOf_9 : decode cX0_placeOf 9 = .ok (.bipush 10, 2) := by decide +kernel
theorem dX0_placeOf_11 : decode cX0_placeOf 11 = .ok (.if_icmp .le 5, 3) := by decide +kernel
theorem dX0_placeOf_14 : decode cX0_placeOf 14 = .ok (.iconst (-1), 1) := by decide +kernel
theorem dX0_placeOf_15 : decode cX0_placeOf 15 = .ok (.ireturn, 1) := by decide +kernel
theorem dX0_placeOf_16 : decode cX0_placeOf 16 = .ok (.iload_n 2, 1) := by decide +kernel
theorem dX0_placeOf_17 : decode cX0_placeOf 17 = .ok (.bipush 8, 2) := by decide +kernel
theorem dX0_placeOf_19 : decode cX0_placeOf 19 = .ok (.if_icmp .ge 22, 3) := by decide +kernel
theorem dX0_placeOf_22 : decode cX0_placeOf 22 = .ok (.iload_n 1, 1) := by decide +kernel
theorem dX0_placeOf_23 : decode cX0_placeOf 23 = .ok (.aload_n 0, 1) := by decide +kernel
theorem dX0_placeOf_24 : decode cX0_placeOf 24 = .ok (.getfield 28, 3) := by decide +kernel
theorem dX0_placeOf_27 : decode cX0_placeOf 27 = .ok (.if_icmp .ge 12, 3) := by decide +kernel
theorem dX0_placeOf_39 : decode cX0_placeOf 39 = .ok (.iconst (-1), 1) := by decide +kernel
theorem dX0_placeOf_40 : decode cX0_placeOf 40 = .ok (.ireturn, 1) := by decide +kernel
theorem dX0_placeOf_41 : decode cX0_placeOf 41 = .ok (.iload_n 2, 1) := by decide +kernel
theorem dX0_placeOf_42 : decode cX0_placeOf 42 = .ok (.bipush 10, 2) := by decide +kernel
theorem dX0_placeOf_44 : decode cX0_placeOf 44 = .ok (.if_icmp .ne 14, 3) := by decide +kernel
theorem dX0_placeOf_47 : decode cX0_placeOf 47 = .ok (.iload_n 1, 1) := by decide +kernel
theorem dX0_placeOf_48 : decode cX0_placeOf 48 = .ok (.ifCond .ne 8, 3) := by decide +kernel
theorem dX0_placeOf_51 : decode cX0_placeOf 51 = .ok (.bipush 70, 2) := by decide +kernel
theorem dX0_placeOf_53 : decode cX0_placeOf 53 = .ok (.goto 4, 3) := by decide +kernel
theorem dX0_placeOf_56 : decode cX0_placeOf 56 = .ok (.iconst (-1), 1) := by decide +kernel
theorem dX0_placeOf_57 : decode cX0_placeOf 57 = .ok (.ireturn, 1) := by decide +kernel
theorem dX0_placeOf_58 : decode cX0_placeOf 58 = .ok (.iload_n 1, 1) := by decide +kernel
theorem dX0_placeOf_59 : decode cX0_placeOf 59 = .ok (.iconst 3, 1) := by decide +kernel
theorem dX0_placeOf_60 : decode cX0_placeOf 60 = .ok (.if_icmp .lt 5, 3) := by decide +kernel
theorem dX0_placeOf_63 : decode cX0_placeOf 63 = .ok (.iconst (-1), 1) := by decide +kernel
theorem dX0_placeOf_64 : decode cX0_placeOf 64 = .ok (.ireturn, 1) := by decide +kernel
theorem dX0_placeOf_65 : decode cX0_placeOf 65 = .ok (.iload_n 2, 1) := by decide +kernel
theorem dX0_placeOf_66 : decode cX0_placeOf 66 = .ok (.bipush 9, 2) := by decide +kernel
theorem dX0_placeOf_68 : decode cX0_placeOf 68 = .ok (.if_icmp .ne 8, 3) := by decide +kernel
theorem dX0_placeOf_71 : decode cX0_placeOf 71 = .ok (.bipush 67, 2) := by decide +kernel
theorem dX0_placeOf_73 : decode cX0_placeOf 73 = .ok (.goto 5, 3) := by decide +kernel
theorem dX0_placeOf_76 : decode cX0_placeOf 76 = .ok (.bipush 64, 2) := by decide +kernel
theorem dX0_placeOf_78 : decode cX0_placeOf 78 = .ok (.iload_n 1, 1) := by decide +kernel
theorem dX0_placeOf_79 : decode cX0_placeOf 79 = .ok (.iadd, 1) := by decide +kernel
theorem dX0_placeOf_80 : decode cX0_placeOf 80 = .ok (.ireturn, 1) := by decide +kernel
theorem dX0_comes_0 : decode cX0_comes 0 = .ok (.aload_n 0, 1) := by decide +kernel
theorem dX0_comes_1 : decode cX0_comes 1 = .ok (.getfield 28, 3) := by decide +kernel
theorem dX0_comes_4 : decode cX0_comes 4 = .ok (.bipush 8, 2) := by decide +kernel
theorem dX0_comes_6 : decode cX0_comes 6 = .ok (.if_icmp .lt 6, 3) := by decide +kernel
theorem dX0_comes_12 : decode cX0_comes 12 = .ok (.aload_n 0, 1) := by decide +kernel
theorem dX0_comes_13 : decode cX0_comes 13 = .ok (.getfield 28, 3) := by decide +kernel
theorem dX0_comes_16 : decode cX0_comes 16 = .ok (.bipush 8, 2) := by decide +kernel
theorem dX0_comes_18 : decode cX0_comes 18 = .ok (.imul, 1) := by decide +kernel
theorem dX0_comes_19 : decode cX0_comes 19 = .ok (.istore 5, 2) := by decide +kernel
theorem dX0_comes_21 : decode cX0_comes 21 = .ok (.aload_n 0, 1) := by decide +kernel
theorem dX0_comes_22 : decode cX0_comes 22 = .ok (.getfield 11, 3) := by decide +kernel
theorem dX0_comes_25 : decode cX0_comes 25 = .ok (.iload 5, 2) := by decide +kernel
theorem dX0_comes_27 : decode cX0_comes 27 = .ok (.iload_n 1, 1) := by decide +kernel
theorem dX0_comes_28 : decode cX0_comes 28 = .ok (.iastore, 1) := by decide +kernel
theorem dX0_comes_29 : decode cX0_comes 29 = .ok (.aload_n 0, 1) := by decide +kernel
theorem dX0_comes_30 : decode cX0_comes 30 = .ok (.getfield 11, 3) := by decide +kernel
theorem dX0_comes_33 : decode cX0_comes 33 = .ok (.iload 5, 2) := by decide +kernel
theorem dX0_comes_35 : decode cX0_comes 35 = .ok (.iconst 1, 1) := by decide +kernel
theorem dX0_comes_36 : decode cX0_comes 36 = .ok (.iadd, 1) := by decide +kernel
theorem dX0_comes_37 : decode cX0_comes 37 = .ok (.iload_n 2, 1) := by decide +kernel
theorem dX0_comes_38 : decode cX0_comes 38 = .ok (.iastore, 1) := by decide +kernel
theorem dX0_comes_39 : decode cX0_comes 39 = .ok (.aload_n 0, 1) := by decide +kernel
theorem dX0_comes_40 : decode cX0_comes 40 = .ok (.getfield 11, 3) := by decide +kernel
theorem dX0_comes_43 : decode cX0_comes 43 = .ok (.iload 5, 2) := by decide +kernel
theorem dX0_comes_45 : decode cX0_comes 45 = .ok (.iconst 2, 1) := by decide +kernel
theorem dX0_comes_46 : decode cX0_comes 46 = .ok (.iadd, 1) := by decide +kernel
theorem dX0_comes_47 : decode cX0_comes 47 = .ok (.iload_n 3, 1) := by decide +kernel
theorem dX0_comes_48 : decode cX0_comes 48 = .ok (.iastore, 1) := by decide +kernel
theorem dX0_comes_49 : decode cX0_comes 49 = .ok (.aload_n 0, 1) := by decide +kernel
theorem dX0_comes_50 : decode cX0_comes 50 = .ok (.getfield 11, 3) := by decide +kernel
theorem dX0_comes_53 : decode cX0_comes 53 = .ok (.iload 5, 2) := by decide +kernel
theorem dX0_comes_55 : decode cX0_comes 55 = .ok (.iconst 3, 1) := by decide +kernel
theorem dX0_comes_56 : decode cX0_comes 56 = .ok (.iadd, 1) := by decide +kernel
theorem dX0_comes_57 : decode cX0_comes 57 = .ok (.iconst 1, 1) := by decide +kernel
theorem dX0_comes_58 : decode cX0_comes 58 = .ok (.iastore, 1) := by decide +kernel
theorem dX0_comes_59 : decode cX0_comes 59 = .ok (.aload_n 0, 1) := by decide +kernel
theorem dX0_comes_60 : decode cX0_comes 60 = .ok (.getfield 11, 3) := by decide +kernel
theorem dX0_comes_63 : decode cX0_comes 63 = .ok (.iload 5, 2) := by decide +kernel
theorem dX0_comes_65 : decode cX0_comes 65 = .ok (.iconst 4, 1) := by decide +kernel
theorem dX0_comes_66 : decode cX0_comes 66 = .ok (.iadd, 1) := by decide +kernel
theorem dX0_comes_67 : decode cX0_comes 67 = .ok (.iconst 1, 1) := by decide +kernel
theorem dX0_comes_68 : decode cX0_comes 68 = .ok (.iastore, 1) := by decide +kernel
theorem dX0_comes_69 : decode cX0_comes 69 = .ok (.aload_n 0, 1) := by decide +kernel
theorem dX0_comes_70 : decode cX0_comes 70 = .ok (.getfield 11, 3) := by decide +kernel
theorem dX0_comes_73 : decode cX0_comes 73 = .ok (.iload 5, 2) := by decide +kernel
theorem dX0_comes_75 : decode cX0_comes 75 = .ok (.iconst 5, 1) := by decide +kernel
theorem dX0_comes_76 : decode cX0_comes 76 = .ok (.iadd, 1) := by decide +kernel
theorem dX0_comes_77 : decode cX0_comes 77 = .ok (.iload 4, 2) := by decide +kernel
theorem dX0_comes_79 : decode cX0_comes 79 = .ok (.iastore, 1) := by decide +kernel
theorem dX0_comes_80 : decode cX0_comes 80 = .ok (.aload_n 0, 1) := by decide +kernel
theorem dX0_comes_81 : decode cX0_comes 81 = .ok (.aload_n 0, 1) := by decide +kernel
theorem dX0_comes_82 : decode cX0_comes 82 = .ok (.getfield 28, 3) := by decide +kernel
theorem dX0_comes_85 : decode cX0_comes 85 = .ok (.invokevirtual 32, 3) := by decide +kernel
theorem dX0_comes_88 : decode cX0_comes 88 = .ok (.aload_n 0, 1) := by decide +kernel
theorem dX0_comes_89 : decode cX0_comes 89 = .ok (.dup, 1) := by decide +kernel
theorem dX0_comes_90 : decode cX0_comes 90 = .ok (.getfield 28, 3) := by decide +kernel
theorem dX0_comes_93 : decode cX0_comes 93 = .ok (.iconst 1, 1) := by decide +kernel
theorem dX0_comes_94 : decode cX0_comes 94 = .ok (.iadd, 1) := by decide +kernel
theorem dX0_comes_95 : decode cX0_comes 95 = .ok (.putfield 28, 3) := by decide +kernel
theorem dX0_comes_98 : decode cX0_comes 98 = .ok (.aload_n 0, 1) := by decide +kernel
theorem dX0_comes_99 : decode cX0_comes 99 = .ok (.getfield 28, 3) := by decide +kernel
theorem dX0_comes_102 : decode cX0_comes 102 = .ok (.iconst 1, 1) := by decide +kernel
theorem dX0_comes_103 : decode cX0_comes 103 = .ok (.isub, 1) := by decide +kernel
theorem dX0_comes_104 : decode cX0_comes 104 = .ok (.ireturn, 1) := by decide +kernel
theorem dX0_becomes_0 : decode cX0_becomes 0 = .ok (.iload_n 1, 1) := by decide +kernel
theorem dX0_becomes_1 : decode cX0_becomes 1 = .ok (.ifCond .lt 9, 3) := by decide +kernel
theorem dX0_becomes_4 : decode cX0_becomes 4 = .ok (.iload_n 1, 1) := by decide +kernel
theorem dX0_becomes_5 : decode cX0_becomes 5 = .ok (.bipush 70, 2) := by decide +kernel
theorem dX0_becomes_7 : decode cX0_becomes 7 = .ok (.if_icmp .le 4, 3) := by decide +kernel
theorem dX0_becomes_11 : decode cX0_becomes 11 = .ok (.aload_n 0, 1) := by decide +kernel
theorem dX0_becomes_12 : decode cX0_becomes 12 = .ok (.getfield 11, 3) := by decide +kernel
theorem dX0_becomes_15 : decode cX0_becomes 15 = .ok (.iload_n 1, 1) := by decide +kernel
theorem dX0_becomes_16 : decode cX0_becomes 16 = .ok (.iload_n 2, 1) := by decide +kernel
theorem dX0_becomes_17 : decode cX0_becomes 17 = .ok (.iastore, 1) := by decide +kernel
theorem dX0_becomes_18 : decode cX0_becomes 18 = .ok (.iload_n 1, 1) := by decide +kernel
theorem dX0_becomes_19 : decode cX0_becomes 19 = .ok (.bipush 64, 2) := by decide +kernel
theorem dX0_becomes_21 : decode cX0_becomes 21 = .ok (.if_icmp .ge 11, 3) := by decide +kernel
theorem dX0_becomes_32 : decode cX0_becomes 32 = .ok (.return_, 1) := by decide +kernel
theorem dX0_slipped_0 : decode cX0_slipped 0 = .ok (.iconst 0, 1) := by decide +kernel
theorem dX0_slipped_1 : decode cX0_slipped 1 = .ok (.iload_n 2, 1) := by decide +kernel
theorem dX0_slipped_2 : decode cX0_slipped 2 = .ok (.aload_n 0, 1) := by decide +kernel
theorem dX0_slipped_3 : decode cX0_slipped 3 = .ok (.getfield 11, 3) := by decide +kernel
theorem dX0_slipped_6 : decode cX0_slipped 6 = .ok (.bipush 64, 2) := by decide +kernel
theorem dX0_slipped_8 : decode cX0_slipped 8 = .ok (.iload_n 1, 1) := by decide +kernel
theorem dX0_slipped_9 : decode cX0_slipped 9 = .ok (.iadd, 1) := by decide +kernel
theorem dX0_slipped_10 : decode cX0_slipped 10 = .ok (.iaload, 1) := by decide +kernel
theorem dX0_slipped_11 : decode cX0_slipped 11 = .ok (.isub, 1) := by decide +kernel
theorem dX0_slipped_12 : decode cX0_slipped 12 = .ok (.invokestatic 36, 3) := by decide +kernel
theorem dX0_slipped_15 : decode cX0_slipped 15 = .ok (.ireturn, 1) := by decide +kernel
theorem dX0_forget_0 : decode cX0_forget 0 = .ok (.iload_n 1, 1) := by decide +kernel
theorem dX0_forget_1 : decode cX0_forget 1 = .ok (.iconst 1, 1) := by decide +kernel
theorem dX0_forget_2 : decode cX0_forget 2 = .ok (.iadd, 1) := by decide +kernel
theorem dX0_forget_3 : decode cX0_forget 3 = .ok (.sipush 183, 3) := by decide +kernel
theorem dX0_forget_6 : decode cX0_forget 6 = .ok (.imul, 1) := by decide +kernel
theorem dX0_forget_7 : decode cX0_forget 7 = .ok (.istore_n 2, 1) := by decide +kernel
theorem dX0_forget_8 : decode cX0_forget 8 = .ok (.iload_n 1, 1) := by decide +kernel
theorem dX0_forget_9 : decode cX0_forget 9 = .ok (.sipush 183, 3) := by decide +kernel
theorem dX0_forget_12 : decode cX0_forget 12 = .ok (.imul, 1) := by decide +kernel
theorem dX0_forget_13 : decode cX0_forget 13 = .ok (.istore_n 3, 1) := by decide +kernel
theorem dX0_forget_14 : decode cX0_forget 14 = .ok (.iload_n 3, 1) := by decide +kernel
theorem dX0_forget_15 : decode cX0_forget 15 = .ok (.iload_n 2, 1) := by decide +kernel
theorem dX0_forget_16 : decode cX0_forget 16 = .ok (.if_icmp .ge 16, 3) := by decide +kernel
theorem dX0_forget_19 : decode cX0_forget 19 = .ok (.aload_n 0, 1) := by decide +kernel
theorem dX0_forget_20 : decode cX0_forget 20 = .ok (.getfield 25, 3) := by decide +kernel
theorem dX0_forget_23 : decode cX0_forget 23 = .ok (.iload_n 3, 1) := by decide +kernel
theorem dX0_forget_24 : decode cX0_forget 24 = .ok (.iconst (-1), 1) := by decide +kernel
theorem dX0_forget_25 : decode cX0_forget 25 = .ok (.iastore, 1) := by decide +kernel
theorem dX0_forget_26 : decode cX0_forget 26 = .ok (.iinc 3 1, 3) := by decide +kernel
theorem dX0_forget_29 : decode cX0_forget 29 = .ok (.goto (-15), 3) := by decide +kernel
theorem dX0_forget_32 : decode cX0_forget 32 = .ok (.return_, 1) := by decide +kernel
theorem dX1_init_0 : decode cX1_init 0 = .ok (.aload_n 0, 1) := by decide +kernel
theorem dX1_init_1 : decode cX1_init 1 = .ok (.invokespecial 1, 3) := by decide +kernel
theorem dX1_init_4 : decode cX1_init 4 = .ok (.aload_n 0, 1) := by decide +kernel
theorem dX1_init_5 : decode cX1_init 5 = .ok (.bipush 40, 2) := by decide +kernel
theorem dX1_init_7 : decode cX1_init 7 = .ok (.newarray .int, 2) := by decide +kernel
theorem dX1_init_9 : decode cX1_init 9 = .ok (.putfield 9, 3) := by decide +kernel
theorem dX1_init_12 : decode cX1_init 12 = .ok (.aload_n 0, 1) := by decide +kernel
theorem dX1_init_13 : decode cX1_init 13 = .ok (.bipush 40, 2) := by decide +kernel
theorem dX1_init_15 : decode cX1_init 15 = .ok (.newarray .int, 2) := by decide +kernel
theorem dX1_init_17 : decode cX1_init 17 = .ok (.putfield 13, 3) := by decide +kernel
theorem dX1_init_20 : decode cX1_init 20 = .ok (.aload_n 0, 1) := by decide +kernel
theorem dX1_init_21 : decode cX1_init 21 = .ok (.bipush 40, 2) := by decide +kernel
theorem dX1_init_23 : decode cX1_init 23 = .ok (.newarray .int, 2) := by decide +kernel
theorem dX1_init_25 : decode cX1_init 25 = .ok (.putfield 16, 3) := by decide +kernel
theorem dX1_init_28 : decode cX1_init 28 = .ok (.return_, 1) := by decide +kernel
theorem dX1_comes_0 : decode cX1_comes 0 = .ok (.aload_n 0, 1) := by decide +kernel
theorem dX1_comes_1 : decode cX1_comes 1 = .ok (.getfield 19, 3) := by decide +kernel
theorem dX1_comes_4 : decode cX1_comes 4 = .ok (.bipush 40, 2) := by decide +kernel
theorem dX1_comes_6 : decode cX1_comes 6 = .ok (.if_icmp .ne 7, 3) := by decide +kernel
theorem dX1_comes_13 : decode cX1_comes 13 = .ok (.aload_n 0, 1) := by decide +kernel
theorem dX1_comes_14 : decode cX1_comes 14 = .ok (.getfield 9, 3) := by decide +kernel
theorem dX1_comes_17 : decode cX1_comes 17 = .ok (.aload_n 0, 1) := by decide +kernel
theorem dX1_comes_18 : decode cX1_comes 18 = .ok (.getfield 19, 3) := by decide +kernel
theorem dX1_comes_21 : decode cX1_comes 21 = .ok (.iload_n 1, 1) := by decide +kernel
theorem dX1_comes_22 : decode cX1_comes 22 = .ok (.iastore, 1) := by decide +kernel
theorem dX1_comes_23 : decode cX1_comes 23 = .ok (.aload_n 0, 1) := by decide +kernel
theorem dX1_comes_24 : decode cX1_comes 24 = .ok (.getfield 13, 3) := by decide +kernel
theorem dX1_comes_27 : decode cX1_comes 27 = .ok (.aload_n 0, 1) := by decide +kernel
theorem dX1_comes_28 : decode cX1_comes 28 = .ok (.getfield 19, 3) := by decide +kernel
theorem dX1_comes_31 : decode cX1_comes 31 = .ok (.iload_n 2, 1) := by decide +kernel
theorem dX1_comes_32 : decode cX1_comes 32 = .ok (.iastore, 1) := by decide +kernel
theorem dX1_comes_33 : decode cX1_comes 33 = .ok (.aload_n 0, 1) := by decide +kernel
theorem dX1_comes_34 : decode cX1_comes 34 = .ok (.getfield 16, 3) := by decide +kernel
theorem dX1_comes_37 : decode cX1_comes 37 = .ok (.aload_n 0, 1) := by decide +kernel
theorem dX1_comes_38 : decode cX1_comes 38 = .ok (.getfield 19, 3) := by decide +kernel
theorem dX1_comes_41 : decode cX1_comes 41 = .ok (.iload_n 3, 1) := by decide +kernel
theorem dX1_comes_42 : decode cX1_comes 42 = .ok (.iastore, 1) := by decide +kernel
theorem dX1_comes_43 : decode cX1_comes 43 = .ok (.aload_n 0, 1) := by decide +kernel
theorem dX1_comes_44 : decode cX1_comes 44 = .ok (.dup, 1) := by decide +kernel
theorem dX1_comes_45 : decode cX1_comes 45 = .ok (.getfield 19, 3) := by decide +kernel
theorem dX1_comes_48 : decode cX1_comes 48 = .ok (.iconst 1, 1) := by decide +kernel
theorem dX1_comes_49 : decode cX1_comes 49 = .ok (.iadd, 1) := by decide +kernel
theorem dX1_comes_50 : decode cX1_comes 50 = .ok (.putfield 19, 3) := by decide +kernel
theorem dX1_comes_53 : decode cX1_comes 53 = .ok (.aload_n 0, 1) := by decide +kernel
theorem dX1_comes_54 : decode cX1_comes 54 = .ok (.aload_n 0, 1) := by decide +kernel
theorem dX1_comes_55 : decode cX1_comes 55 = .ok (.getfield 19, 3) := by decide +kernel
theorem dX1_comes_58 : decode cX1_comes 58 = .ok (.putfield 26, 3) := by decide +kernel
theorem dX1_comes_61 : decode cX1_comes 61 = .ok (.return_, 1) := by decide +kernel
theorem dX2_init_0 : decode cX2_init 0 = .ok (.aload_n 0, 1) := by decide +kernel
theorem dX2_init_1 : decode cX2_init 1 = .ok (.invokespecial 3, 3) := by decide +kernel
theorem dX2_init_4 : decode cX2_init 4 = .ok (.aload_n 0, 1) := by decide +kernel
theorem dX2_init_5 : decode cX2_init 5 = .ok (.iconst 5, 1) := by decide +kernel
theorem dX2_init_6 : decode cX2_init 6 = .ok (.newarray .int, 2) := by decide +kernel
theorem dX2_init_8 : decode cX2_init 8 = .ok (.putfield 11, 3) := by decide +kernel
theorem dX2_init_11 : decode cX2_init 11 = .ok (.aload_n 0, 1) := by decide +kernel
theorem dX2_init_12 : decode cX2_init 12 = .ok (.iconst 5, 1) := by decide +kernel
theorem dX2_init_13 : decode cX2_init 13 = .ok (.newarray .int, 2) := by decide +kernel
theorem dX2_init_15 : decode cX2_init 15 = .ok (.putfield 15, 3) := by decide +kernel
theorem dX2_init_18 : decode cX2_init 18 = .ok (.aload_n 0, 1) := by decide +kernel
theorem dX2_init_19 : decode cX2_init 19 = .ok (.iconst 3, 1) := by decide +kernel
theorem dX2_init_20 : decode cX2_init 20 = .ok (.newarray .int, 2) := by decide +kernel
theorem dX2_init_22 : decode cX2_init 22 = .ok (.putfield 18, 3) := by decide +kernel
theorem dX2_init_25 : decode cX2_init 25 = .ok (.aload_n 0, 1) := by decide +kernel
theorem dX2_init_26 : decode cX2_init 26 = .ok (.aload_n 1, 1) := by decide +kernel
theorem dX2_init_27 : decode cX2_init 27 = .ok (.putfield 21, 3) := by decide +kernel
theorem dX2_init_30 : decode cX2_init 30 = .ok (.aload_n 0, 1) := by decide +kernel
theorem dX2_init_31 : decode cX2_init 31 = .ok (.aload_n 2, 1) := by decide +kernel
theorem dX2_init_32 : decode cX2_init 32 = .ok (.putfield 25, 3) := by decide +kernel
theorem dX2_init_35 : decode cX2_init 35 = .ok (.aload_n 0, 1) := by decide +kernel
theorem dX2_init_36 : decode cX2_init 36 = .ok (.getfield 11, 3) := by decide +kernel
theorem dX2_init_39 : decode cX2_init 39 = .ok (.iconst 4, 1) := by decide +kernel
theorem dX2_init_40 : decode cX2_init 40 = .ok (.bipush (-2), 2) := by decide +kernel
theorem dX2_init_42 : decode cX2_init 42 = .ok (.iastore, 1) := by decide +kernel
theorem dX2_init_43 : decode cX2_init 43 = .ok (.return_, 1) := by decide +kernel
theorem dX2_turns_0 : decode cX2_turns 0 = .ok (.iload_n 2, 1) := by decide +kernel
theorem dX2_turns_1 : decode cX2_turns 1 = .ok (.aload_n 0, 1) := by decide +kernel
theorem dX2_turns_2 : decode cX2_turns 2 = .ok (.getfield 21, 3) := by decide +kernel
theorem dX2_turns_5 : decode cX2_turns 5 = .ok (.getfield 41, 3) := by decide +kernel
theorem dX2_turns_8 : decode cX2_turns 8 = .ok (.iload_n 1, 1) := by decide +kernel
theorem dX2_turns_9 : decode cX2_turns 9 = .ok (.iaload, 1) := by decide +kernel
theorem dX2_turns_10 : decode cX2_turns 10 = .ok (.isub, 1) := by decide +kernel
theorem dX2_turns_11 : decode cX2_turns 11 = .ok (.invokestatic 63, 3) := by decide +kernel
theorem dX2_turns_14 : decode cX2_turns 14 = .ok (.istore_n 3, 1) := by decide +kernel
theorem dX2_turns_15 : decode cX2_turns 15 = .ok (.aload_n 0, 1) := by decide +kernel
theorem dX2_turns_16 : decode cX2_turns 16 = .ok (.getfield 21, 3) := by decide +kernel
theorem dX2_turns_19 : decode cX2_turns 19 = .ok (.getfield 41, 3) := by decide +kernel
theorem dX2_turns_22 : decode cX2_turns 22 = .ok (.iload_n 1, 1) := by decide +kernel
theorem dX2_turns_23 : decode cX2_turns 23 = .ok (.iload_n 2, 1) := by decide +kernel
theorem dX2_turns_24 : decode cX2_turns 24 = .ok (.iastore, 1) := by decide +kernel
theorem dX2_turns_25 : decode cX2_turns 25 = .ok (.aload_n 0, 1) := by decide +kernel
theorem dX2_turns_26 : decode cX2_turns 26 = .ok (.getfield 11, 3) := by decide +kernel
theorem dX2_turns_29 : decode cX2_turns 29 = .ok (.iconst 1, 1) := by decide +kernel
theorem dX2_turns_30 : decode cX2_turns 30 = .ok (.dup2, 1) := by decide +kernel
theorem dX2_turns_31 : decode cX2_turns 31 = .ok (.iaload, 1) := by decide +kernel
theorem dX2_turns_32 : decode cX2_turns 32 = .ok (.iload_n 3, 1) := by decide +kernel
theorem dX2_turns_33 : decode cX2_turns 33 = .ok (.iadd, 1) := by decide +kernel
theorem dX2_turns_34 : decode cX2_turns 34 = .ok (.iastore, 1) := by decide +kernel
theorem dX2_turns_35 : decode cX2_turns 35 = .ok (.iload_n 3, 1) := by decide +kernel
theorem dX2_turns_36 : decode cX2_turns 36 = .ok (.ireturn, 1) := by decide +kernel
theorem dX2_allSlip_0 : decode cX2_allSlip 0 = .ok (.iconst 0, 1) := by decide +kernel
theorem dX2_allSlip_1 : decode cX2_allSlip 1 = .ok (.istore_n 1, 1) := by decide +kernel
theorem dX2_allSlip_2 : decode cX2_allSlip 2 = .ok (.iconst 0, 1) := by decide +kernel
theorem dX2_allSlip_3 : decode cX2_allSlip 3 = .ok (.istore_n 2, 1) := by decide +kernel
theorem dX2_allSlip_4 : decode cX2_allSlip 4 = .ok (.iload_n 2, 1) := by decide +kernel
theorem dX2_allSlip_5 : decode cX2_allSlip 5 = .ok (.iconst 3, 1) := by decide +kernel
theorem dX2_allSlip_6 : decode cX2_allSlip 6 = .ok (.if_icmp .ge 53, 3) := by decide +kernel
theorem dX2_allSlip_9 : decode cX2_allSlip 9 = .ok (.aload_n 0, 1) := by decide +kernel
theorem dX2_allSlip_10 : decode cX2_allSlip 10 = .ok (.getfield 21, 3) := by decide +kernel
theorem dX2_allSlip_13 : decode cX2_allSlip 13 = .ok (.iload_n 2, 1) := by decide +kernel
theorem dX2_allSlip_14 : decode cX2_allSlip 14 = .ok (.aload_n 0, 1) := by decide +kernel
theorem dX2_allSlip_15 : decode cX2_allSlip 15 = .ok (.getfield 21, 3) := by decide +kernel
theorem dX2_allSlip_18 : decode cX2_allSlip 18 = .ok (.getfield 41, 3) := by decide +kernel
theorem dX2_allSlip_21 : decode cX2_allSlip 21 = .ok (.iload_n 2, 1) := by decide +kernel
theorem dX2_allSlip_22 : decode cX2_allSlip 22 = .ok (.iaload, 1) := by decide +kernel
theorem dX2_allSlip_23 : decode cX2_allSlip 23 = .ok (.invokevirtual 69, 3) := by decide +kernel
theorem dX2_allSlip_26 : decode cX2_allSlip 26 = .ok (.istore_n 3, 1) := by decide +kernel
theorem dX2_allSlip_27 : decode cX2_allSlip 27 = .ok (.iload_n 3, 1) := by decide +kernel
theorem dX2_allSlip_28 : decode cX2_allSlip 28 = .ok (.aload_n 0, 1) := by decide +kernel
theorem dX2_allSlip_29 : decode cX2_allSlip 29 = .ok (.getfield 21, 3) := by decide +kernel
theorem dX2_allSlip_32 : decode cX2_allSlip 32 = .ok (.getfield 41, 3) := by decide +kernel
theorem dX2_allSlip_35 : decode cX2_allSlip 35 = .ok (.iload_n 2, 1) := by decide +kernel
theorem dX2_allSlip_36 : decode cX2_allSlip 36 = .ok (.iaload, 1) := by decide +kernel
theorem dX2_allSlip_37 : decode cX2_allSlip 37 = .ok (.if_icmp .eq 6, 3) := by decide +kernel
theorem dX2_allSlip_43 : decode cX2_allSlip 43 = .ok (.aload_n 0, 1) := by decide +kernel
theorem dX2_allSlip_44 : decode cX2_allSlip 44 = .ok (.getfield 21, 3) := by decide +kernel
theorem dX2_allSlip_47 : decode cX2_allSlip 47 = .ok (.getfield 41, 3) := by decide +kernel
theorem dX2_allSlip_50 : decode cX2_allSlip 50 = .ok (.iload_n 2, 1) := by decide +kernel
theorem dX2_allSlip_51 : decode cX2_allSlip 51 = .ok (.iload_n 3, 1) := by decide +kernel
theorem dX2_allSlip_52 : decode cX2_allSlip 52 = .ok (.iastore, 1) := by decide +kernel
theorem dX2_allSlip_53 : decode cX2_allSlip 53 = .ok (.iinc 2 1, 3) := by decide +kernel
theorem dX2_allSlip_56 : decode cX2_allSlip 56 = .ok (.goto (-52), 3) := by decide +kernel
theorem dX2_allSlip_59 : decode cX2_allSlip 59 = .ok (.iload_n 1, 1) := by decide +kernel
theorem dX2_allSlip_60 : decode cX2_allSlip 60 = .ok (.ireturn, 1) := by decide +kernel
theorem dX2_keepImage_0 : decode cX2_keepImage 0 = .ok (.aload_n 0, 1) := by decide +kernel
theorem dX2_keepImage_1 : decode cX2_keepImage 1 = .ok (.getfield 11, 3) := by decide +kernel
theorem dX2_keepImage_4 : decode cX2_keepImage 4 = .ok (.iconst 0, 1) := by decide +kernel
theorem dX2_keepImage_5 : decode cX2_keepImage 5 = .ok (.aload_n 0, 1) := by decide +kernel
theorem dX2_keepImage_6 : decode cX2_keepImage 6 = .ok (.getfield 15, 3) := by decide +kernel
theorem dX2_keepImage_9 : decode cX2_keepImage 9 = .ok (.iconst 0, 1) := by decide +kernel
theorem dX2_keepImage_10 : decode cX2_keepImage 10 = .ok (.iconst 5, 1) := by decide +kernel
theorem dX2_keepImage_11 : decode cX2_keepImage 11 = .ok (.invokestatic 46, 3) := by decide +kernel
theorem dX2_keepImage_14 : decode cX2_keepImage 14 = .ok (.aload_n 0, 1) := by decide +kernel
theorem dX2_keepImage_15 : decode cX2_keepImage 15 = .ok (.getfield 21, 3) := by decide +kernel
theorem dX2_keepImage_18 : decode cX2_keepImage 18 = .ok (.getfield 41, 3) := by decide +kernel
theorem dX2_keepImage_21 : decode cX2_keepImage 21 = .ok (.iconst 0, 1) := by decide +kernel
theorem dX2_keepImage_22 : decode cX2_keepImage 22 = .ok (.aload_n 0, 1) := by decide +kernel
theorem dX2_keepImage_23 : decode cX2_keepImage 23 = .ok (.getfield 18, 3) := by decide +kernel
theorem dX2_keepImage_26 : decode cX2_keepImage 26 = .ok (.iconst 0, 1) := by decide +kernel
theorem dX2_keepImage_27 : decode cX2_keepImage 27 = .ok (.iconst 3, 1) := by decide +kernel
theorem dX2_keepImage_28 : decode cX2_keepImage 28 = .ok (.invokestatic 46, 3) := by decide +kernel
theorem dX2_keepImage_31 : decode cX2_keepImage 31 = .ok (.aload_n 0, 1) := by decide +kernel
theorem dX2_keepImage_32 : decode cX2_keepImage 32 = .ok (.iconst 1, 1) := by decide +kernel
theorem dX2_keepImage_33 : decode cX2_keepImage 33 = .ok (.putfield 73, 3) := by decide +kernel
theorem dX2_keepImage_36 : decode cX2_keepImage 36 = .ok (.aload_n 0, 1) := by decide +kernel
theorem dX2_keepImage_37 : decode cX2_keepImage 37 = .ok (.getfield 11, 3) := by decide +kernel
theorem dX2_keepImage_40 : decode cX2_keepImage 40 = .ok (.iconst 0, 1) := by decide +kernel
theorem dX2_keepImage_41 : decode cX2_keepImage 41 = .ok (.iaload, 1) := by decide +kernel
theorem dX2_keepImage_42 : decode cX2_keepImage 42 = .ok (.ireturn, 1) := by decide +kernel
theorem dX2_layBack_0 : decode cX2_layBack 0 = .ok (.aload_n 0, 1) := by decide +kernel
theorem dX2_layBack_1 : decode cX2_layBack 1 = .ok (.getfield 73, 3) := by decide +kernel
theorem dX2_layBack_4 : decode cX2_layBack 4 = .ok (.ifCond .ne 6, 3) := by decide +kernel
theorem dX2_layBack_7 : decode cX2_layBack 7 = .ok (.bipush (-5), 2) := by decide +kernel
theorem dX2_layBack_9 : decode cX2_layBack 9 = .ok (.ireturn, 1) := by decide +kernel
theorem dX3_init_0 : decode cX3_init 0 = .ok (.aload_n 0, 1) := by decide +kernel
theorem dX3_init_1 : decode cX3_init 1 = .ok (.invokespecial 3, 3) := by decide +kernel
theorem dX3_init_4 : decode cX3_init 4 = .ok (.aload_n 0, 1) := by decide +kernel
theorem dX3_init_5 : decode cX3_init 5 = .ok (.bipush 50, 2) := by decide +kernel
theorem dX3_init_7 : decode cX3_init 7 = .ok (.newarray .int, 2) := by decide +kernel
theorem dX3_init_9 : decode cX3_init 9 = .ok (.putfield 9, 3) := by decide +kernel
theorem dX3_init_12 : decode cX3_init 12 = .ok (.aload_n 0, 1) := by decide +kernel
theorem dX3_init_13 : decode cX3_init 13 = .ok (.bipush 24, 2) := by decide +kernel
theorem dX3_init_15 : decode cX3_init 15 = .ok (.newarray .int, 2) := by decide +kernel
theorem dX3_init_17 : decode cX3_init 17 = .ok (.putfield 15, 3) := by decide +kernel
theorem dX3_init_20 : decode cX3_init 20 = .ok (.return_, 1) := by decide +kernel
theorem dX3_comes_0 : decode cX3_comes 0 = .ok (.aload_n 0, 1) := by decide +kernel
theorem dX3_comes_1 : decode cX3_comes 1 = .ok (.getfield 18, 3) := by decide +kernel
theorem dX3_comes_4 : decode cX3_comes 4 = .ok (.bipush 50, 2) := by decide +kernel
theorem dX3_comes_6 : decode cX3_comes 6 = .ok (.if_icmp .lt 6, 3) := by decide +kernel
theorem dX3_comes_12 : decode cX3_comes 12 = .ok (.aload_n 0, 1) := by decide +kernel
theorem dX3_comes_13 : decode cX3_comes 13 = .ok (.getfield 9, 3) := by decide +kernel
theorem dX3_comes_16 : decode cX3_comes 16 = .ok (.aload_n 0, 1) := by decide +kernel
theorem dX3_comes_17 : decode cX3_comes 17 = .ok (.getfield 18, 3) := by decide +kernel
theorem dX3_comes_20 : decode cX3_comes 20 = .ok (.iload_n 1, 1) := by decide +kernel
theorem dX3_comes_21 : decode cX3_comes 21 = .ok (.iastore, 1) := by decide +kernel
theorem dX3_comes_22 : decode cX3_comes 22 = .ok (.aload_n 0, 1) := by decide +kernel
theorem dX3_comes_23 : decode cX3_comes 23 = .ok (.dup, 1) := by decide +kernel
theorem dX3_comes_24 : decode cX3_comes 24 = .ok (.getfield 18, 3) := by decide +kernel
theorem dX3_comes_27 : decode cX3_comes 27 = .ok (.iconst 1, 1) := by decide +kernel
theorem dX3_comes_28 : decode cX3_comes 28 = .ok (.iadd, 1) := by decide +kernel
theorem dX3_comes_29 : decode cX3_comes 29 = .ok (.putfield 18, 3) := by decide +kernel
theorem dX3_comes_32 : decode cX3_comes 32 = .ok (.aload_n 0, 1) := by decide +kernel
theorem dX3_comes_33 : decode cX3_comes 33 = .ok (.getfield 18, 3) := by decide +kernel
theorem dX3_comes_36 : decode cX3_comes 36 = .ok (.iconst 1, 1) := by decide +kernel
theorem dX3_comes_37 : decode cX3_comes 37 = .ok (.isub, 1) := by decide +kernel
theorem dX3_comes_38 : decode cX3_comes 38 = .ok (.ireturn, 1) := by decide +kernel
theorem dX3_acts_0 : decode cX3_acts 0 = .ok (.aload_n 0, 1) := by decide +kernel
theorem dX3_acts_1 : decode cX3_acts 1 = .ok (.iconst 0, 1) := by decide +kernel
theorem dX3_acts_2 : decode cX3_acts 2 = .ok (.putfield 25, 3) := by decide +kernel
theorem dX3_acts_5 : decode cX3_acts 5 = .ok (.iload_n 1, 1) := by decide +kernel
theorem dX3_acts_6 : decode cX3_acts 6 = .ok (.ifCond .lt 20, 3) := by decide +kernel
theorem dX3_acts_9 : decode cX3_acts 9 = .ok (.iload_n 1, 1) := by decide +kernel
theorem dX3_acts_10 : decode cX3_acts 10 = .ok (.aload_n 0, 1) := by decide +kernel
theorem dX3_acts_11 : decode cX3_acts 11 = .ok (.getfield 18, 3) := by decide +kernel
theorem dX3_acts_14 : decode cX3_acts 14 = .ok (.if_icmp .ge 12, 3) := by decide +kernel
theorem dX3_acts_26 : decode cX3_acts 26 = .ok (.iconst 0, 1) := by decide +kernel
theorem dX3_acts_27 : decode cX3_acts 27 = .ok (.ireturn, 1) := by decide +kernel
theorem dX4_init_0 : decode cX4_init 0 = .ok (.aload_n 0, 1) := by decide +kernel
theorem dX4_init_1 : decode cX4_init 1 = .ok (.invokespecial 3, 3) := by decide +kernel
theorem dX4_init_4 : decode cX4_init 4 = .ok (.aload_n 0, 1) := by decide +kernel
theorem dX4_init_5 : decode cX4_init 5 = .ok (.iconst 3, 1) := by decide +kernel
theorem dX4_init_6 : decode cX4_init 6 = .ok (.newarray .int, 2) := by decide +kernel
theorem dX4_init_8 : decode cX4_init 8 = .ok (.putfield 9, 3) := by decide +kernel
theorem dX4_init_11 : decode cX4_init 11 = .ok (.aload_n 0, 1) := by decide +kernel
theorem dX4_init_12 : decode cX4_init 12 = .ok (.iconst 3, 1) := by decide +kernel
theorem dX4_init_13 : decode cX4_init 13 = .ok (.newarray .int, 2) := by decide +kernel
theorem dX4_init_15 : decode cX4_init 15 = .ok (.putfield 15, 3) := by decide +kernel
theorem dX4_init_18 : decode cX4_init 18 = .ok (.aload_n 0, 1) := by decide +kernel
theorem dX4_init_19 : decode cX4_init 19 = .ok (.bipush 8, 2) := by decide +kernel
theorem dX4_init_21 : decode cX4_init 21 = .ok (.newarray .int, 2) := by decide +kernel
theorem dX4_init_23 : decode cX4_init 23 = .ok (.putfield 18, 3) := by decide +kernel
theorem dX4_init_26 : decode cX4_init 26 = .ok (.aload_n 0, 1) := by decide +kernel
theorem dX4_init_27 : decode cX4_init 27 = .ok (.iconst (-1), 1) := by decide +kernel
theorem dX4_init_28 : decode cX4_init 28 = .ok (.putfield 21, 3) := by decide +kernel
theorem dX4_init_31 : decode cX4_init 31 = .ok (.aload_n 0, 1) := by decide +kernel
theorem dX4_init_32 : decode cX4_init 32 = .ok (.iconst (-1), 1) := by decide +kernel
theorem dX4_init_33 : decode cX4_init 33 = .ok (.putfield 25, 3) := by decide +kernel
theorem dX4_init_36 : decode cX4_init 36 = .ok (.aload_n 0, 1) := by decide +kernel
theorem dX4_init_37 : decode cX4_init 37 = .ok (.aload_n 1, 1) := by decide +kernel
theorem dX4_init_38 : decode cX4_init 38 = .ok (.putfield 28, 3) := by decide +kernel
theorem dX4_init_41 : decode cX4_init 41 = .ok (.aload_n 0, 1) := by decide +kernel
theorem dX4_init_42 : decode cX4_init 42 = .ok (.aload_n 2, 1) := by decide +kernel
theorem dX4_init_43 : decode cX4_init 43 = .ok (.putfield 32, 3) := by decide +kernel
theorem dX4_init_46 : decode cX4_init 46 = .ok (.return_, 1) := by decide +kernel
theorem dX5_init_0 : decode cX5_init 0 = .ok (.aload_n 0, 1) := by decide +kernel
theorem dX5_init_1 : decode cX5_init 1 = .ok (.invokespecial 3, 3) := by decide +kernel
theorem dX5_init_4 : decode cX5_init 4 = .ok (.aload_n 0, 1) := by decide +kernel
theorem dX5_init_5 : decode cX5_init 5 = .ok (.bipush 120, 2) := by decide +kernel
theorem dX5_init_7 : decode cX5_init 7 = .ok (.newarray .int, 2) := by decide +kernel
theorem dX5_init_9 : decode cX5_init 9 = .ok (.putfield 11, 3) := by decide +kernel
theorem dX5_init_12 : decode cX5_init 12 = .ok (.aload_n 0, 1) := by decide +kernel
theorem dX5_init_13 : decode cX5_init 13 = .ok (.bipush 121, 2) := by decide +kernel
theorem dX5_init_15 : decode cX5_init 15 = .ok (.newarray .int, 2) := by decide +kernel
theorem dX5_init_17 : decode cX5_init 17 = .ok (.putfield 15, 3) := by decide +kernel
theorem dX5_init_20 : decode cX5_init 20 = .ok (.aload_n 0, 1) := by decide +kernel
theorem dX5_init_21 : decode cX5_init 21 = .ok (.bipush 121, 2) := by decide +kernel
theorem dX5_init_23 : decode cX5_init 23 = .ok (.newarray .int, 2) := by decide +kernel
theorem dX5_init_25 : decode cX5_init 25 = .ok (.putfield 18, 3) := by decide +kernel
theorem dX5_init_28 : decode cX5_init 28 = .ok (.aload_n 0, 1) := by decide +kernel
theorem dX5_init_29 : decode cX5_init 29 = .ok (.bipush 122, 2) := by decide +kernel
theorem dX5_init_31 : decode cX5_init 31 = .ok (.newarray .int, 2) := by decide +kernel
theorem dX5_init_33 : decode cX5_init 33 = .ok (.putfield 21, 3) := by decide +kernel
theorem dX5_init_36 : decode cX5_init 36 = .ok (.return_, 1) := by decide +kernel
theorem dX5_takes_0 : decode cX5_takes 0 = .ok (.aload_n 0, 1) := by decide +kernel
theorem dX5_takes_1 : decode cX5_takes 1 = .ok (.getfield 24, 3) := by decide +kernel
theorem dX5_takes_4 : decode cX5_takes 4 = .ok (.bipush 120, 2) := by decide +kernel
theorem dX5_takes_6 : decode cX5_takes 6 = .ok (.if_icmp .lt 6, 3) := by decide +kernel
theorem dX5_takes_12 : decode cX5_takes 12 = .ok (.aload_n 0, 1) := by decide +kernel
theorem dX5_takes_13 : decode cX5_takes 13 = .ok (.getfield 11, 3) := by decide +kernel
theorem dX5_takes_16 : decode cX5_takes 16 = .ok (.aload_n 0, 1) := by decide +kernel
theorem dX5_takes_17 : decode cX5_takes 17 = .ok (.getfield 24, 3) := by decide +kernel
theorem dX5_takes_20 : decode cX5_takes 20 = .ok (.iload_n 1, 1) := by decide +kernel
theorem dX5_takes_21 : decode cX5_takes 21 = .ok (.iastore, 1) := by decide +kernel
theorem dX5_takes_22 : decode cX5_takes 22 = .ok (.aload_n 0, 1) := by decide +kernel
theorem dX5_takes_23 : decode cX5_takes 23 = .ok (.dup, 1) := by decide +kernel
theorem dX5_takes_24 : decode cX5_takes 24 = .ok (.getfield 24, 3) := by decide +kernel
theorem dX5_takes_27 : decode cX5_takes 27 = .ok (.iconst 1, 1) := by decide +kernel
theorem dX5_takes_28 : decode cX5_takes 28 = .ok (.iadd, 1) := by decide +kernel
theorem dX5_takes_29 : decode cX5_takes 29 = .ok (.putfield 24, 3) := by decide +kernel
theorem dX5_takes_32 : decode cX5_takes 32 = .ok (.aload_n 0, 1) := by decide +kernel
theorem dX5_takes_33 : decode cX5_takes 33 = .ok (.getfield 24, 3) := by decide +kernel
theorem dX5_takes_36 : decode cX5_takes 36 = .ok (.ireturn, 1) := by decide +kernel
theorem dX5_isRead_0 : decode cX5_isRead 0 = .ok (.aload_n 0, 1) := by decide +kernel
theorem dX5_isRead_1 : decode cX5_isRead 1 = .ok (.iconst 0, 1) := by decide +kernel
theorem dX5_isRead_2 : decode cX5_isRead 2 = .ok (.putfield 28, 3) := by decide +kernel
theorem dX5_isRead_5 : decode cX5_isRead 5 = .ok (.aload_n 0, 1) := by decide +kernel
theorem dX5_isRead_6 : decode cX5_isRead 6 = .ok (.iconst (-1), 1) := by decide +kernel
theorem dX5_isRead_7 : decode cX5_isRead 7 = .ok (.putfield 31, 3) := by decide +kernel
theorem dX5_isRead_10 : decode cX5_isRead 10 = .ok (.aload_n 0, 1) := by decide +kernel
theorem dX5_isRead_11 : decode cX5_isRead 11 = .ok (.iconst 0, 1) := by decide +kernel
theorem dX5_isRead_12 : decode cX5_isRead 12 = .ok (.putfield 34, 3) := by decide +kernel
theorem dX5_isRead_15 : decode cX5_isRead 15 = .ok (.aload_n 0, 1) := by decide +kernel
theorem dX5_isRead_16 : decode cX5_isRead 16 = .ok (.invokevirtual 37, 3) := by decide +kernel
theorem dX5_isRead_19 : decode cX5_isRead 19 = .ok (.aload_n 0, 1) := by decide +kernel
theorem dX5_isRead_20 : decode cX5_isRead 20 = .ok (.iconst 0, 1) := by decide +kernel
theorem dX5_isRead_21 : decode cX5_isRead 21 = .ok (.putfield 24, 3) := by decide +kernel
theorem dX5_isRead_24 : decode cX5_isRead 24 = .ok (.aload_n 0, 1) := by decide +kernel
theorem dX5_isRead_25 : decode cX5_isRead 25 = .ok (.getfield 31, 3) := by decide +kernel
theorem dX5_isRead_28 : decode cX5_isRead 28 = .ok (.ifCond .lt 11, 3) := by decide +kernel
theorem dX5_isRead_31 : decode cX5_isRead 31 = .ok (.bipush (-100), 2) := by decide +kernel
theorem dX5_isRead_33 : decode cX5_isRead 33 = .ok (.aload_n 0, 1) := by decide +kernel
theorem dX5_isRead_34 : decode cX5_isRead 34 = .ok (.getfield 31, 3) := by decide +kernel
theorem dX5_isRead_37 : decode cX5_isRead 37 = .ok (.isub, 1) := by decide +kernel
theorem dX5_isRead_38 : decode cX5_isRead 38 = .ok (.ireturn, 1) := by decide +kernel
theorem dX5_lines_0 : decode cX5_lines 0 = .ok (.aload_n 0, 1) := by decide +kernel
theorem dX5_lines_1 : decode cX5_lines 1 = .ok (.invokevirtual 53, 3) := by decide +kernel
theorem dX5_lines_4 : decode cX5_lines 4 = .ok (.iconst 0, 1) := by decide +kernel
theorem dX5_lines_5 : decode cX5_lines 5 = .ok (.istore_n 1, 1) := by decide +kernel
theorem dX5_lines_6 : decode cX5_lines 6 = .ok (.iload_n 1, 1) := by decide +kernel
theorem dX5_lines_7 : decode cX5_lines 7 = .ok (.bipush 120, 2) := by decide +kernel
theorem dX5_lines_9 : decode cX5_lines 9 = .ok (.if_icmp .ge 32, 3) := by decide +kernel
theorem dX5_lines_12 : decode cX5_lines 12 = .ok (.aload_n 0, 1) := by decide +kernel
theorem dX5_lines_13 : decode cX5_lines 13 = .ok (.invokevirtual 56, 3) := by decide +kernel
theorem dX5_lines_16 : decode cX5_lines 16 = .ok (.bipush 59, 2) := by decide +kernel
theorem dX5_lines_18 : decode cX5_lines 18 = .ok (.if_icmp .ne 23, 3) := by decide +kernel
theorem dX5_lines_41 : decode cX5_lines 41 = .ok (.aload_n 0, 1) := by decide +kernel
theorem dX5_lines_42 : decode cX5_lines 42 = .ok (.getfield 28, 3) := by decide +kernel
theorem dX5_lines_45 : decode cX5_lines 45 = .ok (.aload_n 0, 1) := by decide +kernel
theorem dX5_lines_46 : decode cX5_lines 46 = .ok (.getfield 24, 3) := by decide +kernel
theorem dX5_lines_49 : decode cX5_lines 49 = .ok (.if_icmp .ge 7, 3) := by decide +kernel
theorem dX5_lines_56 : decode cX5_lines 56 = .ok (.return_, 1) := by decide +kernel
theorem dX5_line_0 : decode cX5_line 0 = .ok (.aload_n 0, 1) := by decide +kernel
theorem dX5_line_1 : decode cX5_line 1 = .ok (.iconst 0, 1) := by decide +kernel
theorem dX5_line_2 : decode cX5_line 2 = .ok (.invokevirtual 63, 3) := by decide +kernel
theorem dX5_line_5 : decode cX5_line 5 = .ok (.aload_n 0, 1) := by decide +kernel
theorem dX5_line_6 : decode cX5_line 6 = .ok (.invokevirtual 56, 3) := by decide +kernel
theorem dX5_line_9 : decode cX5_line 9 = .ok (.bipush 63, 2) := by decide +kernel
theorem dX5_line_11 : decode cX5_line 11 = .ok (.if_icmp .ne 24, 3) := by decide +kernel
theorem dX5_line_35 : decode cX5_line 35 = .ok (.aload_n 0, 1) := by decide +kernel
theorem dX5_line_36 : decode cX5_line 36 = .ok (.bipush 59, 2) := by decide +kernel
theorem dX5_line_38 : decode cX5_line 38 = .ok (.invokevirtual 67, 3) := by decide +kernel
theorem dX5_line_41 : decode cX5_line 41 = .ok (.return_, 1) := by decide +kernel
theorem dX5_either_0 : decode cX5_either 0 = .ok (.aload_n 0, 1) := by decide +kernel
theorem dX5_either_1 : decode cX5_either 1 = .ok (.iload_n 1, 1) := by decide +kernel
theorem dX5_either_2 : decode cX5_either 2 = .ok (.invokevirtual 70, 3) := by decide +kernel
theorem dX5_either_5 : decode cX5_either 5 = .ok (.iconst 0, 1) := by decide +kernel
theorem dX5_either_6 : decode cX5_either 6 = .ok (.istore_n 2, 1) := by decide +kernel
theorem dX5_either_7 : decode cX5_either 7 = .ok (.iload_n 2, 1) := by decide +kernel
theorem dX5_either_8 : decode cX5_either 8 = .ok (.bipush 120, 2) := by decide +kernel
theorem dX5_either_10 : decode cX5_either 10 = .ok (.if_icmp .ge 39, 3) := by decide +kernel
theorem dX5_either_13 : decode cX5_either 13 = .ok (.aload_n 0, 1) := by decide +kernel
theorem dX5_either_14 : decode cX5_either 14 = .ok (.invokevirtual 56, 3) := by decide +kernel
theorem dX5_either_17 : decode cX5_either 17 = .ok (.bipush 124, 2) := by decide +kernel
theorem dX5_either_19 : decode cX5_either 19 = .ok (.if_icmp .ne 30, 3) := by decide +kernel
theorem dX5_either_49 : decode cX5_either 49 = .ok (.return_, 1) := by decide +kernel
theorem dX5_both_0 : decode cX5_both 0 = .ok (.aload_n 0, 1) := by decide +kernel
theorem dX5_both_1 : decode cX5_both 1 = .ok (.iload_n 1, 1) := by decide +kernel
theorem dX5_both_2 : decode cX5_both 2 = .ok (.invokevirtual 73, 3) := by decide +kernel
theorem dX5_both_5 : decode cX5_both 5 = .ok (.iconst 0, 1) := by decide +kernel
theorem dX5_both_6 : decode cX5_both 6 = .ok (.istore_n 2, 1) := by decide +kernel
theorem dX5_both_7 : decode cX5_both 7 = .ok (.iload_n 2, 1) := by decide +kernel
theorem dX5_both_8 : decode cX5_both 8 = .ok (.bipush 120, 2) := by decide +kernel
theorem dX5_both_10 : decode cX5_both 10 = .ok (.if_icmp .ge 39, 3) := by decide +kernel
theorem dX5_both_13 : decode cX5_both 13 = .ok (.aload_n 0, 1) := by decide +kernel
theorem dX5_both_14 : decode cX5_both 14 = .ok (.invokevirtual 56, 3) := by decide +kernel
theorem dX5_both_17 : decode cX5_both 17 = .ok (.bipush 38, 2) := by decide +kernel
theorem dX5_both_19 : decode cX5_both 19 = .ok (.if_icmp .ne 30, 3) := by decide +kernel
theorem dX5_both_49 : decode cX5_both 49 = .ok (.return_, 1) := by decide +kernel
theorem dX5_compared_0 : decode cX5_compared 0 = .ok (.aload_n 0, 1) := by decide +kernel
theorem dX5_compared_1 : decode cX5_compared 1 = .ok (.iload_n 1, 1) := by decide +kernel
theorem dX5_compared_2 : decode cX5_compared 2 = .ok (.invokevirtual 76, 3) := by decide +kernel
theorem dX5_compared_5 : decode cX5_compared 5 = .ok (.aload_n 0, 1) := by decide +kernel
theorem dX5_compared_6 : decode cX5_compared 6 = .ok (.invokevirtual 56, 3) := by decide +kernel
theorem dX5_compared_9 : decode cX5_compared 9 = .ok (.istore_n 2, 1) := by decide +kernel
theorem dX5_compared_10 : decode cX5_compared 10 = .ok (.iload_n 2, 1) := by decide +kernel
theorem dX5_compared_11 : decode cX5_compared 11 = .ok (.bipush 60, 2) := by decide +kernel
theorem dX5_compared_13 : decode cX5_compared 13 = .ok (.if_icmp .eq 15, 3) := by decide +kernel
theorem dX5_compared_16 : decode cX5_compared 16 = .ok (.iload_n 2, 1) := by decide +kernel
theorem dX5_compared_17 : decode cX5_compared 17 = .ok (.bipush 61, 2) := by decide +kernel
theorem dX5_compared_19 : decode cX5_compared 19 = .ok (.if_icmp .eq 9, 3) := by decide +kernel
theorem dX5_compared_22 : decode cX5_compared 22 = .ok (.iload_n 2, 1) := by decide +kernel
theorem dX5_compared_23 : decode cX5_compared 23 = .ok (.bipush 62, 2) := by decide +kernel
theorem dX5_compared_25 : decode cX5_compared 25 = .ok (.if_icmp .ne 23, 3) := by decide +kernel
theorem dX5_compared_48 : decode cX5_compared 48 = .ok (.return_, 1) := by decide +kernel
theorem dX5_sum_0 : decode cX5_sum 0 = .ok (.aload_n 0, 1) := by decide +kernel
theorem dX5_sum_1 : decode cX5_sum 1 = .ok (.iload_n 1, 1) := by decide +kernel
theorem dX5_sum_2 : decode cX5_sum 2 = .ok (.invokevirtual 79, 3) := by decide +kernel
theorem dX5_sum_5 : decode cX5_sum 5 = .ok (.aload_n 0, 1) := by decide +kernel
theorem dX5_sum_6 : decode cX5_sum 6 = .ok (.invokevirtual 56, 3) := by decide +kernel
theorem dX5_sum_9 : decode cX5_sum 9 = .ok (.istore_n 2, 1) := by decide +kernel
theorem dX5_sum_10 : decode cX5_sum 10 = .ok (.iconst 0, 1) := by decide +kernel
theorem dX5_sum_11 : decode cX5_sum 11 = .ok (.istore_n 3, 1) := by decide +kernel
theorem dX5_sum_12 : decode cX5_sum 12 = .ok (.iload_n 3, 1) := by decide +kernel
theorem dX5_sum_13 : decode cX5_sum 13 = .ok (.bipush 120, 2) := by decide +kernel
theorem dX5_sum_15 : decode cX5_sum 15 = .ok (.if_icmp .ge 46, 3) := by decide +kernel
theorem dX5_sum_18 : decode cX5_sum 18 = .ok (.iload_n 2, 1) := by decide +kernel
theorem dX5_sum_19 : decode cX5_sum 19 = .ok (.bipush 43, 2) := by decide +kernel
theorem dX5_sum_21 : decode cX5_sum 21 = .ok (.if_icmp .eq 9, 3) := by decide +kernel
theorem dX5_sum_24 : decode cX5_sum 24 = .ok (.iload_n 2, 1) := by decide +kernel
theorem dX5_sum_25 : decode cX5_sum 25 = .ok (.bipush 45, 2) := by decide +kernel
theorem dX5_sum_27 : decode cX5_sum 27 = .ok (.if_icmp .ne 34, 3) := by decide +kernel
theorem dX5_sum_61 : decode cX5_sum 61 = .ok (.return_, 1) := by decide +kernel
theorem dX5_product_0 : decode cX5_product 0 = .ok (.aload_n 0, 1) := by decide +kernel
theorem dX5_product_1 : decode cX5_product 1 = .ok (.iload_n 1, 1) := by decide +kernel
theorem dX5_product_2 : decode cX5_product 2 = .ok (.invokevirtual 82, 3) := by decide +kernel
theorem dX5_product_5 : decode cX5_product 5 = .ok (.aload_n 0, 1) := by decide +kernel
theorem dX5_product_6 : decode cX5_product 6 = .ok (.invokevirtual 56, 3) := by decide +kernel
theorem dX5_product_9 : decode cX5_product 9 = .ok (.istore_n 2, 1) := by decide +kernel
theorem dX5_product_10 : decode cX5_product 10 = .ok (.iconst 0, 1) := by decide +kernel
theorem dX5_product_11 : decode cX5_product 11 = .ok (.istore_n 3, 1) := by decide +kernel
theorem dX5_product_12 : decode cX5_product 12 = .ok (.iload_n 3, 1) := by decide +kernel
theorem dX5_product_13 : decode cX5_product 13 = .ok (.bipush 120, 2) := by decide +kernel
theorem dX5_product_15 : decode cX5_product 15 = .ok (.if_icmp .ge 52, 3) := by decide +kernel
theorem dX5_product_18 : decode cX5_product 18 = .ok (.iload_n 2, 1) := by decide +kernel
theorem dX5_product_19 : decode cX5_product 19 = .ok (.bipush 42, 2) := by decide +kernel
theorem dX5_product_21 : decode cX5_product 21 = .ok (.if_icmp .eq 15, 3) := by decide +kernel
theorem dX5_product_24 : decode cX5_product 24 = .ok (.iload_n 2, 1) := by decide +kernel
theorem dX5_product_25 : decode cX5_product 25 = .ok (.bipush 47, 2) := by decide +kernel
theorem dX5_product_27 : decode cX5_product 27 = .ok (.if_icmp .eq 9, 3) := by decide +kernel
theorem dX5_product_30 : decode cX5_product 30 = .ok (.iload_n 2, 1) := by decide +kernel
theorem dX5_product_31 : decode cX5_product 31 = .ok (.bipush 37, 2) := by decide +kernel
theorem dX5_product_33 : decode cX5_product 33 = .ok (.if_icmp .ne 34, 3) := by decide +kernel
theorem dX5_product_67 : decode cX5_product 67 = .ok (.return_, 1) := by decide +kernel
theorem dX5_operand_0 : decode cX5_operand 0 = .ok (.aload_n 0, 1) := by decide +kernel
theorem dX5_operand_1 : decode cX5_operand 1 = .ok (.invokevirtual 56, 3) := by decide +kernel
theorem dX5_operand_4 : decode cX5_operand 4 = .ok (.istore_n 2, 1) := by decide +kernel
theorem dX5_operand_5 : decode cX5_operand 5 = .ok (.iload_n 2, 1) := by decide +kernel
theorem dX5_operand_6 : decode cX5_operand 6 = .ok (.invokestatic 85, 3) := by decide +kernel
theorem dX5_operand_9 : decode cX5_operand 9 = .ok (.ifCond .eq 10, 3) := by decide +kernel
theorem dX5_operand_19 : decode cX5_operand 19 = .ok (.iload_n 2, 1) := by decide +kernel
theorem dX5_operand_20 : decode cX5_operand 20 = .ok (.invokestatic 92, 3) := by decide +kernel
theorem dX5_operand_23 : decode cX5_operand 23 = .ok (.ifCond .eq 21, 3) := by decide +kernel
theorem dX5_operand_44 : decode cX5_operand 44 = .ok (.iload_n 2, 1) := by decide +kernel
theorem dX5_operand_45 : decode cX5_operand 45 = .ok (.bipush 40, 2) := by decide +kernel
theorem dX5_operand_47 : decode cX5_operand 47 = .ok (.if_icmp .eq 15, 3) := by decide +kernel
theorem dX5_operand_50 : decode cX5_operand 50 = .ok (.iload_n 2, 1) := by decide +kernel
theorem dX5_operand_51 : decode cX5_operand 51 = .ok (.bipush 33, 2) := by decide +kernel
theorem dX5_operand_53 : decode cX5_operand 53 = .ok (.if_icmp .eq 9, 3) := by decide +kernel
theorem dX5_operand_56 : decode cX5_operand 56 = .ok (.iload_n 2, 1) := by decide +kernel
theorem dX5_operand_57 : decode cX5_operand 57 = .ok (.bipush 45, 2) := by decide +kernel
theorem dX5_operand_59 : decode cX5_operand 59 = .ok (.if_icmp .ne 9, 3) := by decide +kernel
theorem dX5_operand_68 : decode cX5_operand 68 = .ok (.aload_n 0, 1) := by decide +kernel
theorem dX5_operand_69 : decode cX5_operand 69 = .ok (.invokevirtual 60, 3) := by decide +kernel
theorem dX5_operand_72 : decode cX5_operand 72 = .ok (.goto 21, 3) := by decide +kernel
theorem dX5_operand_93 : decode cX5_operand 93 = .ok (.return_, 1) := by decide +kernel
theorem dX5_isDigit_0 : decode cX5_isDigit 0 = .ok (.iload_n 0, 1) := by decide +kernel
theorem dX5_isDigit_1 : decode cX5_isDigit 1 = .ok (.bipush 48, 2) := by decide +kernel
theorem dX5_isDigit_3 : decode cX5_isDigit 3 = .ok (.if_icmp .lt 13, 3) := by decide +kernel
theorem dX5_isDigit_16 : decode cX5_isDigit 16 = .ok (.iconst 0, 1) := by decide +kernel
theorem dX5_isDigit_17 : decode cX5_isDigit 17 = .ok (.ireturn, 1) := by decide +kernel
theorem dX5_isName_0 : decode cX5_isName 0 = .ok (.iload_n 0, 1) := by decide +kernel
theorem dX5_isName_1 : decode cX5_isName 1 = .ok (.bipush 100, 2) := by decide +kernel
theorem dX5_isName_3 : decode cX5_isName 3 = .ok (.if_icmp .eq 33, 3) := by decide +kernel
theorem dX5_isName_6 : decode cX5_isName 6 = .ok (.iload_n 0, 1) := by decide +kernel
theorem dX5_isName_7 : decode cX5_isName 7 = .ok (.bipush 117, 2) := by decide +kernel
theorem dX5_isName_9 : decode cX5_isName 9 = .ok (.if_icmp .eq 27, 3) := by decide +kernel
theorem dX5_isName_12 : decode cX5_isName 12 = .ok (.iload_n 0, 1) := by decide +kernel
theorem dX5_isName_13 : decode cX5_isName 13 = .ok (.bipush 115, 2) := by decide +kernel
theorem dX5_isName_15 : decode cX5_isName 15 = .ok (.if_icmp .eq 21, 3) := by decide +kernel
theorem dX5_isName_18 : decode cX5_isName 18 = .ok (.iload_n 0, 1) := by decide +kernel
theorem dX5_isName_19 : decode cX5_isName 19 = .ok (.bipush 119, 2) := by decide +kernel
theorem dX5_isName_21 : decode cX5_isName 21 = .ok (.if_icmp .eq 15, 3) := by decide +kernel
theorem dX5_isName_24 : decode cX5_isName 24 = .ok (.iload_n 0, 1) := by decide +kernel
theorem dX5_isName_25 : decode cX5_isName 25 = .ok (.bipush 104, 2) := by decide +kernel
theorem dX5_isName_27 : decode cX5_isName 27 = .ok (.if_icmp .eq 9, 3) := by decide +kernel
theorem dX5_isName_30 : decode cX5_isName 30 = .ok (.iload_n 0, 1) := by decide +kernel
theorem dX5_isName_31 : decode cX5_isName 31 = .ok (.bipush 107, 2) := by decide +kernel
theorem dX5_isName_33 : decode cX5_isName 33 = .ok (.if_icmp .ne 7, 3) := by decide +kernel
theorem dX5_isName_40 : decode cX5_isName 40 = .ok (.iconst 0, 1) := by decide +kernel
theorem dX5_isName_41 : decode cX5_isName 41 = .ok (.ireturn, 1) := by decide +kernel
theorem dX5_next_0 : decode cX5_next 0 = .ok (.aload_n 0, 1) := by decide +kernel
theorem dX5_next_1 : decode cX5_next 1 = .ok (.getfield 31, 3) := by decide +kernel
theorem dX5_next_4 : decode cX5_next 4 = .ok (.ifCond .ge 26, 3) := by decide +kernel
theorem dX5_next_7 : decode cX5_next 7 = .ok (.aload_n 0, 1) := by decide +kernel
theorem dX5_next_8 : decode cX5_next 8 = .ok (.getfield 28, 3) := by decide +kernel
theorem dX5_next_11 : decode cX5_next 11 = .ok (.aload_n 0, 1) := by decide +kernel
theorem dX5_next_12 : decode cX5_next 12 = .ok (.getfield 24, 3) := by decide +kernel
theorem dX5_next_15 : decode cX5_next 15 = .ok (.if_icmp .ge 15, 3) := by decide +kernel
theorem dX5_next_30 : decode cX5_next 30 = .ok (.iconst (-1), 1) := by decide +kernel
theorem dX5_next_31 : decode cX5_next 31 = .ok (.ireturn, 1) := by decide +kernel
theorem dX5_fail_0 : decode cX5_fail 0 = .ok (.aload_n 0, 1) := by decide +kernel
theorem dX5_fail_1 : decode cX5_fail 1 = .ok (.getfield 31, 3) := by decide +kernel
theorem dX5_fail_4 : decode cX5_fail 4 = .ok (.ifCond .ge 11, 3) := by decide +kernel
theorem dX5_fail_7 : decode cX5_fail 7 = .ok (.aload_n 0, 1) := by decide +kernel
theorem dX5_fail_8 : decode cX5_fail 8 = .ok (.aload_n 0, 1) := by decide +kernel
theorem dX5_fail_9 : decode cX5_fail 9 = .ok (.getfield 28, 3) := by decide +kernel
theorem dX5_fail_12 : decode cX5_fail 12 = .ok (.putfield 31, 3) := by decide +kernel
theorem dX5_fail_15 : decode cX5_fail 15 = .ok (.return_, 1) := by decide +kernel
theorem dX5_write_0 : decode cX5_write 0 = .ok (.aload_n 0, 1) := by decide +kernel
theorem dX5_write_1 : decode cX5_write 1 = .ok (.getfield 34, 3) := by decide +kernel
theorem dX5_write_4 : decode cX5_write 4 = .ok (.aload_n 0, 1) := by decide +kernel
theorem dX5_write_5 : decode cX5_write 5 = .ok (.getfield 15, 3) := by decide +kernel
theorem dX5_write_8 : decode cX5_write 8 = .ok (.arraylength, 1) := by decide +kernel
theorem dX5_write_9 : decode cX5_write 9 = .ok (.if_icmp .ge 23, 3) := by decide +kernel
theorem dX5_write_12 : decode cX5_write 12 = .ok (.aload_n 0, 1) := by decide +kernel
theorem dX5_write_13 : decode cX5_write 13 = .ok (.getfield 15, 3) := by decide +kernel
theorem dX5_write_16 : decode cX5_write 16 = .ok (.aload_n 0, 1) := by decide +kernel
theorem dX5_write_17 : decode cX5_write 17 = .ok (.getfield 34, 3) := by decide +kernel
theorem dX5_write_20 : decode cX5_write 20 = .ok (.iload_n 1, 1) := by decide +kernel
theorem dX5_write_21 : decode cX5_write 21 = .ok (.iastore, 1) := by decide +kernel
theorem dX5_write_22 : decode cX5_write 22 = .ok (.aload_n 0, 1) := by decide +kernel
theorem dX5_write_23 : decode cX5_write 23 = .ok (.dup, 1) := by decide +kernel
theorem dX5_write_24 : decode cX5_write 24 = .ok (.getfield 34, 3) := by decide +kernel
theorem dX5_write_27 : decode cX5_write 27 = .ok (.iconst 1, 1) := by decide +kernel
theorem dX5_write_28 : decode cX5_write 28 = .ok (.iadd, 1) := by decide +kernel
theorem dX5_write_29 : decode cX5_write 29 = .ok (.putfield 34, 3) := by decide +kernel
theorem dX5_write_32 : decode cX5_write 32 = .ok (.return_, 1) := by decide +kernel
theorem dX6_init_0 : decode cX6_init 0 = .ok (.aload_n 0, 1) := by decide +kernel
theorem dX6_init_1 : decode cX6_init 1 = .ok (.invokespecial 3, 3) := by decide +kernel
theorem dX6_init_4 : decode cX6_init 4 = .ok (.aload_n 0, 1) := by decide +kernel
theorem dX6_init_5 : decode cX6_init 5 = .ok (.aload_n 1, 1) := by decide +kernel
theorem dX6_init_6 : decode cX6_init 6 = .ok (.putfield 9, 3) := by decide +kernel
theorem dX6_init_9 : decode cX6_init 9 = .ok (.return_, 1) := by decide +kernel
theorem dX7_init_0 : decode cX7_init 0 = .ok (.aload_n 0, 1) := by decide +kernel
theorem dX7_init_1 : decode cX7_init 1 = .ok (.invokespecial 3, 3) := by decide +kernel
theorem dX7_init_4 : decode cX7_init 4 = .ok (.aload_n 0, 1) := by decide +kernel
theorem dX7_init_5 : decode cX7_init 5 = .ok (.bipush 60, 2) := by decide +kernel
theorem dX7_init_7 : decode cX7_init 7 = .ok (.newarray .long, 2) := by decide +kernel
theorem dX7_init_9 : decode cX7_init 9 = .ok (.putfield 9, 3) := by decide +kernel
theorem dX7_init_12 : decode cX7_init 12 = .ok (.aload_n 0, 1) := by decide +kernel
theorem dX7_init_13 : decode cX7_init 13 = .ok (.iconst (-1), 1) := by decide +kernel
theorem dX7_init_14 : decode cX7_init 14 = .ok (.putfield 15, 3) := by decide +kernel
theorem dX7_init_17 : decode cX7_init 17 = .ok (.return_, 1) := by decide +kernel
theorem dX7_takesDesk_0 : decode cX7_takesDesk 0 = .ok (.aload_n 0, 1) := by decide +kernel
theorem dX7_takesDesk_1 : decode cX7_takesDesk 1 = .ok (.iload_n 1, 1) := by decide +kernel
theorem dX7_takesDesk_2 : decode cX7_takesDesk 2 = .ok (.ifCond .ge 7, 3) := by decide +kernel
theorem dX7_takesDesk_5 : decode cX7_takesDesk 5 = .ok (.iconst (-1), 1) := by decide +kernel
theorem dX7_takesDesk_6 : decode cX7_takesDesk 6 = .ok (.goto 5, 3) := by decide +kernel
theorem dX7_takesDesk_9 : decode cX7_takesDesk 9 = .ok (.bipush (-2), 2) := by decide +kernel
theorem dX7_takesDesk_11 : decode cX7_takesDesk 11 = .ok (.putfield 15, 3) := by decide +kernel
theorem dX7_takesDesk_14 : decode cX7_takesDesk 14 = .ok (.aload_n 0, 1) := by decide +kernel
theorem dX7_takesDesk_15 : decode cX7_takesDesk 15 = .ok (.iload_n 1, 1) := by decide +kernel
theorem dX7_takesDesk_16 : decode cX7_takesDesk 16 = .ok (.putfield 19, 3) := by decide +kernel
theorem dX7_takesDesk_19 : decode cX7_takesDesk 19 = .ok (.return_, 1) := by decide +kernel
theorem dX7_takesRow_0 : decode cX7_takesRow 0 = .ok (.aload_n 0, 1) := by decide +kernel
theorem dX7_takesRow_1 : decode cX7_takesRow 1 = .ok (.iload_n 1, 1) := by decide +kernel
theorem dX7_takesRow_2 : decode cX7_takesRow 2 = .ok (.putfield 15, 3) := by decide +kernel
theorem dX7_takesRow_5 : decode cX7_takesRow 5 = .ok (.aload_n 0, 1) := by decide +kernel
theorem dX7_takesRow_6 : decode cX7_takesRow 6 = .ok (.iload_n 2, 1) := by decide +kernel
theorem dX7_takesRow_7 : decode cX7_takesRow 7 = .ok (.putfield 22, 3) := by decide +kernel
theorem dX7_takesRow_10 : decode cX7_takesRow 10 = .ok (.iconst 0, 1) := by decide +kernel
theorem dX7_takesRow_11 : decode cX7_takesRow 11 = .ok (.istore_n 3, 1) := by decide +kernel
theorem dX7_takesRow_12 : decode cX7_takesRow 12 = .ok (.iload_n 3, 1) := by decide +kernel
theorem dX7_takesRow_13 : decode cX7_takesRow 13 = .ok (.iload_n 2, 1) := by decide +kernel
theorem dX7_takesRow_14 : decode cX7_takesRow 14 = .ok (.if_icmp .ge 16, 3) := by decide +kernel
theorem dX7_takesRow_17 : decode cX7_takesRow 17 = .ok (.aload_n 0, 1) := by decide +kernel
theorem dX7_takesRow_18 : decode cX7_takesRow 18 = .ok (.getfield 9, 3) := by decide +kernel
theorem dX7_takesRow_21 : decode cX7_takesRow 21 = .ok (.iload_n 3, 1) := by decide +kernel
theorem dX7_takesRow_22 : decode cX7_takesRow 22 = .ok (.lconst 0, 1) := by decide +kernel
theorem dX7_takesRow_23 : decode cX7_takesRow 23 = .ok (.lastore, 1) := by decide +kernel
theorem dX7_takesRow_24 : decode cX7_takesRow 24 = .ok (.iinc 3 1, 3) := by decide +kernel
theorem dX7_takesRow_27 : decode cX7_takesRow 27 = .ok (.goto (-15), 3) := by decide +kernel
theorem dX7_takesRow_30 : decode cX7_takesRow 30 = .ok (.return_, 1) := by decide +kernel
theorem dX8_init_0 : decode cX8_init 0 = .ok (.aload_n 0, 1) := by decide +kernel
theorem dX8_init_1 : decode cX8_init 1 = .ok (.invokespecial 3, 3) := by decide +kernel
theorem dX8_init_4 : decode cX8_init 4 = .ok (.aload_n 0, 1) := by decide +kernel
theorem dX8_init_5 : decode cX8_init 5 = .ok (.bipush 61, 2) := by decide +kernel
theorem dX8_init_7 : decode cX8_init 7 = .ok (.newarray .int, 2) := by decide +kernel
theorem dX8_init_9 : decode cX8_init 9 = .ok (.putfield 9, 3) := by decide +kernel
theorem dX8_init_12 : decode cX8_init 12 = .ok (.aload_n 0, 1) := by decide +kernel
theorem dX8_init_13 : decode cX8_init 13 = .ok (.bipush 61, 2) := by decide +kernel
theorem dX8_init_15 : decode cX8_init 15 = .ok (.newarray .boolean, 2) := by decide +kernel
theorem dX8_init_17 : decode cX8_init 17 = .ok (.putfield 15, 3) := by decide +kernel
theorem dX8_init_20 : decode cX8_init 20 = .ok (.aload_n 0, 1) := by decide +kernel
theorem dX8_init_21 : decode cX8_init 21 = .ok (.bipush 8, 2) := by decide +kernel
theorem dX8_init_23 : decode cX8_init 23 = .ok (.newarray .int, 2) := by decide +kernel
theorem dX8_init_25 : decode cX8_init 25 = .ok (.putfield 19, 3) := by decide +kernel
theorem dX8_init_28 : decode cX8_init 28 = .ok (.aload_n 0, 1) := by decide +kernel
theorem dX8_init_29 : decode cX8_init 29 = .ok (.sipush 256, 3) := by decide +kernel
theorem dX8_init_32 : decode cX8_init 32 = .ok (.newarray .int, 2) := by decide +kernel
theorem dX8_init_34 : decode cX8_init 34 = .ok (.putfield 22, 3) := by decide +kernel
theorem dX8_init_37 : decode cX8_init 37 = .ok (.aload_n 0, 1) := by decide +kernel
theorem dX8_init_38 : decode cX8_init 38 = .ok (.sipush 256, 3) := by decide +kernel
theorem dX8_init_41 : decode cX8_init 41 = .ok (.newarray .int, 2) := by decide +kernel
theorem dX8_init_43 : decode cX8_init 43 = .ok (.putfield 25, 3) := by decide +kernel
theorem dX8_init_46 : decode cX8_init 46 = .ok (.aload_n 0, 1) := by decide +kernel
theorem dX8_init_47 : decode cX8_init 47 = .ok (.iconst 3, 1) := by decide +kernel
theorem dX8_init_48 : decode cX8_init 48 = .ok (.newarray .int, 2) := by decide +kernel
theorem dX8_init_50 : decode cX8_init 50 = .ok (.putfield 28, 3) := by decide +kernel
theorem dX8_init_53 : decode cX8_init 53 = .ok (.aload_n 0, 1) := by decide +kernel
theorem dX8_init_54 : decode cX8_init 54 = .ok (.iconst 3, 1) := by decide +kernel
theorem dX8_init_55 : decode cX8_init 55 = .ok (.newarray .int, 2) := by decide +kernel
theorem dX8_init_57 : decode cX8_init 57 = .ok (.putfield 31, 3) := by decide +kernel
theorem dX8_init_60 : decode cX8_init 60 = .ok (.aload_n 0, 1) := by decide +kernel
theorem dX8_init_61 : decode cX8_init 61 = .ok (.aload_n 1, 1) := by decide +kernel
theorem dX8_init_62 : decode cX8_init 62 = .ok (.putfield 34, 3) := by decide +kernel
theorem dX8_init_65 : decode cX8_init 65 = .ok (.aload_n 0, 1) := by decide +kernel
theorem dX8_init_66 : decode cX8_init 66 = .ok (.aload_n 2, 1) := by decide +kernel
theorem dX8_init_67 : decode cX8_init 67 = .ok (.putfield 38, 3) := by decide +kernel
theorem dX8_init_70 : decode cX8_init 70 = .ok (.return_, 1) := by decide +kernel
theorem dX9_init_0 : decode cX9_init 0 = .ok (.aload_n 0, 1) := by decide +kernel
theorem dX9_init_1 : decode cX9_init 1 = .ok (.invokespecial 3, 3) := by decide +kernel
theorem dX9_init_4 : decode cX9_init 4 = .ok (.aload_n 0, 1) := by decide +kernel
theorem dX9_init_5 : decode cX9_init 5 = .ok (.sipush 1342, 3) := by decide +kernel
theorem dX9_init_8 : decode cX9_init 8 = .ok (.newarray .int, 2) := by decide +kernel
theorem dX9_init_10 : decode cX9_init 10 = .ok (.putfield 9, 3) := by decide +kernel
theorem dX9_init_13 : decode cX9_init 13 = .ok (.aload_n 0, 1) := by decide +kernel
theorem dX9_init_14 : decode cX9_init 14 = .ok (.aload_n 1, 1) := by decide +kernel
theorem dX9_init_15 : decode cX9_init 15 = .ok (.putfield 15, 3) := by decide +kernel
theorem dX9_init_18 : decode cX9_init 18 = .ok (.aload_n 0, 1) := by decide +kernel
theorem dX9_init_19 : decode cX9_init 19 = .ok (.aload_n 2, 1) := by decide +kernel
theorem dX9_init_20 : decode cX9_init 20 = .ok (.putfield 19, 3) := by decide +kernel
theorem dX9_init_23 : decode cX9_init 23 = .ok (.return_, 1) := by decide +kernel
theorem dX10_init_0 : decode cX10_init 0 = .ok (.aload_n 0, 1) := by decide +kernel
theorem dX10_init_1 : decode cX10_init 1 = .ok (.invokespecial 3, 3) := by decide +kernel
theorem dX10_init_4 : decode cX10_init 4 = .ok (.aload_n 0, 1) := by decide +kernel
theorem dX10_init_5 : decode cX10_init 5 = .ok (.bipush 21, 2) := by decide +kernel
theorem dX10_init_7 : decode cX10_init 7 = .ok (.newarray .int, 2) := by decide +kernel
theorem dX10_init_9 : decode cX10_init 9 = .ok (.putfield 9, 3) := by decide +kernel
theorem dX10_init_12 : decode cX10_init 12 = .ok (.aload_n 0, 1) := by decide +kernel
theorem dX10_init_13 : decode cX10_init 13 = .ok (.bipush 8, 2) := by decide +kernel
theorem dX10_init_15 : decode cX10_init 15 = .ok (.newarray .int, 2) := by decide +kernel
theorem dX10_init_17 : decode cX10_init 17 = .ok (.putfield 15, 3) := by decide +kernel
theorem dX10_init_20 : decode cX10_init 20 = .ok (.return_, 1) := by decide +kernel
theorem dX11_init_0 : decode cX11_init 0 = .ok (.aload_n 0, 1) := by decide +kernel
theorem dX11_init_1 : decode cX11_init 1 = .ok (.invokespecial 3, 3) := by decide +kernel
theorem dX11_init_4 : decode cX11_init 4 = .ok (.aload_n 0, 1) := by decide +kernel
theorem dX11_init_5 : decode cX11_init 5 = .ok (.new 9, 3) := by decide +kernel
theorem dX11_init_8 : decode cX11_init 8 = .ok (.dup, 1) := by decide +kernel
theorem dX11_init_9 : decode cX11_init 9 = .ok (.invokespecial 11, 3) := by decide +kernel
theorem dX11_init_12 : decode cX11_init 12 = .ok (.putfield 12, 3) := by decide +kernel
theorem dX11_init_15 : decode cX11_init 15 = .ok (.aload_n 0, 1) := by decide +kernel
theorem dX11_init_16 : decode cX11_init 16 = .ok (.new 16, 3) := by decide +kernel
theorem dX11_init_19 : decode cX11_init 19 = .ok (.dup, 1) := by decide +kernel
theorem dX11_init_20 : decode cX11_init 20 = .ok (.invokespecial 18, 3) := by decide +kernel
theorem dX11_init_23 : decode cX11_init 23 = .ok (.putfield 19, 3) := by decide +kernel
theorem dX11_init_26 : decode cX11_init 26 = .ok (.aload_n 0, 1) := by decide +kernel
theorem dX11_init_27 : decode cX11_init 27 = .ok (.new 23, 3) := by decide +kernel
theorem dX11_init_30 : decode cX11_init 30 = .ok (.dup, 1) := by decide +kernel
theorem dX11_init_31 : decode cX11_init 31 = .ok (.aload_n 0, 1) := by decide +kernel
theorem dX11_init_32 : decode cX11_init 32 = .ok (.getfield 12, 3) := by decide +kernel
theorem dX11_init_35 : decode cX11_init 35 = .ok (.aload_n 0, 1) := by decide +kernel
theorem dX11_init_36 : decode cX11_init 36 = .ok (.getfield 19, 3) := by decide +kernel
theorem dX11_init_39 : decode cX11_init 39 = .ok (.invokespecial 25, 3) := by decide +kernel
theorem dX11_init_42 : decode cX11_init 42 = .ok (.putfield 28, 3) := by decide +kernel
theorem dX11_init_45 : decode cX11_init 45 = .ok (.aload_n 0, 1) := by decide +kernel
theorem dX11_init_46 : decode cX11_init 46 = .ok (.new 32, 3) := by decide +kernel
theorem dX11_init_49 : decode cX11_init 49 = .ok (.dup, 1) := by decide +kernel
theorem dX11_init_50 : decode cX11_init 50 = .ok (.aload_n 0, 1) := by decide +kernel
theorem dX11_init_51 : decode cX11_init 51 = .ok (.getfield 12, 3) := by decide +kernel
theorem dX11_init_54 : decode cX11_init 54 = .ok (.aload_n 0, 1) := by decide +kernel
theorem dX11_init_55 : decode cX11_init 55 = .ok (.getfield 19, 3) := by decide +kernel
theorem dX11_init_58 : decode cX11_init 58 = .ok (.invokespecial 34, 3) := by decide +kernel
theorem dX11_init_61 : decode cX11_init 61 = .ok (.putfield 35, 3) := by decide +kernel
theorem dX11_init_64 : decode cX11_init 64 = .ok (.aload_n 0, 1) := by decide +kernel
theorem dX11_init_65 : decode cX11_init 65 = .ok (.new 39, 3) := by decide +kernel
theorem dX11_init_68 : decode cX11_init 68 = .ok (.dup, 1) := by decide +kernel
theorem dX11_init_69 : decode cX11_init 69 = .ok (.aload_n 0, 1) := by decide +kernel
theorem dX11_init_70 : decode cX11_init 70 = .ok (.getfield 12, 3) := by decide +kernel
theorem dX11_init_73 : decode cX11_init 73 = .ok (.aload_n 0, 1) := by decide +kernel
theorem dX11_init_74 : decode cX11_init 74 = .ok (.getfield 19, 3) := by decide +kernel
theorem dX11_init_77 : decode cX11_init 77 = .ok (.invokespecial 41, 3) := by decide +kernel
theorem dX11_init_80 : decode cX11_init 80 = .ok (.putfield 42, 3) := by decide +kernel
theorem dX11_init_83 : decode cX11_init 83 = .ok (.aload_n 0, 1) := by decide +kernel
theorem dX11_init_84 : decode cX11_init 84 = .ok (.new 46, 3) := by decide +kernel
theorem dX11_init_87 : decode cX11_init 87 = .ok (.dup, 1) := by decide +kernel
theorem dX11_init_88 : decode cX11_init 88 = .ok (.aload_n 0, 1) := by decide +kernel
theorem dX11_init_89 : decode cX11_init 89 = .ok (.getfield 12, 3) := by decide +kernel
theorem dX11_init_92 : decode cX11_init 92 = .ok (.invokespecial 48, 3) := by decide +kernel
theorem dX11_init_95 : decode cX11_init 95 = .ok (.putfield 51, 3) := by decide +kernel
theorem dX11_init_98 : decode cX11_init 98 = .ok (.aload_n 0, 1) := by decide +kernel
theorem dX11_init_99 : decode cX11_init 99 = .ok (.new 55, 3) := by decide +kernel
theorem dX11_init_102 : decode cX11_init 102 = .ok (.dup, 1) := by decide +kernel
theorem dX11_init_103 : decode cX11_init 103 = .ok (.aload_n 0, 1) := by decide +kernel
theorem dX11_init_104 : decode cX11_init 104 = .ok (.getfield 12, 3) := by decide +kernel
theorem dX11_init_107 : decode cX11_init 107 = .ok (.aload_n 0, 1) := by decide +kernel
theorem dX11_init_108 : decode cX11_init 108 = .ok (.getfield 28, 3) := by decide +kernel
theorem dX11_init_111 : decode cX11_init 111 = .ok (.invokespecial 57, 3) := by decide +kernel
theorem dX11_init_114 : decode cX11_init 114 = .ok (.putfield 60, 3) := by decide +kernel
theorem dX11_init_117 : decode cX11_init 117 = .ok (.aload_n 0, 1) := by decide +kernel
theorem dX11_init_118 : decode cX11_init 118 = .ok (.new 64, 3) := by decide +kernel
theorem dX11_init_121 : decode cX11_init 121 = .ok (.dup, 1) := by decide +kernel
theorem dX11_init_122 : decode cX11_init 122 = .ok (.invokespecial 66, 3) := by decide +kernel
theorem dX11_init_125 : decode cX11_init 125 = .ok (.putfield 67, 3) := by decide +kernel
theorem dX11_init_128 : decode cX11_init 128 = .ok (.aload_n 0, 1) := by decide +kernel
theorem dX11_init_129 : decode cX11_init 129 = .ok (.new 71, 3) := by decide +kernel
theorem dX11_init_132 : decode cX11_init 132 = .ok (.dup, 1) := by decide +kernel
theorem dX11_init_133 : decode cX11_init 133 = .ok (.invokespecial 73, 3) := by decide +kernel
theorem dX11_init_136 : decode cX11_init 136 = .ok (.putfield 74, 3) := by decide +kernel
theorem dX11_init_139 : decode cX11_init 139 = .ok (.aload_n 0, 1) := by decide +kernel
theorem dX11_init_140 : decode cX11_init 140 = .ok (.bipush 6, 2) := by decide +kernel
theorem dX11_init_142 : decode cX11_init 142 = .ok (.anewarray 78, 3) := by decide +kernel
theorem dX11_init_145 : decode cX11_init 145 = .ok (.putfield 80, 3) := by decide +kernel
theorem dX11_init_148 : decode cX11_init 148 = .ok (.iconst 0, 1) := by decide +kernel
theorem dX11_init_149 : decode cX11_init 149 = .ok (.istore_n 1, 1) := by decide +kernel
theorem dX11_init_150 : decode cX11_init 150 = .ok (.iload_n 1, 1) := by decide +kernel
theorem dX11_init_151 : decode cX11_init 151 = .ok (.bipush 6, 2) := by decide +kernel
theorem dX11_init_153 : decode cX11_init 153 = .ok (.if_icmp .ge 22, 3) := by decide +kernel
theorem dX11_init_156 : decode cX11_init 156 = .ok (.aload_n 0, 1) := by decide +kernel
theorem dX11_init_157 : decode cX11_init 157 = .ok (.getfield 80, 3) := by decide +kernel
theorem dX11_init_160 : decode cX11_init 160 = .ok (.iload_n 1, 1) := by decide +kernel
theorem dX11_init_161 : decode cX11_init 161 = .ok (.new 78, 3) := by decide +kernel
theorem dX11_init_164 : decode cX11_init 164 = .ok (.dup, 1) := by decide +kernel
theorem dX11_init_165 : decode cX11_init 165 = .ok (.invokespecial 84, 3) := by decide +kernel
theorem dX11_init_168 : decode cX11_init 168 = .ok (.aastore, 1) := by decide +kernel
theorem dX11_init_169 : decode cX11_init 169 = .ok (.iinc 1 1, 3) := by decide +kernel
theorem dX11_init_172 : decode cX11_init 172 = .ok (.goto (-22), 3) := by decide +kernel
theorem dX11_init_175 : decode cX11_init 175 = .ok (.return_, 1) := by decide +kernel
theorem dX11_sitter_0 : decode cX11_sitter 0 = .ok (.iload_n 1, 1) := by decide +kernel
theorem dX11_sitter_1 : decode cX11_sitter 1 = .ok (.invokestatic 85, 3) := by decide +kernel
theorem dX11_sitter_4 : decode cX11_sitter 4 = .ok (.ifCond .eq 11, 3) := by decide +kernel
theorem dX11_sitter_7 : decode cX11_sitter 7 = .ok (.iconst 5, 1) := by decide +kernel
theorem dX11_sitter_8 : decode cX11_sitter 8 = .ok (.iload_n 2, 1) := by decide +kernel
theorem dX11_sitter_9 : decode cX11_sitter 9 = .ok (.invokestatic 89, 3) := by decide +kernel
theorem dX11_sitter_12 : decode cX11_sitter 12 = .ok (.ifCond .ne 5, 3) := by decide +kernel
theorem dX11_sitter_15 : decode cX11_sitter 15 = .ok (.iconst (-1), 1) := by decide +kernel
theorem dX11_sitter_16 : decode cX11_sitter 16 = .ok (.ireturn, 1) := by decide +kernel
theorem dX11_sitter_17 : decode cX11_sitter 17 = .ok (.aload_n 0, 1) := by decide +kernel
theorem dX11_sitter_18 : decode cX11_sitter 18 = .ok (.getfield 12, 3) := by decide +kernel
theorem dX11_sitter_21 : decode cX11_sitter 21 = .ok (.iload_n 1, 1) := by decide +kernel
theorem dX11_sitter_22 : decode cX11_sitter 22 = .ok (.iload_n 1, 1) := by decide +kernel
theorem dX11_sitter_23 : decode cX11_sitter 23 = .ok (.iload_n 1, 1) := by decide +kernel
theorem dX11_sitter_24 : decode cX11_sitter 24 = .ok (.iload_n 2, 1) := by decide +kernel
theorem dX11_sitter_25 : decode cX11_sitter 25 = .ok (.invokevirtual 93, 3) := by decide +kernel
theorem dX11_sitter_28 : decode cX11_sitter 28 = .ok (.ireturn, 1) := by decide +kernel
theorem dX11_sitters_0 : decode cX11_sitters 0 = .ok (.iload_n 1, 1) := by decide +kernel
theorem dX11_sitters_1 : decode cX11_sitters 1 = .ok (.invokestatic 97, 3) := by decide +kernel
theorem dX11_sitters_4 : decode cX11_sitters 4 = .ok (.ifCond .eq 14, 3) := by decide +kernel
theorem dX11_sitters_7 : decode cX11_sitters 7 = .ok (.iload_n 3, 1) := by decide +kernel
theorem dX11_sitters_8 : decode cX11_sitters 8 = .ok (.iconst 1, 1) := by decide +kernel
theorem dX11_sitters_9 : decode cX11_sitters 9 = .ok (.if_icmp .lt 9, 3) := by decide +kernel
theorem dX11_sitters_12 : decode cX11_sitters 12 = .ok (.iload_n 3, 1) := by decide +kernel
theorem dX11_sitters_13 : decode cX11_sitters 13 = .ok (.bipush 8, 2) := by decide +kernel
theorem dX11_sitters_15 : decode cX11_sitters 15 = .ok (.if_icmp .le 5, 3) := by decide +kernel
theorem dX11_sitters_18 : decode cX11_sitters 18 = .ok (.iconst (-1), 1) := by decide +kernel
theorem dX11_sitters_19 : decode cX11_sitters 19 = .ok (.ireturn, 1) := by decide +kernel
theorem dX11_sitters_20 : decode cX11_sitters 20 = .ok (.aload_n 0, 1) := by decide +kernel
theorem dX11_sitters_21 : decode cX11_sitters 21 = .ok (.getfield 80, 3) := by decide +kernel
theorem dX11_sitters_24 : decode cX11_sitters 24 = .ok (.iload_n 1, 1) := by decide +kernel
theorem dX11_sitters_25 : decode cX11_sitters 25 = .ok (.aaload, 1) := by decide +kernel
theorem dX11_sitters_26 : decode cX11_sitters 26 = .ok (.astore 4, 2) := by decide +kernel
theorem dX11_sitters_28 : decode cX11_sitters 28 = .ok (.aload 4, 2) := by decide +kernel
theorem dX11_sitters_30 : decode cX11_sitters 30 = .ok (.getfield 100, 3) := by decide +kernel
theorem dX11_sitters_33 : decode cX11_sitters 33 = .ok (.iconst (-1), 1) := by decide +kernel
theorem dX11_sitters_34 : decode cX11_sitters 34 = .ok (.if_icmp .ne 5, 3) := by decide +kernel
theorem dX11_sitters_37 : decode cX11_sitters 37 = .ok (.iconst 0, 1) := by decide +kernel
theorem dX11_sitters_38 : decode cX11_sitters 38 = .ok (.ireturn, 1) := by decide +kernel
theorem dX11_mend_0 : decode cX11_mend 0 = .ok (.aload_n 0, 1) := by decide +kernel
theorem dX11_mend_1 : decode cX11_mend 1 = .ok (.getfield 12, 3) := by decide +kernel
theorem dX11_mend_4 : decode cX11_mend 4 = .ok (.iload_n 1, 1) := by decide +kernel
theorem dX11_mend_5 : decode cX11_mend 5 = .ok (.iload_n 2, 1) := by decide +kernel
theorem dX11_mend_6 : decode cX11_mend 6 = .ok (.invokevirtual 108, 3) := by decide +kernel
theorem dX11_mend_9 : decode cX11_mend 9 = .ok (.istore 4, 2) := by decide +kernel
theorem dX11_mend_11 : decode cX11_mend 11 = .ok (.iload 4, 2) := by decide +kernel
theorem dX11_mend_13 : decode cX11_mend 13 = .ok (.ifCond .lt 11, 3) := by decide +kernel
theorem dX11_mend_16 : decode cX11_mend 16 = .ok (.iload_n 2, 1) := by decide +kernel
theorem dX11_mend_17 : decode cX11_mend 17 = .ok (.iload_n 3, 1) := by decide +kernel
theorem dX11_mend_18 : decode cX11_mend 18 = .ok (.invokestatic 89, 3) := by decide +kernel
theorem dX11_mend_21 : decode cX11_mend 21 = .ok (.ifCond .ne 5, 3) := by decide +kernel
theorem dX11_mend_24 : decode cX11_mend 24 = .ok (.iconst (-1), 1) := by decide +kernel
theorem dX11_mend_25 : decode cX11_mend 25 = .ok (.ireturn, 1) := by decide +kernel
theorem dX11_mend_26 : decode cX11_mend 26 = .ok (.aload_n 0, 1) := by decide +kernel
theorem dX11_mend_27 : decode cX11_mend 27 = .ok (.getfield 12, 3) := by decide +kernel
theorem dX11_mend_30 : decode cX11_mend 30 = .ok (.getfield 112, 3) := by decide +kernel
theorem dX11_mend_33 : decode cX11_mend 33 = .ok (.iload 4, 2) := by decide +kernel
theorem dX11_mend_35 : decode cX11_mend 35 = .ok (.iaload, 1) := by decide +kernel
theorem dX11_mend_36 : decode cX11_mend 36 = .ok (.istore 5, 2) := by decide +kernel
theorem dX11_mend_38 : decode cX11_mend 38 = .ok (.iload 5, 2) := by decide +kernel
theorem dX11_mend_40 : decode cX11_mend 40 = .ok (.iload_n 3, 1) := by decide +kernel
theorem dX11_mend_41 : decode cX11_mend 41 = .ok (.if_icmp .eq 25, 3) := by decide +kernel
theorem dX11_mend_44 : decode cX11_mend 44 = .ok (.aload_n 0, 1) := by decide +kernel
theorem dX11_mend_45 : decode cX11_mend 45 = .ok (.getfield 67, 3) := by decide +kernel
theorem dX11_mend_48 : decode cX11_mend 48 = .ok (.iload 4, 2) := by decide +kernel
theorem dX11_mend_50 : decode cX11_mend 50 = .ok (.iload 5, 2) := by decide +kernel
theorem dX11_mend_52 : decode cX11_mend 52 = .ok (.iload_n 3, 1) := by decide +kernel
theorem dX11_mend_53 : decode cX11_mend 53 = .ok (.invokevirtual 116, 3) := by decide +kernel
theorem dX11_mend_56 : decode cX11_mend 56 = .ok (.aload_n 0, 1) := by decide +kernel
theorem dX11_mend_57 : decode cX11_mend 57 = .ok (.getfield 12, 3) := by decide +kernel
theorem dX11_mend_60 : decode cX11_mend 60 = .ok (.iload 4, 2) := by decide +kernel
theorem dX11_mend_62 : decode cX11_mend 62 = .ok (.iload_n 3, 1) := by decide +kernel
theorem dX11_mend_63 : decode cX11_mend 63 = .ok (.invokevirtual 119, 3) := by decide +kernel
theorem dX11_mend_66 : decode cX11_mend 66 = .ok (.iload 5, 2) := by decide +kernel
theorem dX11_mend_68 : decode cX11_mend 68 = .ok (.ireturn, 1) := by decide +kernel
theorem dX11_of_0 : decode cX11_of 0 = .ok (.iload_n 2, 1) := by decide +kernel
theorem dX11_of_1 : decode cX11_of 1 = .ok (.bipush 11, 2) := by decide +kernel
theorem dX11_of_3 : decode cX11_of 3 = .ok (.if_icmp .ne 24, 3) := by decide +kernel
theorem dX11_of_6 : decode cX11_of 6 = .ok (.iload_n 1, 1) := by decide +kernel
theorem dX11_of_7 : decode cX11_of 7 = .ok (.invokestatic 123, 3) := by decide +kernel
theorem dX11_of_10 : decode cX11_of 10 = .ok (.ifCond .eq 15, 3) := by decide +kernel
theorem dX11_of_13 : decode cX11_of 13 = .ok (.aload_n 0, 1) := by decide +kernel
theorem dX11_of_14 : decode cX11_of 14 = .ok (.getfield 12, 3) := by decide +kernel
theorem dX11_of_17 : decode cX11_of 17 = .ok (.getfield 126, 3) := by decide +kernel
theorem dX11_of_20 : decode cX11_of 20 = .ok (.iload_n 1, 1) := by decide +kernel
theorem dX11_of_21 : decode cX11_of 21 = .ok (.iaload, 1) := by decide +kernel
theorem dX11_of_22 : decode cX11_of 22 = .ok (.goto 4, 3) := by decide +kernel
theorem dX11_of_25 : decode cX11_of 25 = .ok (.iconst (-1), 1) := by decide +kernel
theorem dX11_of_26 : decode cX11_of 26 = .ok (.ireturn, 1) := by decide +kernel
theorem dX11_of_27 : decode cX11_of 27 = .ok (.aload_n 0, 1) := by decide +kernel
theorem dX11_of_28 : decode cX11_of 28 = .ok (.getfield 12, 3) := by decide +kernel
theorem dX11_of_31 : decode cX11_of 31 = .ok (.iload_n 1, 1) := by decide +kernel
theorem dX11_of_32 : decode cX11_of 32 = .ok (.iload_n 2, 1) := by decide +kernel
theorem dX11_of_33 : decode cX11_of 33 = .ok (.invokevirtual 108, 3) := by decide +kernel
theorem dX11_of_36 : decode cX11_of 36 = .ok (.istore_n 3, 1) := by decide +kernel
theorem dX11_of_37 : decode cX11_of 37 = .ok (.iload_n 3, 1) := by decide +kernel
theorem dX11_of_38 : decode cX11_of 38 = .ok (.ifCond .ge 7, 3) := by decide +kernel
theorem dX11_of_41 : decode cX11_of 41 = .ok (.iconst (-1), 1) := by decide +kernel
theorem dX11_of_42 : decode cX11_of 42 = .ok (.goto 12, 3) := by decide +kernel
theorem dX11_of_45 : decode cX11_of 45 = .ok (.aload_n 0, 1) := by decide +kernel
theorem dX11_of_46 : decode cX11_of 46 = .ok (.getfield 12, 3) := by decide +kernel
theorem dX11_of_49 : decode cX11_of 49 = .ok (.getfield 112, 3) := by decide +kernel
theorem dX11_of_52 : decode cX11_of 52 = .ok (.iload_n 3, 1) := by decide +kernel
theorem dX11_of_53 : decode cX11_of 53 = .ok (.iaload, 1) := by decide +kernel
theorem dX11_of_54 : decode cX11_of 54 = .ok (.ireturn, 1) := by decide +kernel
theorem dX11_feed_0 : decode cX11_feed 0 = .ok (.iload_n 1, 1) := by decide +kernel
theorem dX11_feed_1 : decode cX11_feed 1 = .ok (.ifCond .lt 10, 3) := by decide +kernel
theorem dX11_feed_4 : decode cX11_feed 4 = .ok (.iload_n 1, 1) := by decide +kernel
theorem dX11_feed_5 : decode cX11_feed 5 = .ok (.sipush 255, 3) := by decide +kernel
theorem dX11_feed_8 : decode cX11_feed 8 = .ok (.if_icmp .le 7, 3) := by decide +kernel
theorem dX11_feed_11 : decode cX11_feed 11 = .ok (.iconst (-1), 1) := by decide +kernel
theorem dX11_feed_12 : decode cX11_feed 12 = .ok (.goto 14, 3) := by decide +kernel
theorem dX11_feed_15 : decode cX11_feed 15 = .ok (.aload_n 0, 1) := by decide +kernel
theorem dX11_feed_16 : decode cX11_feed 16 = .ok (.getfield 12, 3) := by decide +kernel
theorem dX11_feed_19 : decode cX11_feed 19 = .ok (.getfield 129, 3) := by decide +kernel
theorem dX11_feed_22 : decode cX11_feed 22 = .ok (.iload_n 1, 1) := by decide +kernel
theorem dX11_feed_23 : decode cX11_feed 23 = .ok (.invokevirtual 133, 3) := by decide +kernel
theorem dX11_feed_26 : decode cX11_feed 26 = .ok (.ireturn, 1) := by decide +kernel
theorem dX11_law_0 : decode cX11_law 0 = .ok (.aload_n 0, 1) := by decide +kernel
theorem dX11_law_1 : decode cX11_law 1 = .ok (.getfield 12, 3) := by decide +kernel
theorem dX11_law_4 : decode cX11_law 4 = .ok (.getfield 129, 3) := by decide +kernel
theorem dX11_law_7 : decode cX11_law 7 = .ok (.invokevirtual 139, 3) := by decide +kernel
theorem dX11_law_10 : decode cX11_law 10 = .ok (.istore_n 1, 1) := by decide +kernel
theorem dX11_law_11 : decode cX11_law 11 = .ok (.iload_n 1, 1) := by decide +kernel
theorem dX11_law_12 : decode cX11_law 12 = .ok (.iconst 1, 1) := by decide +kernel
theorem dX11_law_13 : decode cX11_law 13 = .ok (.if_icmp .ne 10, 3) := by decide +kernel
theorem dX11_law_23 : decode cX11_law 23 = .ok (.iload_n 1, 1) := by decide +kernel
theorem dX11_law_24 : decode cX11_law 24 = .ok (.ireturn, 1) := by decide +kernel
theorem dX11_loss_0 : decode cX11_loss 0 = .ok (.aload_n 0, 1) := by decide +kernel
theorem dX11_loss_1 : decode cX11_loss 1 = .ok (.getfield 12, 3) := by decide +kernel
theorem dX11_loss_4 : decode cX11_loss 4 = .ok (.iload_n 1, 1) := by decide +kernel
theorem dX11_loss_5 : decode cX11_loss 5 = .ok (.invokevirtual 146, 3) := by decide +kernel
theorem dX11_loss_8 : decode cX11_loss 8 = .ok (.ifCond .eq 17, 3) := by decide +kernel
theorem dX11_loss_25 : decode cX11_loss 25 = .ok (.iconst (-1), 1) := by decide +kernel
theorem dX11_loss_26 : decode cX11_loss 26 = .ok (.ireturn, 1) := by decide +kernel
theorem dX11_never_0 : decode cX11_never 0 = .ok (.iload_n 1, 1) := by decide +kernel
theorem dX11_never_1 : decode cX11_never 1 = .ok (.invokestatic 97, 3) := by decide +kernel
theorem dX11_never_4 : decode cX11_never 4 = .ok (.ifCond .eq 17, 3) := by decide +kernel
theorem dX11_never_7 : decode cX11_never 7 = .ok (.iload_n 2, 1) := by decide +kernel
theorem dX11_never_8 : decode cX11_never 8 = .ok (.invokestatic 123, 3) := by decide +kernel
theorem dX11_never_11 : decode cX11_never 11 = .ok (.ifCond .eq 10, 3) := by decide +kernel
theorem dX11_never_14 : decode cX11_never 14 = .ok (.iload_n 3, 1) := by decide +kernel
theorem dX11_never_15 : decode cX11_never 15 = .ok (.invokestatic 85, 3) := by decide +kernel
theorem dX11_never_18 : decode cX11_never 18 = .ok (.ifCond .ne 5, 3) := by decide +kernel
theorem dX11_never_21 : decode cX11_never 21 = .ok (.iconst (-1), 1) := by decide +kernel
theorem dX11_never_22 : decode cX11_never 22 = .ok (.ireturn, 1) := by decide +kernel
theorem dX11_never_23 : decode cX11_never 23 = .ok (.aload_n 0, 1) := by decide +kernel
theorem dX11_never_24 : decode cX11_never 24 = .ok (.iload_n 1, 1) := by decide +kernel
theorem dX11_never_25 : decode cX11_never 25 = .ok (.invokevirtual 153, 3) := by decide +kernel
theorem dX11_never_28 : decode cX11_never 28 = .ok (.istore 4, 2) := by decide +kernel
theorem dX11_never_30 : decode cX11_never 30 = .ok (.iload 4, 2) := by decide +kernel
theorem dX11_never_32 : decode cX11_never 32 = .ok (.ifCond .eq 8, 3) := by decide +kernel
theorem dX11_never_35 : decode cX11_never 35 = .ok (.iload 4, 2) := by decide +kernel
theorem dX11_never_37 : decode cX11_never 37 = .ok (.goto 12, 3) := by decide +kernel
theorem dX11_never_49 : decode cX11_never 49 = .ok (.ireturn, 1) := by decide +kernel
theorem dX11_best_0 : decode cX11_best 0 = .ok (.iload_n 1, 1) := by decide +kernel
theorem dX11_best_1 : decode cX11_best 1 = .ok (.invokestatic 97, 3) := by decide +kernel
theorem dX11_best_4 : decode cX11_best 4 = .ok (.ifCond .eq 19, 3) := by decide +kernel
theorem dX11_best_7 : decode cX11_best 7 = .ok (.iload_n 2, 1) := by decide +kernel
theorem dX11_best_8 : decode cX11_best 8 = .ok (.invokestatic 123, 3) := by decide +kernel
theorem dX11_best_11 : decode cX11_best 11 = .ok (.ifCond .eq 12, 3) := by decide +kernel
theorem dX11_best_14 : decode cX11_best 14 = .ok (.iload_n 3, 1) := by decide +kernel
theorem dX11_best_15 : decode cX11_best 15 = .ok (.ifCond .lt 8, 3) := by decide +kernel
theorem dX11_best_18 : decode cX11_best 18 = .ok (.iload_n 3, 1) := by decide +kernel
theorem dX11_best_19 : decode cX11_best 19 = .ok (.iconst 3, 1) := by decide +kernel
theorem dX11_best_20 : decode cX11_best 20 = .ok (.if_icmp .le 5, 3) := by decide +kernel
theorem dX11_best_23 : decode cX11_best 23 = .ok (.iconst (-1), 1) := by decide +kernel
theorem dX11_best_24 : decode cX11_best 24 = .ok (.ireturn, 1) := by decide +kernel
theorem dX11_best_25 : decode cX11_best 25 = .ok (.aload_n 0, 1) := by decide +kernel
theorem dX11_best_26 : decode cX11_best 26 = .ok (.iload_n 1, 1) := by decide +kernel
theorem dX11_best_27 : decode cX11_best 27 = .ok (.invokevirtual 153, 3) := by decide +kernel
theorem dX11_best_30 : decode cX11_best 30 = .ok (.istore 4, 2) := by decide +kernel
theorem dX11_best_32 : decode cX11_best 32 = .ok (.iload 4, 2) := by decide +kernel
theorem dX11_best_34 : decode cX11_best 34 = .ok (.ifCond .eq 6, 3) := by decide +kernel
theorem dX11_best_37 : decode cX11_best 37 = .ok (.iload 4, 2) := by decide +kernel
theorem dX11_best_39 : decode cX11_best 39 = .ok (.ireturn, 1) := by decide +kernel
theorem dX11_middle_0 : decode cX11_middle 0 = .ok (.iload_n 1, 1) := by decide +kernel
theorem dX11_middle_1 : decode cX11_middle 1 = .ok (.invokestatic 97, 3) := by decide +kernel
theorem dX11_middle_4 : decode cX11_middle 4 = .ok (.ifCond .eq 10, 3) := by decide +kernel
theorem dX11_middle_7 : decode cX11_middle 7 = .ok (.iload_n 2, 1) := by decide +kernel
theorem dX11_middle_8 : decode cX11_middle 8 = .ok (.invokestatic 123, 3) := by decide +kernel
theorem dX11_middle_11 : decode cX11_middle 11 = .ok (.ifCond .ne 5, 3) := by decide +kernel
theorem dX11_middle_14 : decode cX11_middle 14 = .ok (.iconst (-1), 1) := by decide +kernel
theorem dX11_middle_15 : decode cX11_middle 15 = .ok (.ireturn, 1) := by decide +kernel
theorem dX11_middle_16 : decode cX11_middle 16 = .ok (.aload_n 0, 1) := by decide +kernel
theorem dX11_middle_17 : decode cX11_middle 17 = .ok (.iload_n 1, 1) := by decide +kernel
theorem dX11_middle_18 : decode cX11_middle 18 = .ok (.invokevirtual 153, 3) := by decide +kernel
theorem dX11_middle_21 : decode cX11_middle 21 = .ok (.istore_n 3, 1) := by decide +kernel
theorem dX11_middle_22 : decode cX11_middle 22 = .ok (.iload_n 3, 1) := by decide +kernel
theorem dX11_middle_23 : decode cX11_middle 23 = .ok (.ifCond .eq 5, 3) := by decide +kernel
theorem dX11_middle_26 : decode cX11_middle 26 = .ok (.iload_n 3, 1) := by decide +kernel
theorem dX11_middle_27 : decode cX11_middle 27 = .ok (.ireturn, 1) := by decide +kernel
theorem dX11_shifts_0 : decode cX11_shifts 0 = .ok (.iload_n 1, 1) := by decide +kernel
theorem dX11_shifts_1 : decode cX11_shifts 1 = .ok (.invokestatic 97, 3) := by decide +kernel
theorem dX11_shifts_4 : decode cX11_shifts 4 = .ok (.ifCond .eq 15, 3) := by decide +kernel
theorem dX11_shifts_7 : decode cX11_shifts 7 = .ok (.iload_n 2, 1) := by decide +kernel
theorem dX11_shifts_8 : decode cX11_shifts 8 = .ok (.invokestatic 123, 3) := by decide +kernel
theorem dX11_shifts_11 : decode cX11_shifts 11 = .ok (.ifCond .eq 8, 3) := by decide +kernel
theorem dX11_shifts_14 : decode cX11_shifts 14 = .ok (.iload_n 3, 1) := by decide +kernel
theorem dX11_shifts_15 : decode cX11_shifts 15 = .ok (.iconst (-1), 1) := by decide +kernel
theorem dX11_shifts_16 : decode cX11_shifts 16 = .ok (.if_icmp .ge 5, 3) := by decide +kernel
theorem dX11_shifts_19 : decode cX11_shifts 19 = .ok (.iconst (-1), 1) := by decide +kernel
theorem dX11_shifts_20 : decode cX11_shifts 20 = .ok (.ireturn, 1) := by decide +kernel
theorem dX11_shifts_21 : decode cX11_shifts 21 = .ok (.aload_n 0, 1) := by decide +kernel
theorem dX11_shifts_22 : decode cX11_shifts 22 = .ok (.iload_n 1, 1) := by decide +kernel
theorem dX11_shifts_23 : decode cX11_shifts 23 = .ok (.invokevirtual 153, 3) := by decide +kernel
theorem dX11_shifts_26 : decode cX11_shifts 26 = .ok (.istore 4, 2) := by decide +kernel
theorem dX11_shifts_28 : decode cX11_shifts 28 = .ok (.iload 4, 2) := by decide +kernel
theorem dX11_shifts_30 : decode cX11_shifts 30 = .ok (.ifCond .eq 6, 3) := by decide +kernel
theorem dX11_shifts_33 : decode cX11_shifts 33 = .ok (.iload 4, 2) := by decide +kernel
theorem dX11_shifts_35 : decode cX11_shifts 35 = .ok (.ireturn, 1) := by decide +kernel
theorem dX11_once_0 : decode cX11_once 0 = .ok (.iload_n 1, 1) := by decide +kernel
theorem dX11_once_1 : decode cX11_once 1 = .ok (.invokestatic 97, 3) := by decide +kernel
theorem dX11_once_4 : decode cX11_once 4 = .ok (.ifCond .eq 19, 3) := by decide +kernel
theorem dX11_once_7 : decode cX11_once 7 = .ok (.iload_n 2, 1) := by decide +kernel
theorem dX11_once_8 : decode cX11_once 8 = .ok (.invokestatic 123, 3) := by decide +kernel
theorem dX11_once_11 : decode cX11_once 11 = .ok (.ifCond .eq 12, 3) := by decide +kernel
theorem dX11_once_14 : decode cX11_once 14 = .ok (.iload_n 3, 1) := by decide +kernel
theorem dX11_once_15 : decode cX11_once 15 = .ok (.ifCond .lt 8, 3) := by decide +kernel
theorem dX11_once_18 : decode cX11_once 18 = .ok (.iload_n 3, 1) := by decide +kernel
theorem dX11_once_19 : decode cX11_once 19 = .ok (.iconst 2, 1) := by decide +kernel
theorem dX11_once_20 : decode cX11_once 20 = .ok (.if_icmp .le 5, 3) := by decide +kernel
theorem dX11_once_23 : decode cX11_once 23 = .ok (.iconst (-1), 1) := by decide +kernel
theorem dX11_once_24 : decode cX11_once 24 = .ok (.ireturn, 1) := by decide +kernel
theorem dX11_once_25 : decode cX11_once 25 = .ok (.aload_n 0, 1) := by decide +kernel
theorem dX11_once_26 : decode cX11_once 26 = .ok (.iload_n 1, 1) := by decide +kernel
theorem dX11_once_27 : decode cX11_once 27 = .ok (.invokevirtual 153, 3) := by decide +kernel
theorem dX11_once_30 : decode cX11_once 30 = .ok (.istore 4, 2) := by decide +kernel
theorem dX11_once_32 : decode cX11_once 32 = .ok (.iload 4, 2) := by decide +kernel
theorem dX11_once_34 : decode cX11_once 34 = .ok (.ifCond .eq 8, 3) := by decide +kernel
theorem dX11_once_37 : decode cX11_once 37 = .ok (.iload 4, 2) := by decide +kernel
theorem dX11_once_39 : decode cX11_once 39 = .ok (.goto 12, 3) := by decide +kernel
theorem dX11_once_51 : decode cX11_once 51 = .ok (.ireturn, 1) := by decide +kernel
theorem dX11_week_0 : decode cX11_week 0 = .ok (.iload_n 1, 1) := by decide +kernel
theorem dX11_week_1 : decode cX11_week 1 = .ok (.invokestatic 97, 3) := by decide +kernel
theorem dX11_week_4 : decode cX11_week 4 = .ok (.ifCond .eq 12, 3) := by decide +kernel
theorem dX11_week_7 : decode cX11_week 7 = .ok (.iload_n 2, 1) := by decide +kernel
theorem dX11_week_8 : decode cX11_week 8 = .ok (.ifCond .lt 8, 3) := by decide +kernel
theorem dX11_week_11 : decode cX11_week 11 = .ok (.iload_n 2, 1) := by decide +kernel
theorem dX11_week_12 : decode cX11_week 12 = .ok (.iconst 2, 1) := by decide +kernel
theorem dX11_week_13 : decode cX11_week 13 = .ok (.if_icmp .le 5, 3) := by decide +kernel
theorem dX11_week_16 : decode cX11_week 16 = .ok (.iconst (-1), 1) := by decide +kernel
theorem dX11_week_17 : decode cX11_week 17 = .ok (.ireturn, 1) := by decide +kernel
theorem dX11_week_18 : decode cX11_week 18 = .ok (.aload_n 0, 1) := by decide +kernel
theorem dX11_week_19 : decode cX11_week 19 = .ok (.iload_n 1, 1) := by decide +kernel
theorem dX11_week_20 : decode cX11_week 20 = .ok (.invokevirtual 153, 3) := by decide +kernel
theorem dX11_week_23 : decode cX11_week 23 = .ok (.istore_n 3, 1) := by decide +kernel
theorem dX11_week_24 : decode cX11_week 24 = .ok (.iload_n 3, 1) := by decide +kernel
theorem dX11_week_25 : decode cX11_week 25 = .ok (.ifCond .eq 5, 3) := by decide +kernel
theorem dX11_week_28 : decode cX11_week 28 = .ok (.iload_n 3, 1) := by decide +kernel
theorem dX11_week_29 : decode cX11_week 29 = .ok (.ireturn, 1) := by decide +kernel
theorem dX11_stands_0 : decode cX11_stands 0 = .ok (.iload_n 1, 1) := by decide +kernel
theorem dX11_stands_1 : decode cX11_stands 1 = .ok (.invokestatic 97, 3) := by decide +kernel
theorem dX11_stands_4 : decode cX11_stands 4 = .ok (.ifCond .eq 14, 3) := by decide +kernel
theorem dX11_stands_7 : decode cX11_stands 7 = .ok (.iload_n 2, 1) := by decide +kernel
theorem dX11_stands_8 : decode cX11_stands 8 = .ok (.invokestatic 123, 3) := by decide +kernel
theorem dX11_stands_11 : decode cX11_stands 11 = .ok (.ifCond .eq 7, 3) := by decide +kernel
theorem dX11_stands_14 : decode cX11_stands 14 = .ok (.iload_n 3, 1) := by decide +kernel
theorem dX11_stands_15 : decode cX11_stands 15 = .ok (.ifCond .ge 5, 3) := by decide +kernel
theorem dX11_stands_18 : decode cX11_stands 18 = .ok (.iconst (-1), 1) := by decide +kernel
theorem dX11_stands_19 : decode cX11_stands 19 = .ok (.ireturn, 1) := by decide +kernel
theorem dX11_stands_20 : decode cX11_stands 20 = .ok (.aload_n 0, 1) := by decide +kernel
theorem dX11_stands_21 : decode cX11_stands 21 = .ok (.iload_n 1, 1) := by decide +kernel
theorem dX11_stands_22 : decode cX11_stands 22 = .ok (.invokevirtual 153, 3) := by decide +kernel
theorem dX11_stands_25 : decode cX11_stands 25 = .ok (.istore 4, 2) := by decide +kernel
theorem dX11_stands_27 : decode cX11_stands 27 = .ok (.iload 4, 2) := by decide +kernel
theorem dX11_stands_29 : decode cX11_stands 29 = .ok (.ifCond .eq 6, 3) := by decide +kernel
theorem dX11_stands_32 : decode cX11_stands 32 = .ok (.iload 4, 2) := by decide +kernel
theorem dX11_stands_34 : decode cX11_stands 34 = .ok (.ireturn, 1) := by decide +kernel
theorem dX11_pays_0 : decode cX11_pays 0 = .ok (.iload_n 1, 1) := by decide +kernel
theorem dX11_pays_1 : decode cX11_pays 1 = .ok (.invokestatic 97, 3) := by decide +kernel
theorem dX11_pays_4 : decode cX11_pays 4 = .ok (.ifCond .eq 23, 3) := by decide +kernel
theorem dX11_pays_7 : decode cX11_pays 7 = .ok (.aload_n 0, 1) := by decide +kernel
theorem dX11_pays_8 : decode cX11_pays 8 = .ok (.getfield 12, 3) := by decide +kernel
theorem dX11_pays_11 : decode cX11_pays 11 = .ok (.iload_n 2, 1) := by decide +kernel
theorem dX11_pays_12 : decode cX11_pays 12 = .ok (.invokevirtual 146, 3) := by decide +kernel
theorem dX11_pays_15 : decode cX11_pays 15 = .ok (.ifCond .eq 12, 3) := by decide +kernel
theorem dX11_pays_27 : decode cX11_pays 27 = .ok (.iconst (-1), 1) := by decide +kernel
theorem dX11_pays_28 : decode cX11_pays 28 = .ok (.ireturn, 1) := by decide +kernel
theorem dX11_memories_0 : decode cX11_memories 0 = .ok (.iload_n 1, 1) := by decide +kernel
theorem dX11_memories_1 : decode cX11_memories 1 = .ok (.invokestatic 97, 3) := by decide +kernel
theorem dX11_memories_4 : decode cX11_memories 4 = .ok (.ifCond .eq 21, 3) := by decide +kernel
theorem dX11_memories_7 : decode cX11_memories 7 = .ok (.iload_n 2, 1) := by decide +kernel
theorem dX11_memories_8 : decode cX11_memories 8 = .ok (.ifCond .lt 17, 3) := by decide +kernel
theorem dX11_memories_11 : decode cX11_memories 11 = .ok (.iload_n 2, 1) := by decide +kernel
theorem dX11_memories_12 : decode cX11_memories 12 = .ok (.iconst 3, 1) := by decide +kernel
theorem dX11_memories_13 : decode cX11_memories 13 = .ok (.if_icmp .gt 12, 3) := by decide +kernel
theorem dX11_memories_16 : decode cX11_memories 16 = .ok (.iload_n 3, 1) := by decide +kernel
theorem dX11_memories_17 : decode cX11_memories 17 = .ok (.ifCond .lt 8, 3) := by decide +kernel
theorem dX11_memories_20 : decode cX11_memories 20 = .ok (.iload_n 3, 1) := by decide +kernel
theorem dX11_memories_21 : decode cX11_memories 21 = .ok (.iconst 1, 1) := by decide +kernel
theorem dX11_memories_22 : decode cX11_memories 22 = .ok (.if_icmp .le 5, 3) := by decide +kernel
theorem dX11_memories_25 : decode cX11_memories 25 = .ok (.iconst (-1), 1) := by decide +kernel
theorem dX11_memories_26 : decode cX11_memories 26 = .ok (.ireturn, 1) := by decide +kernel
theorem dX11_memories_27 : decode cX11_memories 27 = .ok (.aload_n 0, 1) := by decide +kernel
theorem dX11_memories_28 : decode cX11_memories 28 = .ok (.iload_n 1, 1) := by decide +kernel
theorem dX11_memories_29 : decode cX11_memories 29 = .ok (.invokevirtual 153, 3) := by decide +kernel
theorem dX11_memories_32 : decode cX11_memories 32 = .ok (.istore 4, 2) := by decide +kernel
theorem dX11_memories_34 : decode cX11_memories 34 = .ok (.iload 4, 2) := by decide +kernel
theorem dX11_memories_36 : decode cX11_memories 36 = .ok (.ifCond .eq 8, 3) := by decide +kernel
theorem dX11_memories_39 : decode cX11_memories 39 = .ok (.iload 4, 2) := by decide +kernel
theorem dX11_memories_41 : decode cX11_memories 41 = .ok (.goto 12, 3) := by decide +kernel
theorem dX11_memories_53 : decode cX11_memories 53 = .ok (.ireturn, 1) := by decide +kernel
theorem dX11_marked_0 : decode cX11_marked 0 = .ok (.iload_n 1, 1) := by decide +kernel
theorem dX11_marked_1 : decode cX11_marked 1 = .ok (.invokestatic 97, 3) := by decide +kernel
theorem dX11_marked_4 : decode cX11_marked 4 = .ok (.ifCond .ne 5, 3) := by decide +kernel
theorem dX11_marked_7 : decode cX11_marked 7 = .ok (.iconst (-1), 1) := by decide +kernel
theorem dX11_marked_8 : decode cX11_marked 8 = .ok (.ireturn, 1) := by decide +kernel
theorem dX11_marked_9 : decode cX11_marked 9 = .ok (.aload_n 0, 1) := by decide +kernel
theorem dX11_marked_10 : decode cX11_marked 10 = .ok (.iload_n 1, 1) := by decide +kernel
theorem dX11_marked_11 : decode cX11_marked 11 = .ok (.invokevirtual 153, 3) := by decide +kernel
theorem dX11_marked_14 : decode cX11_marked 14 = .ok (.istore_n 2, 1) := by decide +kernel
theorem dX11_marked_15 : decode cX11_marked 15 = .ok (.iload_n 2, 1) := by decide +kernel
theorem dX11_marked_16 : decode cX11_marked 16 = .ok (.ifCond .eq 7, 3) := by decide +kernel
theorem dX11_marked_19 : decode cX11_marked 19 = .ok (.iload_n 2, 1) := by decide +kernel
theorem dX11_marked_20 : decode cX11_marked 20 = .ok (.goto 10, 3) := by decide +kernel
theorem dX11_marked_30 : decode cX11_marked 30 = .ok (.ireturn, 1) := by decide +kernel
theorem dX11_chairs_0 : decode cX11_chairs 0 = .ok (.iload_n 2, 1) := by decide +kernel
theorem dX11_chairs_1 : decode cX11_chairs 1 = .ok (.bipush 10, 2) := by decide +kernel
theorem dX11_chairs_3 : decode cX11_chairs 3 = .ok (.irem, 1) := by decide +kernel
theorem dX11_chairs_4 : decode cX11_chairs 4 = .ok (.istore 4, 2) := by decide +kernel
theorem dX11_chairs_6 : decode cX11_chairs 6 = .ok (.iload_n 1, 1) := by decide +kernel
theorem dX11_chairs_7 : decode cX11_chairs 7 = .ok (.invokestatic 97, 3) := by decide +kernel
theorem dX11_chairs_10 : decode cX11_chairs 10 = .ok (.ifCond .eq 29, 3) := by decide +kernel
theorem dX11_chairs_13 : decode cX11_chairs 13 = .ok (.iload_n 2, 1) := by decide +kernel
theorem dX11_chairs_14 : decode cX11_chairs 14 = .ok (.ifCond .lt 25, 3) := by decide +kernel
theorem dX11_chairs_17 : decode cX11_chairs 17 = .ok (.iload_n 2, 1) := by decide +kernel
theorem dX11_chairs_18 : decode cX11_chairs 18 = .ok (.bipush 10, 2) := by decide +kernel
theorem dX11_chairs_20 : decode cX11_chairs 20 = .ok (.idiv, 1) := by decide +kernel
theorem dX11_chairs_21 : decode cX11_chairs 21 = .ok (.invokestatic 123, 3) := by decide +kernel
theorem dX11_chairs_24 : decode cX11_chairs 24 = .ok (.ifCond .eq 15, 3) := by decide +kernel
theorem dX11_chairs_27 : decode cX11_chairs 27 = .ok (.iload 4, 2) := by decide +kernel
theorem dX11_chairs_29 : decode cX11_chairs 29 = .ok (.iconst 1, 1) := by decide +kernel
theorem dX11_chairs_30 : decode cX11_chairs 30 = .ok (.if_icmp .lt 9, 3) := by decide +kernel
theorem dX11_chairs_33 : decode cX11_chairs 33 = .ok (.iload 4, 2) := by decide +kernel
theorem dX11_chairs_35 : decode cX11_chairs 35 = .ok (.iconst 3, 1) := by decide +kernel
theorem dX11_chairs_36 : decode cX11_chairs 36 = .ok (.if_icmp .le 5, 3) := by decide +kernel
theorem dX11_chairs_39 : decode cX11_chairs 39 = .ok (.iconst (-1), 1) := by decide +kernel
theorem dX11_chairs_40 : decode cX11_chairs 40 = .ok (.ireturn, 1) := by decide +kernel
theorem dX11_chairs_41 : decode cX11_chairs 41 = .ok (.iload_n 3, 1) := by decide +kernel
theorem dX11_chairs_42 : decode cX11_chairs 42 = .ok (.iconst (-1), 1) := by decide +kernel
theorem dX11_chairs_43 : decode cX11_chairs 43 = .ok (.if_icmp .eq 16, 3) := by decide +kernel
theorem dX11_chairs_46 : decode cX11_chairs 46 = .ok (.aload_n 0, 1) := by decide +kernel
theorem dX11_chairs_47 : decode cX11_chairs 47 = .ok (.getfield 12, 3) := by decide +kernel
theorem dX11_chairs_50 : decode cX11_chairs 50 = .ok (.iload_n 3, 1) := by decide +kernel
theorem dX11_chairs_51 : decode cX11_chairs 51 = .ok (.invokevirtual 146, 3) := by decide +kernel
theorem dX11_chairs_54 : decode cX11_chairs 54 = .ok (.ifCond .ne 5, 3) := by decide +kernel
theorem dX11_chairs_57 : decode cX11_chairs 57 = .ok (.iconst (-1), 1) := by decide +kernel
theorem dX11_chairs_58 : decode cX11_chairs 58 = .ok (.ireturn, 1) := by decide +kernel
theorem dX11_chairs_59 : decode cX11_chairs 59 = .ok (.aload_n 0, 1) := by decide +kernel
theorem dX11_chairs_60 : decode cX11_chairs 60 = .ok (.iload_n 1, 1) := by decide +kernel
theorem dX11_chairs_61 : decode cX11_chairs 61 = .ok (.invokevirtual 153, 3) := by decide +kernel
theorem dX11_chairs_64 : decode cX11_chairs 64 = .ok (.istore 5, 2) := by decide +kernel
theorem dX11_chairs_66 : decode cX11_chairs 66 = .ok (.iload 5, 2) := by decide +kernel
theorem dX11_chairs_68 : decode cX11_chairs 68 = .ok (.ifCond .eq 8, 3) := by decide +kernel
theorem dX11_chairs_71 : decode cX11_chairs 71 = .ok (.iload 5, 2) := by decide +kernel
theorem dX11_chairs_73 : decode cX11_chairs 73 = .ok (.goto 17, 3) := by decide +kernel
theorem dX11_chairs_90 : decode cX11_chairs 90 = .ok (.ireturn, 1) := by decide +kernel
theorem dX11_wilful_0 : decode cX11_wilful 0 = .ok (.iload_n 1, 1) := by decide +kernel
theorem dX11_wilful_1 : decode cX11_wilful 1 = .ok (.invokestatic 97, 3) := by decide +kernel
theorem dX11_wilful_4 : decode cX11_wilful 4 = .ok (.ifCond .eq 21, 3) := by decide +kernel
theorem dX11_wilful_7 : decode cX11_wilful 7 = .ok (.aload_n 0, 1) := by decide +kernel
theorem dX11_wilful_8 : decode cX11_wilful 8 = .ok (.getfield 12, 3) := by decide +kernel
theorem dX11_wilful_11 : decode cX11_wilful 11 = .ok (.iload_n 2, 1) := by decide +kernel
theorem dX11_wilful_12 : decode cX11_wilful 12 = .ok (.invokevirtual 146, 3) := by decide +kernel
theorem dX11_wilful_15 : decode cX11_wilful 15 = .ok (.ifCond .eq 10, 3) := by decide +kernel
theorem dX11_wilful_25 : decode cX11_wilful 25 = .ok (.ldc 205, 2) := by decide +kernel
theorem dX11_wilful_27 : decode cX11_wilful 27 = .ok (.ireturn, 1) := by decide +kernel
theorem dX11_who_0 : decode cX11_who 0 = .ok (.iload_n 1, 1) := by decide +kernel
theorem dX11_who_1 : decode cX11_who 1 = .ok (.invokestatic 97, 3) := by decide +kernel
theorem dX11_who_4 : decode cX11_who 4 = .ok (.ifCond .eq 20, 3) := by decide +kernel
theorem dX11_who_7 : decode cX11_who 7 = .ok (.iload_n 2, 1) := by decide +kernel
theorem dX11_who_8 : decode cX11_who 8 = .ok (.invokestatic 123, 3) := by decide +kernel
theorem dX11_who_11 : decode cX11_who 11 = .ok (.ifCond .eq 13, 3) := by decide +kernel
theorem dX11_who_14 : decode cX11_who 14 = .ok (.iload_n 3, 1) := by decide +kernel
theorem dX11_who_15 : decode cX11_who 15 = .ok (.ifCond .lt 9, 3) := by decide +kernel
theorem dX11_who_18 : decode cX11_who 18 = .ok (.iload_n 3, 1) := by decide +kernel
theorem dX11_who_19 : decode cX11_who 19 = .ok (.bipush 12, 2) := by decide +kernel
theorem dX11_who_21 : decode cX11_who 21 = .ok (.if_icmp .lt 5, 3) := by decide +kernel
theorem dX11_who_24 : decode cX11_who 24 = .ok (.iconst (-1), 1) := by decide +kernel
theorem dX11_who_25 : decode cX11_who 25 = .ok (.ireturn, 1) := by decide +kernel
theorem dX11_who_26 : decode cX11_who 26 = .ok (.aload_n 0, 1) := by decide +kernel
theorem dX11_who_27 : decode cX11_who 27 = .ok (.iload_n 1, 1) := by decide +kernel
theorem dX11_who_28 : decode cX11_who 28 = .ok (.invokevirtual 209, 3) := by decide +kernel
theorem dX11_who_31 : decode cX11_who 31 = .ok (.istore 4, 2) := by decide +kernel
theorem dX11_who_33 : decode cX11_who 33 = .ok (.iload 4, 2) := by decide +kernel
theorem dX11_who_35 : decode cX11_who 35 = .ok (.ifCond .eq 6, 3) := by decide +kernel
theorem dX11_who_38 : decode cX11_who 38 = .ok (.iload 4, 2) := by decide +kernel
theorem dX11_who_40 : decode cX11_who 40 = .ok (.ireturn, 1) := by decide +kernel
theorem dX11_judge_0 : decode cX11_judge 0 = .ok (.iload_n 1, 1) := by decide +kernel
theorem dX11_judge_1 : decode cX11_judge 1 = .ok (.bipush 10, 2) := by decide +kernel
theorem dX11_judge_3 : decode cX11_judge 3 = .ok (.idiv, 1) := by decide +kernel
theorem dX11_judge_4 : decode cX11_judge 4 = .ok (.istore_n 3, 1) := by decide +kernel
theorem dX11_judge_5 : decode cX11_judge 5 = .ok (.iload_n 1, 1) := by decide +kernel
theorem dX11_judge_6 : decode cX11_judge 6 = .ok (.bipush 10, 2) := by decide +kernel
theorem dX11_judge_8 : decode cX11_judge 8 = .ok (.irem, 1) := by decide +kernel
theorem dX11_judge_9 : decode cX11_judge 9 = .ok (.istore 4, 2) := by decide +kernel
theorem dX11_judge_11 : decode cX11_judge 11 = .ok (.iload_n 1, 1) := by decide +kernel
theorem dX11_judge_12 : decode cX11_judge 12 = .ok (.ifCond .lt 25, 3) := by decide +kernel
theorem dX11_judge_15 : decode cX11_judge 15 = .ok (.iload_n 3, 1) := by decide +kernel
theorem dX11_judge_16 : decode cX11_judge 16 = .ok (.invokestatic 97, 3) := by decide +kernel
theorem dX11_judge_19 : decode cX11_judge 19 = .ok (.ifCond .eq 18, 3) := by decide +kernel
theorem dX11_judge_22 : decode cX11_judge 22 = .ok (.iload 4, 2) := by decide +kernel
theorem dX11_judge_24 : decode cX11_judge 24 = .ok (.invokestatic 97, 3) := by decide +kernel
theorem dX11_judge_27 : decode cX11_judge 27 = .ok (.ifCond .eq 10, 3) := by decide +kernel
theorem dX11_judge_30 : decode cX11_judge 30 = .ok (.iload_n 2, 1) := by decide +kernel
theorem dX11_judge_31 : decode cX11_judge 31 = .ok (.invokestatic 123, 3) := by decide +kernel
theorem dX11_judge_34 : decode cX11_judge 34 = .ok (.ifCond .ne 5, 3) := by decide +kernel
theorem dX11_judge_37 : decode cX11_judge 37 = .ok (.iconst (-1), 1) := by decide +kernel
theorem dX11_judge_38 : decode cX11_judge 38 = .ok (.ireturn, 1) := by decide +kernel
theorem dX11_judge_39 : decode cX11_judge 39 = .ok (.aload_n 0, 1) := by decide +kernel
theorem dX11_judge_40 : decode cX11_judge 40 = .ok (.iload_n 3, 1) := by decide +kernel
theorem dX11_judge_41 : decode cX11_judge 41 = .ok (.invokevirtual 209, 3) := by decide +kernel
theorem dX11_judge_44 : decode cX11_judge 44 = .ok (.istore 5, 2) := by decide +kernel
theorem dX11_judge_46 : decode cX11_judge 46 = .ok (.aload_n 0, 1) := by decide +kernel
theorem dX11_judge_47 : decode cX11_judge 47 = .ok (.iload 4, 2) := by decide +kernel
theorem dX11_judge_49 : decode cX11_judge 49 = .ok (.invokevirtual 209, 3) := by decide +kernel
theorem dX11_judge_52 : decode cX11_judge 52 = .ok (.istore 6, 2) := by decide +kernel
theorem dX11_judge_54 : decode cX11_judge 54 = .ok (.iload 5, 2) := by decide +kernel
theorem dX11_judge_56 : decode cX11_judge 56 = .ok (.bipush (-11), 2) := by decide +kernel
theorem dX11_judge_58 : decode cX11_judge 58 = .ok (.if_icmp .eq 10, 3) := by decide +kernel
theorem dX11_judge_68 : decode cX11_judge 68 = .ok (.bipush (-11), 2) := by decide +kernel
theorem dX11_judge_70 : decode cX11_judge 70 = .ok (.ireturn, 1) := by decide +kernel
theorem dX11_drawn_0 : decode cX11_drawn 0 = .ok (.iload_n 1, 1) := by decide +kernel
theorem dX11_drawn_1 : decode cX11_drawn 1 = .ok (.invokestatic 97, 3) := by decide +kernel
theorem dX11_drawn_4 : decode cX11_drawn 4 = .ok (.ifCond .eq 25, 3) := by decide +kernel
theorem dX11_drawn_7 : decode cX11_drawn 7 = .ok (.iload_n 3, 1) := by decide +kernel
theorem dX11_drawn_8 : decode cX11_drawn 8 = .ok (.iconst 1, 1) := by decide +kernel
theorem dX11_drawn_9 : decode cX11_drawn 9 = .ok (.if_icmp .lt 20, 3) := by decide +kernel
theorem dX11_drawn_12 : decode cX11_drawn 12 = .ok (.iload_n 3, 1) := by decide +kernel
theorem dX11_drawn_13 : decode cX11_drawn 13 = .ok (.bipush 20, 2) := by decide +kernel
theorem dX11_drawn_15 : decode cX11_drawn 15 = .ok (.if_icmp .gt 14, 3) := by decide +kernel
theorem dX11_drawn_18 : decode cX11_drawn 18 = .ok (.iload 4, 2) := by decide +kernel
theorem dX11_drawn_20 : decode cX11_drawn 20 = .ok (.ifCond .lt 9, 3) := by decide +kernel
theorem dX11_drawn_23 : decode cX11_drawn 23 = .ok (.iload 4, 2) := by decide +kernel
theorem dX11_drawn_25 : decode cX11_drawn 25 = .ok (.iconst 1, 1) := by decide +kernel
theorem dX11_drawn_26 : decode cX11_drawn 26 = .ok (.if_icmp .le 5, 3) := by decide +kernel
theorem dX11_drawn_29 : decode cX11_drawn 29 = .ok (.iconst (-1), 1) := by decide +kernel
theorem dX11_drawn_30 : decode cX11_drawn 30 = .ok (.ireturn, 1) := by decide +kernel
theorem dX11_drawn_31 : decode cX11_drawn 31 = .ok (.aload_n 0, 1) := by decide +kernel
theorem dX11_drawn_32 : decode cX11_drawn 32 = .ok (.iload_n 1, 1) := by decide +kernel
theorem dX11_drawn_33 : decode cX11_drawn 33 = .ok (.invokevirtual 153, 3) := by decide +kernel
theorem dX11_drawn_36 : decode cX11_drawn 36 = .ok (.istore 5, 2) := by decide +kernel
theorem dX11_drawn_38 : decode cX11_drawn 38 = .ok (.iload 5, 2) := by decide +kernel
theorem dX11_drawn_40 : decode cX11_drawn 40 = .ok (.ifCond .eq 6, 3) := by decide +kernel
theorem dX11_drawn_43 : decode cX11_drawn 43 = .ok (.iload 5, 2) := by decide +kernel
theorem dX11_drawn_45 : decode cX11_drawn 45 = .ok (.ireturn, 1) := by decide +kernel
theorem dX11_sit_0 : decode cX11_sit 0 = .ok (.aload_n 0, 1) := by decide +kernel
theorem dX11_sit_1 : decode cX11_sit 1 = .ok (.getfield 12, 3) := by decide +kernel
theorem dX11_sit_4 : decode cX11_sit 4 = .ok (.iload_n 1, 1) := by decide +kernel
theorem dX11_sit_5 : decode cX11_sit 5 = .ok (.invokevirtual 146, 3) := by decide +kernel
theorem dX11_sit_8 : decode cX11_sit 8 = .ok (.ifCond .eq 14, 3) := by decide +kernel
theorem dX11_sit_22 : decode cX11_sit 22 = .ok (.iconst (-1), 1) := by decide +kernel
theorem dX11_sit_23 : decode cX11_sit 23 = .ok (.ireturn, 1) := by decide +kernel
theorem dX11_set_0 : decode cX11_set 0 = .ok (.iload_n 1, 1) := by decide +kernel
theorem dX11_set_1 : decode cX11_set 1 = .ok (.invokestatic 123, 3) := by decide +kernel
theorem dX11_set_4 : decode cX11_set 4 = .ok (.ifCond .eq 22, 3) := by decide +kernel
theorem dX11_set_7 : decode cX11_set 7 = .ok (.iload_n 2, 1) := by decide +kernel
theorem dX11_set_8 : decode cX11_set 8 = .ok (.invokestatic 85, 3) := by decide +kernel
theorem dX11_set_11 : decode cX11_set 11 = .ok (.ifCond .eq 15, 3) := by decide +kernel
theorem dX11_set_14 : decode cX11_set 14 = .ok (.aload_n 0, 1) := by decide +kernel
theorem dX11_set_15 : decode cX11_set 15 = .ok (.getfield 60, 3) := by decide +kernel
theorem dX11_set_18 : decode cX11_set 18 = .ok (.iload_n 1, 1) := by decide +kernel
theorem dX11_set_19 : decode cX11_set 19 = .ok (.iload_n 2, 1) := by decide +kernel
theorem dX11_set_20 : decode cX11_set 20 = .ok (.invokevirtual 225, 3) := by decide +kernel
theorem dX11_set_23 : decode cX11_set 23 = .ok (.goto 4, 3) := by decide +kernel
theorem dX11_set_26 : decode cX11_set 26 = .ok (.iconst (-1), 1) := by decide +kernel
theorem dX11_set_27 : decode cX11_set 27 = .ok (.ireturn, 1) := by decide +kernel
theorem dX11_night_0 : decode cX11_night 0 = .ok (.aload_n 0, 1) := by decide +kernel
theorem dX11_night_1 : decode cX11_night 1 = .ok (.getfield 60, 3) := by decide +kernel
theorem dX11_night_4 : decode cX11_night 4 = .ok (.invokevirtual 228, 3) := by decide +kernel
theorem dX11_night_7 : decode cX11_night 7 = .ok (.ireturn, 1) := by decide +kernel
theorem dX11_led_0 : decode cX11_led 0 = .ok (.iload_n 1, 1) := by decide +kernel
theorem dX11_led_1 : decode cX11_led 1 = .ok (.ifCond .lt 8, 3) := by decide +kernel
theorem dX11_led_4 : decode cX11_led 4 = .ok (.iload_n 1, 1) := by decide +kernel
theorem dX11_led_5 : decode cX11_led 5 = .ok (.iconst 5, 1) := by decide +kernel
theorem dX11_led_6 : decode cX11_led 6 = .ok (.if_icmp .lt 7, 3) := by decide +kernel
theorem dX11_led_9 : decode cX11_led 9 = .ok (.iconst (-1), 1) := by decide +kernel
theorem dX11_led_10 : decode cX11_led 10 = .ok (.goto 12, 3) := by decide +kernel
theorem dX11_led_13 : decode cX11_led 13 = .ok (.aload_n 0, 1) := by decide +kernel
theorem dX11_led_14 : decode cX11_led 14 = .ok (.getfield 60, 3) := by decide +kernel
theorem dX11_led_17 : decode cX11_led 17 = .ok (.getfield 231, 3) := by decide +kernel
theorem dX11_led_20 : decode cX11_led 20 = .ok (.iload_n 1, 1) := by decide +kernel
theorem dX11_led_21 : decode cX11_led 21 = .ok (.iaload, 1) := by decide +kernel
theorem dX11_led_22 : decode cX11_led 22 = .ok (.ireturn, 1) := by decide +kernel
theorem dX11_image_0 : decode cX11_image 0 = .ok (.aload_n 0, 1) := by decide +kernel
theorem dX11_image_1 : decode cX11_image 1 = .ok (.getfield 60, 3) := by decide +kernel
theorem dX11_image_4 : decode cX11_image 4 = .ok (.invokevirtual 232, 3) := by decide +kernel
theorem dX11_image_7 : decode cX11_image 7 = .ok (.ireturn, 1) := by decide +kernel
theorem dX11_back_0 : decode cX11_back 0 = .ok (.aload_n 0, 1) := by decide +kernel
theorem dX11_back_1 : decode cX11_back 1 = .ok (.getfield 60, 3) := by decide +kernel
theorem dX11_back_4 : decode cX11_back 4 = .ok (.invokevirtual 235, 3) := by decide +kernel
theorem dX11_back_7 : decode cX11_back 7 = .ok (.ireturn, 1) := by decide +kernel
theorem dX11_undo_0 : decode cX11_undo 0 = .ok (.aload_n 0, 1) := by decide +kernel
theorem dX11_undo_1 : decode cX11_undo 1 = .ok (.getfield 67, 3) := by decide +kernel
theorem dX11_undo_4 : decode cX11_undo 4 = .ok (.getfield 238, 3) := by decide +kernel
theorem dX11_undo_7 : decode cX11_undo 7 = .ok (.ifCond .ne 6, 3) := by decide +kernel
theorem dX11_undo_10 : decode cX11_undo 10 = .ok (.bipush (-5), 2) := by decide +kernel
theorem dX11_undo_12 : decode cX11_undo 12 = .ok (.ireturn, 1) := by decide +kernel
theorem dX11_redo_0 : decode cX11_redo 0 = .ok (.aload_n 0, 1) := by decide +kernel
theorem dX11_redo_1 : decode cX11_redo 1 = .ok (.getfield 67, 3) := by decide +kernel
theorem dX11_redo_4 : decode cX11_redo 4 = .ok (.getfield 238, 3) := by decide +kernel
theorem dX11_redo_7 : decode cX11_redo 7 = .ok (.aload_n 0, 1) := by decide +kernel
theorem dX11_redo_8 : decode cX11_redo 8 = .ok (.getfield 67, 3) := by decide +kernel
theorem dX11_redo_11 : decode cX11_redo 11 = .ok (.getfield 247, 3) := by decide +kernel
theorem dX11_redo_14 : decode cX11_redo 14 = .ok (.if_icmp .lt 6, 3) := by decide +kernel
theorem dX11_redo_17 : decode cX11_redo 17 = .ok (.bipush (-5), 2) := by decide +kernel
theorem dX11_redo_19 : decode cX11_redo 19 = .ok (.ireturn, 1) := by decide +kernel
theorem dX11_body_0 : decode cX11_body 0 = .ok (.iload_n 1, 1) := by decide +kernel
theorem dX11_body_1 : decode cX11_body 1 = .ok (.invokestatic 253, 3) := by decide +kernel
theorem dX11_body_4 : decode cX11_body 4 = .ok (.ifCond .eq 14, 3) := by decide +kernel
theorem dX11_body_7 : decode cX11_body 7 = .ok (.aload_n 0, 1) := by decide +kernel
theorem dX11_body_8 : decode cX11_body 8 = .ok (.getfield 74, 3) := by decide +kernel
theorem dX11_body_11 : decode cX11_body 11 = .ok (.iload_n 1, 1) := by decide +kernel
theorem dX11_body_12 : decode cX11_body 12 = .ok (.invokevirtual 256, 3) := by decide +kernel
theorem dX11_body_15 : decode cX11_body 15 = .ok (.goto 4, 3) := by decide +kernel
theorem dX11_body_18 : decode cX11_body 18 = .ok (.iconst (-1), 1) := by decide +kernel
theorem dX11_body_19 : decode cX11_body 19 = .ok (.ireturn, 1) := by decide +kernel
theorem dX11_act_0 : decode cX11_act 0 = .ok (.aload_n 0, 1) := by decide +kernel
theorem dX11_act_1 : decode cX11_act 1 = .ok (.getfield 74, 3) := by decide +kernel
theorem dX11_act_4 : decode cX11_act 4 = .ok (.iload_n 1, 1) := by decide +kernel
theorem dX11_act_5 : decode cX11_act 5 = .ok (.iload_n 2, 1) := by decide +kernel
theorem dX11_act_6 : decode cX11_act 6 = .ok (.iload_n 3, 1) := by decide +kernel
theorem dX11_act_7 : decode cX11_act 7 = .ok (.invokevirtual 257, 3) := by decide +kernel
theorem dX11_act_10 : decode cX11_act 10 = .ok (.ireturn, 1) := by decide +kernel
theorem dX11_trace_0 : decode cX11_trace 0 = .ok (.iload_n 1, 1) := by decide +kernel
theorem dX11_trace_1 : decode cX11_trace 1 = .ok (.ifCond .lt 19, 3) := by decide +kernel
theorem dX11_trace_4 : decode cX11_trace 4 = .ok (.iload_n 1, 1) := by decide +kernel
theorem dX11_trace_5 : decode cX11_trace 5 = .ok (.aload_n 0, 1) := by decide +kernel
theorem dX11_trace_6 : decode cX11_trace 6 = .ok (.getfield 74, 3) := by decide +kernel
theorem dX11_trace_9 : decode cX11_trace 9 = .ok (.getfield 260, 3) := by decide +kernel
theorem dX11_trace_12 : decode cX11_trace 12 = .ok (.bipush 24, 2) := by decide +kernel
theorem dX11_trace_14 : decode cX11_trace 14 = .ok (.invokestatic 263, 3) := by decide +kernel
theorem dX11_trace_17 : decode cX11_trace 17 = .ok (.if_icmp .lt 7, 3) := by decide +kernel
theorem dX11_trace_20 : decode cX11_trace 20 = .ok (.iconst (-1), 1) := by decide +kernel
theorem dX11_trace_21 : decode cX11_trace 21 = .ok (.goto 12, 3) := by decide +kernel
theorem dX11_trace_33 : decode cX11_trace 33 = .ok (.ireturn, 1) := by decide +kernel
theorem dX11_keep_0 : decode cX11_keep 0 = .ok (.iload_n 1, 1) := by decide +kernel
theorem dX11_keep_1 : decode cX11_keep 1 = .ok (.invokestatic 97, 3) := by decide +kernel
theorem dX11_keep_4 : decode cX11_keep 4 = .ok (.ifCond .eq 19, 3) := by decide +kernel
theorem dX11_keep_7 : decode cX11_keep 7 = .ok (.iload_n 2, 1) := by decide +kernel
theorem dX11_keep_8 : decode cX11_keep 8 = .ok (.iconst (-1), 1) := by decide +kernel
theorem dX11_keep_9 : decode cX11_keep 9 = .ok (.if_icmp .lt 14, 3) := by decide +kernel
theorem dX11_keep_12 : decode cX11_keep 12 = .ok (.iload_n 2, 1) := by decide +kernel
theorem dX11_keep_13 : decode cX11_keep 13 = .ok (.aload_n 0, 1) := by decide +kernel
theorem dX11_keep_14 : decode cX11_keep 14 = .ok (.getfield 74, 3) := by decide +kernel
theorem dX11_keep_17 : decode cX11_keep 17 = .ok (.getfield 271, 3) := by decide +kernel
theorem dX11_keep_20 : decode cX11_keep 20 = .ok (.if_icmp .lt 5, 3) := by decide +kernel
theorem dX11_keep_23 : decode cX11_keep 23 = .ok (.iconst (-1), 1) := by decide +kernel
theorem dX11_keep_24 : decode cX11_keep 24 = .ok (.ireturn, 1) := by decide +kernel
theorem dX11_keep_25 : decode cX11_keep 25 = .ok (.aload_n 0, 1) := by decide +kernel
theorem dX11_keep_26 : decode cX11_keep 26 = .ok (.getfield 80, 3) := by decide +kernel
theorem dX11_keep_29 : decode cX11_keep 29 = .ok (.iload_n 1, 1) := by decide +kernel
theorem dX11_keep_30 : decode cX11_keep 30 = .ok (.aaload, 1) := by decide +kernel
theorem dX11_keep_31 : decode cX11_keep 31 = .ok (.iload_n 2, 1) := by decide +kernel
theorem dX11_keep_32 : decode cX11_keep 32 = .ok (.invokevirtual 272, 3) := by decide +kernel
theorem dX11_keep_35 : decode cX11_keep 35 = .ok (.iconst 1, 1) := by decide +kernel
theorem dX11_keep_36 : decode cX11_keep 36 = .ok (.ireturn, 1) := by decide +kernel
theorem dX11_row_0 : decode cX11_row 0 = .ok (.iload_n 1, 1) := by decide +kernel
theorem dX11_row_1 : decode cX11_row 1 = .ok (.invokestatic 97, 3) := by decide +kernel
theorem dX11_row_4 : decode cX11_row 4 = .ok (.ifCond .eq 18, 3) := by decide +kernel
theorem dX11_row_7 : decode cX11_row 7 = .ok (.iload_n 2, 1) := by decide +kernel
theorem dX11_row_8 : decode cX11_row 8 = .ok (.ifCond .lt 14, 3) := by decide +kernel
theorem dX11_row_11 : decode cX11_row 11 = .ok (.iload_n 2, 1) := by decide +kernel
theorem dX11_row_12 : decode cX11_row 12 = .ok (.iconst 4, 1) := by decide +kernel
theorem dX11_row_13 : decode cX11_row 13 = .ok (.if_icmp .gt 9, 3) := by decide +kernel
theorem dX11_row_16 : decode cX11_row 16 = .ok (.iload_n 3, 1) := by decide +kernel
theorem dX11_row_17 : decode cX11_row 17 = .ok (.bipush 60, 2) := by decide +kernel
theorem dX11_row_19 : decode cX11_row 19 = .ok (.if_icmp .le 5, 3) := by decide +kernel
theorem dX11_row_22 : decode cX11_row 22 = .ok (.iconst (-1), 1) := by decide +kernel
theorem dX11_row_23 : decode cX11_row 23 = .ok (.ireturn, 1) := by decide +kernel
theorem dX11_row_24 : decode cX11_row 24 = .ok (.iload_n 3, 1) := by decide +kernel
theorem dX11_row_25 : decode cX11_row 25 = .ok (.ifCond .ge 6, 3) := by decide +kernel
theorem dX11_row_28 : decode cX11_row 28 = .ok (.bipush (-14), 2) := by decide +kernel
theorem dX11_row_30 : decode cX11_row 30 = .ok (.ireturn, 1) := by decide +kernel
theorem dX11_row_31 : decode cX11_row 31 = .ok (.aload_n 0, 1) := by decide +kernel
theorem dX11_row_32 : decode cX11_row 32 = .ok (.getfield 80, 3) := by decide +kernel
theorem dX11_row_35 : decode cX11_row 35 = .ok (.iload_n 1, 1) := by decide +kernel
theorem dX11_row_36 : decode cX11_row 36 = .ok (.aaload, 1) := by decide +kernel
theorem dX11_row_37 : decode cX11_row 37 = .ok (.iload_n 2, 1) := by decide +kernel
theorem dX11_row_38 : decode cX11_row 38 = .ok (.iload_n 3, 1) := by decide +kernel
theorem dX11_row_39 : decode cX11_row 39 = .ok (.invokevirtual 275, 3) := by decide +kernel
theorem dX11_row_42 : decode cX11_row 42 = .ok (.iconst 1, 1) := by decide +kernel
theorem dX11_row_43 : decode cX11_row 43 = .ok (.ireturn, 1) := by decide +kernel
theorem dX11_put_0 : decode cX11_put 0 = .ok (.aload_n 0, 1) := by decide +kernel
theorem dX11_put_1 : decode cX11_put 1 = .ok (.iload_n 1, 1) := by decide +kernel
theorem dX11_put_2 : decode cX11_put 2 = .ok (.iload_n 2, 1) := by decide +kernel
theorem dX11_put_3 : decode cX11_put 3 = .ok (.invokevirtual 278, 3) := by decide +kernel
theorem dX11_put_6 : decode cX11_put 6 = .ok (.istore 5, 2) := by decide +kernel
theorem dX11_put_8 : decode cX11_put 8 = .ok (.iload 5, 2) := by decide +kernel
theorem dX11_put_10 : decode cX11_put 10 = .ok (.ifCond .eq 6, 3) := by decide +kernel
theorem dX11_put_13 : decode cX11_put 13 = .ok (.iload 5, 2) := by decide +kernel
theorem dX11_put_15 : decode cX11_put 15 = .ok (.ireturn, 1) := by decide +kernel
theorem dX11_element_0 : decode cX11_element 0 = .ok (.aload_n 0, 1) := by decide +kernel
theorem dX11_element_1 : decode cX11_element 1 = .ok (.iload_n 1, 1) := by decide +kernel
theorem dX11_element_2 : decode cX11_element 2 = .ok (.iload_n 2, 1) := by decide +kernel
theorem dX11_element_3 : decode cX11_element 3 = .ok (.invokevirtual 278, 3) := by decide +kernel
theorem dX11_element_6 : decode cX11_element 6 = .ok (.ifCond .eq 9, 3) := by decide +kernel
theorem dX11_element_9 : decode cX11_element 9 = .ok (.ldc2_w 289, 3) := by decide +kernel
theorem dX11_element_12 : decode cX11_element 12 = .ok (.goto 14, 3) := by decide +kernel
theorem dX11_element_26 : decode cX11_element 26 = .ok (.lreturn, 1) := by decide +kernel
theorem dX11_shift_0 : decode cX11_shift 0 = .ok (.iload_n 1, 1) := by decide +kernel
theorem dX11_shift_1 : decode cX11_shift 1 = .ok (.invokestatic 97, 3) := by decide +kernel
theorem dX11_shift_4 : decode cX11_shift 4 = .ok (.ifCond .eq 10, 3) := by decide +kernel
theorem dX11_shift_7 : decode cX11_shift 7 = .ok (.iload_n 3, 1) := by decide +kernel
theorem dX11_shift_8 : decode cX11_shift 8 = .ok (.invokestatic 97, 3) := by decide +kernel
theorem dX11_shift_11 : decode cX11_shift 11 = .ok (.ifCond .ne 5, 3) := by decide +kernel
theorem dX11_shift_14 : decode cX11_shift 14 = .ok (.iconst (-1), 1) := by decide +kernel
theorem dX11_shift_15 : decode cX11_shift 15 = .ok (.ireturn, 1) := by decide +kernel
theorem dX11_shift_16 : decode cX11_shift 16 = .ok (.aload_n 0, 1) := by decide +kernel
theorem dX11_shift_17 : decode cX11_shift 17 = .ok (.getfield 80, 3) := by decide +kernel
theorem dX11_shift_20 : decode cX11_shift 20 = .ok (.iload_n 1, 1) := by decide +kernel
theorem dX11_shift_21 : decode cX11_shift 21 = .ok (.aaload, 1) := by decide +kernel
theorem dX11_shift_22 : decode cX11_shift 22 = .ok (.astore 6, 2) := by decide +kernel
theorem dX11_shift_24 : decode cX11_shift 24 = .ok (.aload_n 0, 1) := by decide +kernel
theorem dX11_shift_25 : decode cX11_shift 25 = .ok (.getfield 80, 3) := by decide +kernel
theorem dX11_shift_28 : decode cX11_shift 28 = .ok (.iload_n 3, 1) := by decide +kernel
theorem dX11_shift_29 : decode cX11_shift 29 = .ok (.aaload, 1) := by decide +kernel
theorem dX11_shift_30 : decode cX11_shift 30 = .ok (.astore 7, 2) := by decide +kernel
theorem dX11_shift_32 : decode cX11_shift 32 = .ok (.aload 6, 2) := by decide +kernel
theorem dX11_shift_34 : decode cX11_shift 34 = .ok (.getfield 100, 3) := by decide +kernel
theorem dX11_shift_37 : decode cX11_shift 37 = .ok (.iconst (-1), 1) := by decide +kernel
theorem dX11_shift_38 : decode cX11_shift 38 = .ok (.if_icmp .eq 12, 3) := by decide +kernel
theorem dX11_shift_50 : decode cX11_shift 50 = .ok (.bipush (-11), 2) := by decide +kernel
theorem dX11_shift_52 : decode cX11_shift 52 = .ok (.ireturn, 1) := by decide +kernel
theorem dX11_taken_0 : decode cX11_taken 0 = .ok (.iload_n 1, 1) := by decide +kernel
theorem dX11_taken_1 : decode cX11_taken 1 = .ok (.invokestatic 97, 3) := by decide +kernel
theorem dX11_taken_4 : decode cX11_taken 4 = .ok (.ifCond .eq 10, 3) := by decide +kernel
theorem dX11_taken_7 : decode cX11_taken 7 = .ok (.iload_n 2, 1) := by decide +kernel
theorem dX11_taken_8 : decode cX11_taken 8 = .ok (.invokestatic 253, 3) := by decide +kernel
theorem dX11_taken_11 : decode cX11_taken 11 = .ok (.ifCond .ne 5, 3) := by decide +kernel
theorem dX11_taken_14 : decode cX11_taken 14 = .ok (.iconst (-1), 1) := by decide +kernel
theorem dX11_taken_15 : decode cX11_taken 15 = .ok (.ireturn, 1) := by decide +kernel
theorem dX11_taken_16 : decode cX11_taken 16 = .ok (.aload_n 0, 1) := by decide +kernel
theorem dX11_taken_17 : decode cX11_taken 17 = .ok (.getfield 80, 3) := by decide +kernel
theorem dX11_taken_20 : decode cX11_taken 20 = .ok (.iload_n 1, 1) := by decide +kernel
theorem dX11_taken_21 : decode cX11_taken 21 = .ok (.aaload, 1) := by decide +kernel
theorem dX11_taken_22 : decode cX11_taken 22 = .ok (.astore_n 3, 1) := by decide +kernel
theorem dX11_taken_23 : decode cX11_taken 23 = .ok (.aload_n 3, 1) := by decide +kernel
theorem dX11_taken_24 : decode cX11_taken 24 = .ok (.getfield 100, 3) := by decide +kernel
theorem dX11_taken_27 : decode cX11_taken 27 = .ok (.iconst (-1), 1) := by decide +kernel
theorem dX11_taken_28 : decode cX11_taken 28 = .ok (.if_icmp .ne 6, 3) := by decide +kernel
theorem dX11_taken_31 : decode cX11_taken 31 = .ok (.bipush (-11), 2) := by decide +kernel
theorem dX11_taken_33 : decode cX11_taken 33 = .ok (.ireturn, 1) := by decide +kernel
theorem dX11_count_0 : decode cX11_count 0 = .ok (.iload_n 1, 1) := by decide +kernel
theorem dX11_count_1 : decode cX11_count 1 = .ok (.tableswitch 78 0 4 #[35, 43, 54, 62, 70], 35) := by decide +kernel
theorem dX11_count_36 : decode cX11_count 36 = .ok (.aload_n 0, 1) := by decide +kernel
theorem dX11_count_37 : decode cX11_count 37 = .ok (.getfield 12, 3) := by decide +kernel
theorem dX11_count_40 : decode cX11_count 40 = .ok (.getfield 310, 3) := by decide +kernel
theorem dX11_count_43 : decode cX11_count 43 = .ok (.ireturn, 1) := by decide +kernel
theorem dX11_count_44 : decode cX11_count 44 = .ok (.aload_n 0, 1) := by decide +kernel
theorem dX11_count_45 : decode cX11_count 45 = .ok (.getfield 12, 3) := by decide +kernel
theorem dX11_count_48 : decode cX11_count 48 = .ok (.getfield 129, 3) := by decide +kernel
theorem dX11_count_51 : decode cX11_count 51 = .ok (.getfield 313, 3) := by decide +kernel
theorem dX11_count_54 : decode cX11_count 54 = .ok (.ireturn, 1) := by decide +kernel
theorem dX11_count_55 : decode cX11_count 55 = .ok (.aload_n 0, 1) := by decide +kernel
theorem dX11_count_56 : decode cX11_count 56 = .ok (.getfield 67, 3) := by decide +kernel
theorem dX11_count_59 : decode cX11_count 59 = .ok (.getfield 238, 3) := by decide +kernel
theorem dX11_count_62 : decode cX11_count 62 = .ok (.ireturn, 1) := by decide +kernel
theorem dX11_count_63 : decode cX11_count 63 = .ok (.aload_n 0, 1) := by decide +kernel
theorem dX11_count_64 : decode cX11_count 64 = .ok (.getfield 74, 3) := by decide +kernel
theorem dX11_count_67 : decode cX11_count 67 = .ok (.getfield 271, 3) := by decide +kernel
theorem dX11_count_70 : decode cX11_count 70 = .ok (.ireturn, 1) := by decide +kernel
theorem dX11_count_71 : decode cX11_count 71 = .ok (.aload_n 0, 1) := by decide +kernel
theorem dX11_count_72 : decode cX11_count 72 = .ok (.getfield 74, 3) := by decide +kernel
theorem dX11_count_75 : decode cX11_count 75 = .ok (.getfield 260, 3) := by decide +kernel
theorem dX11_count_78 : decode cX11_count 78 = .ok (.ireturn, 1) := by decide +kernel
theorem dX11_count_79 : decode cX11_count 79 = .ok (.iconst (-1), 1) := by decide +kernel
theorem dX11_count_80 : decode cX11_count 80 = .ok (.ireturn, 1) := by decide +kernel
theorem dX11_isPart_0 : decode cX11_isPart 0 = .ok (.iload_n 0, 1) := by decide +kernel
theorem dX11_isPart_1 : decode cX11_isPart 1 = .ok (.ifCond .lt 12, 3) := by decide +kernel
theorem dX11_isPart_4 : decode cX11_isPart 4 = .ok (.iload_n 0, 1) := by decide +kernel
theorem dX11_isPart_5 : decode cX11_isPart 5 = .ok (.iconst 3, 1) := by decide +kernel
theorem dX11_isPart_6 : decode cX11_isPart 6 = .ok (.if_icmp .ge 7, 3) := by decide +kernel
theorem dX11_isPart_9 : decode cX11_isPart 9 = .ok (.iconst 1, 1) := by decide +kernel
theorem dX11_isPart_10 : decode cX11_isPart 10 = .ok (.goto 4, 3) := by decide +kernel
theorem dX11_isPart_13 : decode cX11_isPart 13 = .ok (.iconst 0, 1) := by decide +kernel
theorem dX11_isPart_14 : decode cX11_isPart 14 = .ok (.ireturn, 1) := by decide +kernel
theorem dX11_isSetting_0 : decode cX11_isSetting 0 = .ok (.iload_n 0, 1) := by decide +kernel
theorem dX11_isSetting_1 : decode cX11_isSetting 1 = .ok (.ifCond .lt 13, 3) := by decide +kernel
theorem dX11_isSetting_4 : decode cX11_isSetting 4 = .ok (.iload_n 0, 1) := by decide +kernel
theorem dX11_isSetting_5 : decode cX11_isSetting 5 = .ok (.bipush 60, 2) := by decide +kernel
theorem dX11_isSetting_7 : decode cX11_isSetting 7 = .ok (.if_icmp .gt 7, 3) := by decide +kernel
theorem dX11_isSetting_10 : decode cX11_isSetting 10 = .ok (.iconst 1, 1) := by decide +kernel
theorem dX11_isSetting_11 : decode cX11_isSetting 11 = .ok (.goto 4, 3) := by decide +kernel
theorem dX11_isSetting_14 : decode cX11_isSetting 14 = .ok (.iconst 0, 1) := by decide +kernel
theorem dX11_isSetting_15 : decode cX11_isSetting 15 = .ok (.ireturn, 1) := by decide +kernel
theorem dX11_isShelf_0 : decode cX11_isShelf 0 = .ok (.iload_n 0, 1) := by decide +kernel
theorem dX11_isShelf_1 : decode cX11_isShelf 1 = .ok (.ifCond .lt 13, 3) := by decide +kernel
theorem dX11_isShelf_4 : decode cX11_isShelf 4 = .ok (.iload_n 0, 1) := by decide +kernel
theorem dX11_isShelf_5 : decode cX11_isShelf 5 = .ok (.bipush 6, 2) := by decide +kernel
theorem dX11_isShelf_7 : decode cX11_isShelf 7 = .ok (.if_icmp .ge 7, 3) := by decide +kernel
theorem dX11_isShelf_10 : decode cX11_isShelf 10 = .ok (.iconst 1, 1) := by decide +kernel
theorem dX11_isShelf_11 : decode cX11_isShelf 11 = .ok (.goto 4, 3) := by decide +kernel
theorem dX11_isShelf_14 : decode cX11_isShelf 14 = .ok (.iconst 0, 1) := by decide +kernel
theorem dX11_isShelf_15 : decode cX11_isShelf 15 = .ok (.ireturn, 1) := by decide +kernel
theorem dX11_isKind_0 : decode cX11_isKind 0 = .ok (.iload_n 0, 1) := by decide +kernel
theorem dX11_isKind_1 : decode cX11_isKind 1 = .ok (.ifCond .lt 13, 3) := by decide +kernel
theorem dX11_isKind_4 : decode cX11_isKind 4 = .ok (.iload_n 0, 1) := by decide +kernel
theorem dX11_isKind_5 : decode cX11_isKind 5 = .ok (.bipush 8, 2) := by decide +kernel
theorem dX11_isKind_7 : decode cX11_isKind 7 = .ok (.if_icmp .ge 7, 3) := by decide +kernel
theorem dX11_isKind_10 : decode cX11_isKind 10 = .ok (.iconst 1, 1) := by decide +kernel
theorem dX11_isKind_11 : decode cX11_isKind 11 = .ok (.goto 4, 3) := by decide +kernel
theorem dX11_isKind_14 : decode cX11_isKind 14 = .ok (.iconst 0, 1) := by decide +kernel
theorem dX11_isKind_15 : decode cX11_isKind 15 = .ok (.ireturn, 1) := by decide +kernel
theorem dX11_fits_0 : decode cX11_fits 0 = .ok (.iload_n 0, 1) := by decide +kernel
theorem dX11_fits_1 : decode cX11_fits 1 = .ok (.ifCond .lt 33, 3) := by decide +kernel
theorem dX11_fits_4 : decode cX11_fits 4 = .ok (.iload_n 0, 1) := by decide +kernel
theorem dX11_fits_5 : decode cX11_fits 5 = .ok (.getstatic 314, 3) := by decide +kernel
theorem dX11_fits_8 : decode cX11_fits 8 = .ok (.arraylength, 1) := by decide +kernel
theorem dX11_fits_9 : decode cX11_fits 9 = .ok (.if_icmp .ge 25, 3) := by decide +kernel
theorem dX11_fits_12 : decode cX11_fits 12 = .ok (.iload_n 1, 1) := by decide +kernel
theorem dX11_fits_13 : decode cX11_fits 13 = .ok (.getstatic 317, 3) := by decide +kernel
theorem dX11_fits_16 : decode cX11_fits 16 = .ok (.iload_n 0, 1) := by decide +kernel
theorem dX11_fits_17 : decode cX11_fits 17 = .ok (.iaload, 1) := by decide +kernel
theorem dX11_fits_18 : decode cX11_fits 18 = .ok (.if_icmp .lt 16, 3) := by decide +kernel
theorem dX11_fits_21 : decode cX11_fits 21 = .ok (.iload_n 1, 1) := by decide +kernel
theorem dX11_fits_22 : decode cX11_fits 22 = .ok (.getstatic 314, 3) := by decide +kernel
theorem dX11_fits_25 : decode cX11_fits 25 = .ok (.iload_n 0, 1) := by decide +kernel
theorem dX11_fits_26 : decode cX11_fits 26 = .ok (.iaload, 1) := by decide +kernel
theorem dX11_fits_27 : decode cX11_fits 27 = .ok (.if_icmp .gt 7, 3) := by decide +kernel
theorem dX11_fits_30 : decode cX11_fits 30 = .ok (.iconst 1, 1) := by decide +kernel
theorem dX11_fits_31 : decode cX11_fits 31 = .ok (.goto 4, 3) := by decide +kernel
theorem dX11_fits_34 : decode cX11_fits 34 = .ok (.iconst 0, 1) := by decide +kernel
theorem dX11_fits_35 : decode cX11_fits 35 = .ok (.ireturn, 1) := by decide +kernel
theorem dX11_refusalOf_0 : decode cX11_refusalOf 0 = .ok (.aload_n 0, 1) := by decide +kernel
theorem dX11_refusalOf_1 : decode cX11_refusalOf 1 = .ok (.getfield 80, 3) := by decide +kernel
theorem dX11_refusalOf_4 : decode cX11_refusalOf 4 = .ok (.iload_n 1, 1) := by decide +kernel
theorem dX11_refusalOf_5 : decode cX11_refusalOf 5 = .ok (.aaload, 1) := by decide +kernel
theorem dX11_refusalOf_6 : decode cX11_refusalOf 6 = .ok (.getfield 100, 3) := by decide +kernel
theorem dX11_refusalOf_9 : decode cX11_refusalOf 9 = .ok (.iconst (-1), 1) := by decide +kernel
theorem dX11_refusalOf_10 : decode cX11_refusalOf 10 = .ok (.if_icmp .ne 6, 3) := by decide +kernel
theorem dX11_refusalOf_13 : decode cX11_refusalOf 13 = .ok (.bipush (-11), 2) := by decide +kernel
theorem dX11_refusalOf_15 : decode cX11_refusalOf 15 = .ok (.ireturn, 1) := by decide +kernel
theorem dX11_readWeek_0 : decode cX11_readWeek 0 = .ok (.aload_n 0, 1) := by decide +kernel
theorem dX11_readWeek_1 : decode cX11_readWeek 1 = .ok (.iload_n 1, 1) := by decide +kernel
theorem dX11_readWeek_2 : decode cX11_readWeek 2 = .ok (.invokevirtual 209, 3) := by decide +kernel
theorem dX11_readWeek_5 : decode cX11_readWeek 5 = .ok (.istore_n 2, 1) := by decide +kernel
theorem dX11_readWeek_6 : decode cX11_readWeek 6 = .ok (.iload_n 2, 1) := by decide +kernel
theorem dX11_readWeek_7 : decode cX11_readWeek 7 = .ok (.ifCond .ne 23, 3) := by decide +kernel
theorem dX11_readWeek_30 : decode cX11_readWeek 30 = .ok (.iload_n 2, 1) := by decide +kernel
theorem dX11_readWeek_31 : decode cX11_readWeek 31 = .ok (.ireturn, 1) := by decide +kernel
theorem dX11_refusalAt_0 : decode cX11_refusalAt 0 = .ok (.iload_n 1, 1) := by decide +kernel
theorem dX11_refusalAt_1 : decode cX11_refusalAt 1 = .ok (.invokestatic 97, 3) := by decide +kernel
theorem dX11_refusalAt_4 : decode cX11_refusalAt 4 = .ok (.ifCond .ne 5, 3) := by decide +kernel
theorem dX11_refusalAt_7 : decode cX11_refusalAt 7 = .ok (.iconst (-1), 1) := by decide +kernel
theorem dX11_refusalAt_8 : decode cX11_refusalAt 8 = .ok (.ireturn, 1) := by decide +kernel
theorem dX11_refusalAt_9 : decode cX11_refusalAt 9 = .ok (.aload_n 0, 1) := by decide +kernel
theorem dX11_refusalAt_10 : decode cX11_refusalAt 10 = .ok (.getfield 80, 3) := by decide +kernel
theorem dX11_refusalAt_13 : decode cX11_refusalAt 13 = .ok (.iload_n 1, 1) := by decide +kernel
theorem dX11_refusalAt_14 : decode cX11_refusalAt 14 = .ok (.aaload, 1) := by decide +kernel
theorem dX11_refusalAt_15 : decode cX11_refusalAt 15 = .ok (.astore_n 3, 1) := by decide +kernel
theorem dX11_refusalAt_16 : decode cX11_refusalAt 16 = .ok (.aload_n 3, 1) := by decide +kernel
theorem dX11_refusalAt_17 : decode cX11_refusalAt 17 = .ok (.getfield 100, 3) := by decide +kernel
theorem dX11_refusalAt_20 : decode cX11_refusalAt 20 = .ok (.iconst (-1), 1) := by decide +kernel
theorem dX11_refusalAt_21 : decode cX11_refusalAt 21 = .ok (.if_icmp .ne 6, 3) := by decide +kernel
theorem dX11_refusalAt_24 : decode cX11_refusalAt 24 = .ok (.bipush (-11), 2) := by decide +kernel
theorem dX11_refusalAt_26 : decode cX11_refusalAt 26 = .ok (.ireturn, 1) := by decide +kernel
theorem dX12_within_0 : decode cX12_within 0 = .ok (.lload_n 0, 1) := by decide +kernel
theorem dX12_within_1 : decode cX12_within 1 = .ok (.lload_n 2, 1) := by decide +kernel
theorem dX12_within_2 : decode cX12_within 2 = .ok (.lcmp, 1) := by decide +kernel
theorem dX12_within_3 : decode cX12_within 3 = .ok (.ifCond .lt 14, 3) := by decide +kernel
theorem dX12_within_6 : decode cX12_within 6 = .ok (.lload_n 0, 1) := by decide +kernel
theorem dX12_within_7 : decode cX12_within 7 = .ok (.lload 4, 2) := by decide +kernel
theorem dX12_within_9 : decode cX12_within 9 = .ok (.lcmp, 1) := by decide +kernel
theorem dX12_within_10 : decode cX12_within 10 = .ok (.ifCond .gt 7, 3) := by decide +kernel
theorem dX12_within_13 : decode cX12_within 13 = .ok (.iconst 1, 1) := by decide +kernel
theorem dX12_within_14 : decode cX12_within 14 = .ok (.goto 4, 3) := by decide +kernel
theorem dX12_within_17 : decode cX12_within 17 = .ok (.iconst 0, 1) := by decide +kernel
theorem dX12_within_18 : decode cX12_within 18 = .ok (.ireturn, 1) := by decide +kernel
theorem dX12_sizeOf_0 : decode cX12_sizeOf 0 = .ok (.iload_n 0, 1) := by decide +kernel
theorem dX12_sizeOf_1 : decode cX12_sizeOf 1 = .ok (.ifCond .ge 8, 3) := by decide +kernel
theorem dX12_sizeOf_4 : decode cX12_sizeOf 4 = .ok (.iload_n 0, 1) := by decide +kernel
theorem dX12_sizeOf_5 : decode cX12_sizeOf 5 = .ok (.ineg, 1) := by decide +kernel
theorem dX12_sizeOf_6 : decode cX12_sizeOf 6 = .ok (.goto 4, 3) := by decide +kernel
theorem dX12_sizeOf_9 : decode cX12_sizeOf 9 = .ok (.iload_n 0, 1) := by decide +kernel
theorem dX12_sizeOf_10 : decode cX12_sizeOf 10 = .ok (.ireturn, 1) := by decide +kernel
theorem dX12_init_0 : decode cX12_init 0 = .ok (.aload_n 0, 1) := by decide +kernel
theorem dX12_init_1 : decode cX12_init 1 = .ok (.invokespecial 3, 3) := by decide +kernel
theorem dX12_init_4 : decode cX12_init 4 = .ok (.aload_n 0, 1) := by decide +kernel
theorem dX12_init_5 : decode cX12_init 5 = .ok (.bipush 71, 2) := by decide +kernel
theorem dX12_init_7 : decode cX12_init 7 = .ok (.newarray .int, 2) := by decide +kernel
theorem dX12_init_9 : decode cX12_init 9 = .ok (.putfield 9, 3) := by decide +kernel
theorem dX12_init_12 : decode cX12_init 12 = .ok (.aload_n 0, 1) := by decide +kernel
theorem dX12_init_13 : decode cX12_init 13 = .ok (.bipush 40, 2) := by decide +kernel
theorem dX12_init_15 : decode cX12_init 15 = .ok (.newarray .int, 2) := by decide +kernel
theorem dX12_init_17 : decode cX12_init 17 = .ok (.putfield 13, 3) := by decide +kernel
theorem dX12_init_20 : decode cX12_init 20 = .ok (.aload_n 0, 1) := by decide +kernel
theorem dX12_init_21 : decode cX12_init 21 = .ok (.bipush 40, 2) := by decide +kernel
theorem dX12_init_23 : decode cX12_init 23 = .ok (.newarray .int, 2) := by decide +kernel
theorem dX12_init_25 : decode cX12_init 25 = .ok (.putfield 16, 3) := by decide +kernel
theorem dX12_init_28 : decode cX12_init 28 = .ok (.aload_n 0, 1) := by decide +kernel
theorem dX12_init_29 : decode cX12_init 29 = .ok (.bipush 40, 2) := by decide +kernel
theorem dX12_init_31 : decode cX12_init 31 = .ok (.newarray .int, 2) := by decide +kernel
theorem dX12_init_33 : decode cX12_init 33 = .ok (.putfield 19, 3) := by decide +kernel
theorem dX12_init_36 : decode cX12_init 36 = .ok (.aload_n 0, 1) := by decide +kernel
theorem dX12_init_37 : decode cX12_init 37 = .ok (.iconst 3, 1) := by decide +kernel
theorem dX12_init_38 : decode cX12_init 38 = .ok (.newarray .int, 2) := by decide +kernel
theorem dX12_init_40 : decode cX12_init 40 = .ok (.putfield 22, 3) := by decide +kernel
theorem dX12_init_43 : decode cX12_init 43 = .ok (.aload_n 0, 1) := by decide +kernel
theorem dX12_init_44 : decode cX12_init 44 = .ok (.bipush 120, 2) := by decide +kernel
theorem dX12_init_46 : decode cX12_init 46 = .ok (.newarray .int, 2) := by decide +kernel
theorem dX12_init_48 : decode cX12_init 48 = .ok (.putfield 25, 3) := by decide +kernel
theorem dX12_init_51 : decode cX12_init 51 = .ok (.aload_n 0, 1) := by decide +kernel
theorem dX12_init_52 : decode cX12_init 52 = .ok (.bipush 120, 2) := by decide +kernel
theorem dX12_init_54 : decode cX12_init 54 = .ok (.newarray .int, 2) := by decide +kernel
theorem dX12_init_56 : decode cX12_init 56 = .ok (.putfield 28, 3) := by decide +kernel
theorem dX12_init_59 : decode cX12_init 59 = .ok (.aload_n 0, 1) := by decide +kernel
theorem dX12_init_60 : decode cX12_init 60 = .ok (.bipush 6, 2) := by decide +kernel
theorem dX12_init_62 : decode cX12_init 62 = .ok (.newarray .int, 2) := by decide +kernel
theorem dX12_init_64 : decode cX12_init 64 = .ok (.putfield 31, 3) := by decide +kernel
theorem dX12_init_67 : decode cX12_init 67 = .ok (.aload_n 0, 1) := by decide +kernel
theorem dX12_init_68 : decode cX12_init 68 = .ok (.sipush 1281, 3) := by decide +kernel
theorem dX12_init_71 : decode cX12_init 71 = .ok (.newarray .int, 2) := by decide +kernel
theorem dX12_init_73 : decode cX12_init 73 = .ok (.putfield 34, 3) := by decide +kernel
theorem dX12_init_76 : decode cX12_init 76 = .ok (.aload_n 0, 1) := by decide +kernel
theorem dX12_init_77 : decode cX12_init 77 = .ok (.sipush 1342, 3) := by decide +kernel
theorem dX12_init_80 : decode cX12_init 80 = .ok (.newarray .int, 2) := by decide +kernel
theorem dX12_init_82 : decode cX12_init 82 = .ok (.putfield 37, 3) := by decide +kernel
theorem dX12_init_85 : decode cX12_init 85 = .ok (.aload_n 0, 1) := by decide +kernel
theorem dX12_init_86 : decode cX12_init 86 = .ok (.bipush 21, 2) := by decide +kernel
theorem dX12_init_88 : decode cX12_init 88 = .ok (.newarray .boolean, 2) := by decide +kernel
theorem dX12_init_90 : decode cX12_init 90 = .ok (.putfield 40, 3) := by decide +kernel
theorem dX12_init_93 : decode cX12_init 93 = .ok (.aload_n 0, 1) := by decide +kernel
theorem dX12_init_94 : decode cX12_init 94 = .ok (.iconst 3, 1) := by decide +kernel
theorem dX12_init_95 : decode cX12_init 95 = .ok (.newarray .int, 2) := by decide +kernel
theorem dX12_init_97 : decode cX12_init 97 = .ok (.putfield 44, 3) := by decide +kernel
theorem dX12_init_100 : decode cX12_init 100 = .ok (.aload_n 0, 1) := by decide +kernel
theorem dX12_init_101 : decode cX12_init 101 = .ok (.bipush 66, 2) := by decide +kernel
theorem dX12_init_103 : decode cX12_init 103 = .ok (.newarray .int, 2) := by decide +kernel
theorem dX12_init_105 : decode cX12_init 105 = .ok (.putfield 47, 3) := by decide +kernel
theorem dX12_init_108 : decode cX12_init 108 = .ok (.aload_n 0, 1) := by decide +kernel
theorem dX12_init_109 : decode cX12_init 109 = .ok (.sipush 488, 3) := by decide +kernel
theorem dX12_init_112 : decode cX12_init 112 = .ok (.newarray .int, 2) := by decide +kernel
theorem dX12_init_114 : decode cX12_init 114 = .ok (.putfield 50, 3) := by decide +kernel
theorem dX12_init_117 : decode cX12_init 117 = .ok (.aload_n 0, 1) := by decide +kernel
theorem dX12_init_118 : decode cX12_init 118 = .ok (.bipush 8, 2) := by decide +kernel
theorem dX12_init_120 : decode cX12_init 120 = .ok (.newarray .int, 2) := by decide +kernel
theorem dX12_init_122 : decode cX12_init 122 = .ok (.putfield 53, 3) := by decide +kernel
theorem dX12_init_125 : decode cX12_init 125 = .ok (.aload_n 0, 1) := by decide +kernel
theorem dX12_init_126 : decode cX12_init 126 = .ok (.bipush 8, 2) := by decide +kernel
theorem dX12_init_128 : decode cX12_init 128 = .ok (.newarray .int, 2) := by decide +kernel
theorem dX12_init_130 : decode cX12_init 130 = .ok (.putfield 56, 3) := by decide +kernel
theorem dX12_init_133 : decode cX12_init 133 = .ok (.aload_n 0, 1) := by decide +kernel
theorem dX12_init_134 : decode cX12_init 134 = .ok (.sipush 793, 3) := by decide +kernel
theorem dX12_init_137 : decode cX12_init 137 = .ok (.newarray .boolean, 2) := by decide +kernel
theorem dX12_init_139 : decode cX12_init 139 = .ok (.putfield 59, 3) := by decide +kernel
theorem dX12_init_142 : decode cX12_init 142 = .ok (.aload_n 0, 1) := by decide +kernel
theorem dX12_init_143 : decode cX12_init 143 = .ok (.sipush 793, 3) := by decide +kernel
theorem dX12_init_146 : decode cX12_init 146 = .ok (.newarray .boolean, 2) := by decide +kernel
theorem dX12_init_148 : decode cX12_init 148 = .ok (.putfield 62, 3) := by decide +kernel
theorem dX12_init_151 : decode cX12_init 151 = .ok (.aload_n 0, 1) := by decide +kernel
theorem dX12_init_152 : decode cX12_init 152 = .ok (.bipush 8, 2) := by decide +kernel
theorem dX12_init_154 : decode cX12_init 154 = .ok (.newarray .int, 2) := by decide +kernel
theorem dX12_init_156 : decode cX12_init 156 = .ok (.putfield 65, 3) := by decide +kernel
theorem dX12_init_159 : decode cX12_init 159 = .ok (.aload_n 0, 1) := by decide +kernel
theorem dX12_init_160 : decode cX12_init 160 = .ok (.bipush 50, 2) := by decide +kernel
theorem dX12_init_162 : decode cX12_init 162 = .ok (.newarray .int, 2) := by decide +kernel
theorem dX12_init_164 : decode cX12_init 164 = .ok (.putfield 68, 3) := by decide +kernel
theorem dX12_init_167 : decode cX12_init 167 = .ok (.aload_n 0, 1) := by decide +kernel
theorem dX12_init_168 : decode cX12_init 168 = .ok (.bipush 24, 2) := by decide +kernel
theorem dX12_init_170 : decode cX12_init 170 = .ok (.newarray .int, 2) := by decide +kernel
theorem dX12_init_172 : decode cX12_init 172 = .ok (.putfield 71, 3) := by decide +kernel
theorem dX12_init_175 : decode cX12_init 175 = .ok (.aload_n 0, 1) := by decide +kernel
theorem dX12_init_176 : decode cX12_init 176 = .ok (.bipush 6, 2) := by decide +kernel
theorem dX12_init_178 : decode cX12_init 178 = .ok (.newarray .int, 2) := by decide +kernel
theorem dX12_init_180 : decode cX12_init 180 = .ok (.putfield 74, 3) := by decide +kernel
theorem dX12_init_183 : decode cX12_init 183 = .ok (.aload_n 0, 1) := by decide +kernel
theorem dX12_init_184 : decode cX12_init 184 = .ok (.bipush 6, 2) := by decide +kernel
theorem dX12_init_186 : decode cX12_init 186 = .ok (.newarray .int, 2) := by decide +kernel
theorem dX12_init_188 : decode cX12_init 188 = .ok (.putfield 77, 3) := by decide +kernel
theorem dX12_init_191 : decode cX12_init 191 = .ok (.aload_n 0, 1) := by decide +kernel
theorem dX12_init_192 : decode cX12_init 192 = .ok (.sipush 360, 3) := by decide +kernel
theorem dX12_init_195 : decode cX12_init 195 = .ok (.newarray .long, 2) := by decide +kernel
theorem dX12_init_197 : decode cX12_init 197 = .ok (.putfield 80, 3) := by decide +kernel
theorem dX12_init_200 : decode cX12_init 200 = .ok (.aload_n 0, 1) := by decide +kernel
theorem dX12_init_201 : decode cX12_init 201 = .ok (.bipush 60, 2) := by decide +kernel
theorem dX12_init_203 : decode cX12_init 203 = .ok (.newarray .long, 2) := by decide +kernel
theorem dX12_init_205 : decode cX12_init 205 = .ok (.putfield 84, 3) := by decide +kernel
theorem dX12_init_208 : decode cX12_init 208 = .ok (.iconst 0, 1) := by decide +kernel
theorem dX12_init_209 : decode cX12_init 209 = .ok (.istore_n 1, 1) := by decide +kernel
theorem dX12_init_210 : decode cX12_init 210 = .ok (.iload_n 1, 1) := by decide +kernel
theorem dX12_init_211 : decode cX12_init 211 = .ok (.bipush 6, 2) := by decide +kernel
theorem dX12_init_213 : decode cX12_init 213 = .ok (.if_icmp .ge 16, 3) := by decide +kernel
theorem dX12_init_216 : decode cX12_init 216 = .ok (.aload_n 0, 1) := by decide +kernel
theorem dX12_init_217 : decode cX12_init 217 = .ok (.getfield 74, 3) := by decide +kernel
theorem dX12_init_220 : decode cX12_init 220 = .ok (.iload_n 1, 1) := by decide +kernel
theorem dX12_init_221 : decode cX12_init 221 = .ok (.iconst (-1), 1) := by decide +kernel
theorem dX12_init_222 : decode cX12_init 222 = .ok (.iastore, 1) := by decide +kernel
theorem dX12_init_223 : decode cX12_init 223 = .ok (.iinc 1 1, 3) := by decide +kernel
theorem dX12_init_226 : decode cX12_init 226 = .ok (.goto (-16), 3) := by decide +kernel
theorem dX12_init_229 : decode cX12_init 229 = .ok (.aload_n 0, 1) := by decide +kernel
theorem dX12_init_230 : decode cX12_init 230 = .ok (.iconst (-1), 1) := by decide +kernel
theorem dX12_init_231 : decode cX12_init 231 = .ok (.putfield 87, 3) := by decide +kernel
theorem dX12_init_234 : decode cX12_init 234 = .ok (.iconst 0, 1) := by decide +kernel
theorem dX12_init_235 : decode cX12_init 235 = .ok (.istore_n 1, 1) := by decide +kernel
theorem dX12_init_236 : decode cX12_init 236 = .ok (.iload_n 1, 1) := by decide +kernel
theorem dX12_init_237 : decode cX12_init 237 = .ok (.iconst 3, 1) := by decide +kernel
theorem dX12_init_238 : decode cX12_init 238 = .ok (.if_icmp .ge 27, 3) := by decide +kernel
theorem dX12_init_241 : decode cX12_init 241 = .ok (.aload_n 0, 1) := by decide +kernel
theorem dX12_init_242 : decode cX12_init 242 = .ok (.getfield 9, 3) := by decide +kernel
theorem dX12_init_245 : decode cX12_init 245 = .ok (.bipush 67, 2) := by decide +kernel
theorem dX12_init_247 : decode cX12_init 247 = .ok (.iload_n 1, 1) := by decide +kernel
theorem dX12_init_248 : decode cX12_init 248 = .ok (.iadd, 1) := by decide +kernel
theorem dX12_init_249 : decode cX12_init 249 = .ok (.iconst 1, 1) := by decide +kernel
theorem dX12_init_250 : decode cX12_init 250 = .ok (.iastore, 1) := by decide +kernel
theorem dX12_init_251 : decode cX12_init 251 = .ok (.aload_n 0, 1) := by decide +kernel
theorem dX12_init_252 : decode cX12_init 252 = .ok (.getfield 22, 3) := by decide +kernel
theorem dX12_init_255 : decode cX12_init 255 = .ok (.iload_n 1, 1) := by decide +kernel
theorem dX12_init_256 : decode cX12_init 256 = .ok (.bipush 30, 2) := by decide +kernel
theorem dX12_init_258 : decode cX12_init 258 = .ok (.iastore, 1) := by decide +kernel
theorem dX12_init_259 : decode cX12_init 259 = .ok (.iinc 1 1, 3) := by decide +kernel
theorem dX12_init_262 : decode cX12_init 262 = .ok (.goto (-26), 3) := by decide +kernel
theorem dX12_init_265 : decode cX12_init 265 = .ok (.aload_n 0, 1) := by decide +kernel
theorem dX12_init_266 : decode cX12_init 266 = .ok (.getfield 9, 3) := by decide +kernel
theorem dX12_init_269 : decode cX12_init 269 = .ok (.bipush 70, 2) := by decide +kernel
theorem dX12_init_271 : decode cX12_init 271 = .ok (.iconst 3, 1) := by decide +kernel
theorem dX12_init_272 : decode cX12_init 272 = .ok (.iastore, 1) := by decide +kernel
theorem dX12_init_273 : decode cX12_init 273 = .ok (.aload_n 0, 1) := by decide +kernel
theorem dX12_init_274 : decode cX12_init 274 = .ok (.bipush (-2), 2) := by decide +kernel
theorem dX12_init_276 : decode cX12_init 276 = .ok (.putfield 91, 3) := by decide +kernel
theorem dX12_init_279 : decode cX12_init 279 = .ok (.aload_n 0, 1) := by decide +kernel
theorem dX12_init_280 : decode cX12_init 280 = .ok (.iconst (-1), 1) := by decide +kernel
theorem dX12_init_281 : decode cX12_init 281 = .ok (.putfield 94, 3) := by decide +kernel
theorem dX12_init_284 : decode cX12_init 284 = .ok (.aload_n 0, 1) := by decide +kernel
theorem dX12_init_285 : decode cX12_init 285 = .ok (.iconst (-1), 1) := by decide +kernel
theorem dX12_init_286 : decode cX12_init 286 = .ok (.putfield 97, 3) := by decide +kernel
theorem dX12_init_289 : decode cX12_init 289 = .ok (.return_, 1) := by decide +kernel
theorem dX12_becomes_0 : decode cX12_becomes 0 = .ok (.aload_n 0, 1) := by decide +kernel
theorem dX12_becomes_1 : decode cX12_becomes 1 = .ok (.getfield 9, 3) := by decide +kernel
theorem dX12_becomes_4 : decode cX12_becomes 4 = .ok (.iload_n 1, 1) := by decide +kernel
theorem dX12_becomes_5 : decode cX12_becomes 5 = .ok (.iaload, 1) := by decide +kernel
theorem dX12_becomes_6 : decode cX12_becomes 6 = .ok (.istore_n 3, 1) := by decide +kernel
theorem dX12_becomes_7 : decode cX12_becomes 7 = .ok (.iload_n 3, 1) := by decide +kernel
theorem dX12_becomes_8 : decode cX12_becomes 8 = .ok (.iload_n 2, 1) := by decide +kernel
theorem dX12_becomes_9 : decode cX12_becomes 9 = .ok (.if_icmp .ne 5, 3) := by decide +kernel
theorem dX12_becomes_12 : decode cX12_becomes 12 = .ok (.iload_n 3, 1) := by decide +kernel
theorem dX12_becomes_13 : decode cX12_becomes 13 = .ok (.ireturn, 1) := by decide +kernel
theorem dX12_becomes_14 : decode cX12_becomes 14 = .ok (.aload_n 0, 1) := by decide +kernel
theorem dX12_becomes_15 : decode cX12_becomes 15 = .ok (.getfield 100, 3) := by decide +kernel
theorem dX12_becomes_18 : decode cX12_becomes 18 = .ok (.bipush 40, 2) := by decide +kernel
theorem dX12_becomes_20 : decode cX12_becomes 20 = .ok (.if_icmp .ne 77, 3) := by decide +kernel
theorem dX12_becomes_97 : decode cX12_becomes 97 = .ok (.aload_n 0, 1) := by decide +kernel
theorem dX12_becomes_98 : decode cX12_becomes 98 = .ok (.getfield 13, 3) := by decide +kernel
theorem dX12_becomes_101 : decode cX12_becomes 101 = .ok (.aload_n 0, 1) := by decide +kernel
theorem dX12_becomes_102 : decode cX12_becomes 102 = .ok (.getfield 100, 3) := by decide +kernel
theorem dX12_becomes_105 : decode cX12_becomes 105 = .ok (.iload_n 1, 1) := by decide +kernel
theorem dX12_becomes_106 : decode cX12_becomes 106 = .ok (.iastore, 1) := by decide +kernel
theorem dX12_becomes_107 : decode cX12_becomes 107 = .ok (.aload_n 0, 1) := by decide +kernel
theorem dX12_becomes_108 : decode cX12_becomes 108 = .ok (.getfield 16, 3) := by decide +kernel
theorem dX12_becomes_111 : decode cX12_becomes 111 = .ok (.aload_n 0, 1) := by decide +kernel
theorem dX12_becomes_112 : decode cX12_becomes 112 = .ok (.getfield 100, 3) := by decide +kernel
theorem dX12_becomes_115 : decode cX12_becomes 115 = .ok (.iload_n 3, 1) := by decide +kernel
theorem dX12_becomes_116 : decode cX12_becomes 116 = .ok (.iastore, 1) := by decide +kernel
theorem dX12_becomes_117 : decode cX12_becomes 117 = .ok (.aload_n 0, 1) := by decide +kernel
theorem dX12_becomes_118 : decode cX12_becomes 118 = .ok (.getfield 19, 3) := by decide +kernel
theorem dX12_becomes_121 : decode cX12_becomes 121 = .ok (.aload_n 0, 1) := by decide +kernel
theorem dX12_becomes_122 : decode cX12_becomes 122 = .ok (.getfield 100, 3) := by decide +kernel
theorem dX12_becomes_125 : decode cX12_becomes 125 = .ok (.iload_n 2, 1) := by decide +kernel
theorem dX12_becomes_126 : decode cX12_becomes 126 = .ok (.iastore, 1) := by decide +kernel
theorem dX12_becomes_127 : decode cX12_becomes 127 = .ok (.aload_n 0, 1) := by decide +kernel
theorem dX12_becomes_128 : decode cX12_becomes 128 = .ok (.dup, 1) := by decide +kernel
theorem dX12_becomes_129 : decode cX12_becomes 129 = .ok (.getfield 100, 3) := by decide +kernel
theorem dX12_becomes_132 : decode cX12_becomes 132 = .ok (.iconst 1, 1) := by decide +kernel
theorem dX12_becomes_133 : decode cX12_becomes 133 = .ok (.iadd, 1) := by decide +kernel
theorem dX12_becomes_134 : decode cX12_becomes 134 = .ok (.putfield 100, 3) := by decide +kernel
theorem dX12_becomes_137 : decode cX12_becomes 137 = .ok (.aload_n 0, 1) := by decide +kernel
theorem dX12_becomes_138 : decode cX12_becomes 138 = .ok (.aload_n 0, 1) := by decide +kernel
theorem dX12_becomes_139 : decode cX12_becomes 139 = .ok (.getfield 100, 3) := by decide +kernel
theorem dX12_becomes_142 : decode cX12_becomes 142 = .ok (.putfield 103, 3) := by decide +kernel
theorem dX12_becomes_145 : decode cX12_becomes 145 = .ok (.aload_n 0, 1) := by decide +kernel
theorem dX12_becomes_146 : decode cX12_becomes 146 = .ok (.getfield 9, 3) := by decide +kernel
theorem dX12_becomes_149 : decode cX12_becomes 149 = .ok (.iload_n 1, 1) := by decide +kernel
theorem dX12_becomes_150 : decode cX12_becomes 150 = .ok (.iload_n 2, 1) := by decide +kernel
theorem dX12_becomes_151 : decode cX12_becomes 151 = .ok (.iastore, 1) := by decide +kernel
theorem dX12_becomes_152 : decode cX12_becomes 152 = .ok (.iload_n 3, 1) := by decide +kernel
theorem dX12_becomes_153 : decode cX12_becomes 153 = .ok (.ireturn, 1) := by decide +kernel
theorem dX12_undo_0 : decode cX12_undo 0 = .ok (.aload_n 0, 1) := by decide +kernel
theorem dX12_undo_1 : decode cX12_undo 1 = .ok (.getfield 100, 3) := by decide +kernel
theorem dX12_undo_4 : decode cX12_undo 4 = .ok (.ifCond .ne 6, 3) := by decide +kernel
theorem dX12_undo_7 : decode cX12_undo 7 = .ok (.bipush (-5), 2) := by decide +kernel
theorem dX12_undo_9 : decode cX12_undo 9 = .ok (.ireturn, 1) := by decide +kernel
theorem dX12_redo_0 : decode cX12_redo 0 = .ok (.aload_n 0, 1) := by decide +kernel
theorem dX12_redo_1 : decode cX12_redo 1 = .ok (.getfield 100, 3) := by decide +kernel
theorem dX12_redo_4 : decode cX12_redo 4 = .ok (.aload_n 0, 1) := by decide +kernel
theorem dX12_redo_5 : decode cX12_redo 5 = .ok (.getfield 103, 3) := by decide +kernel
theorem dX12_redo_8 : decode cX12_redo 8 = .ok (.if_icmp .ne 6, 3) := by decide +kernel
theorem dX12_redo_11 : decode cX12_redo 11 = .ok (.bipush (-5), 2) := by decide +kernel
theorem dX12_redo_13 : decode cX12_redo 13 = .ok (.ireturn, 1) := by decide +kernel
theorem dX12_isSitter_0 : decode cX12_isSitter 0 = .ok (.lload_n 1, 1) := by decide +kernel
theorem dX12_isSitter_1 : decode cX12_isSitter 1 = .ok (.lconst 0, 1) := by decide +kernel
theorem dX12_isSitter_2 : decode cX12_isSitter 2 = .ok (.aload_n 0, 1) := by decide +kernel
theorem dX12_isSitter_3 : decode cX12_isSitter 3 = .ok (.getfield 106, 3) := by decide +kernel
theorem dX12_isSitter_6 : decode cX12_isSitter 6 = .ok (.iconst 1, 1) := by decide +kernel
theorem dX12_isSitter_7 : decode cX12_isSitter 7 = .ok (.isub, 1) := by decide +kernel
theorem dX12_isSitter_8 : decode cX12_isSitter 8 = .ok (.i2l, 1) := by decide +kernel
theorem dX12_isSitter_9 : decode cX12_isSitter 9 = .ok (.invokestatic 109, 3) := by decide +kernel
theorem dX12_isSitter_12 : decode cX12_isSitter 12 = .ok (.ireturn, 1) := by decide +kernel
theorem dX12_isPart_0 : decode cX12_isPart 0 = .ok (.iload_n 0, 1) := by decide +kernel
theorem dX12_isPart_1 : decode cX12_isPart 1 = .ok (.i2l, 1) := by decide +kernel
theorem dX12_isPart_2 : decode cX12_isPart 2 = .ok (.lconst 0, 1) := by decide +kernel
theorem dX12_isPart_3 : decode cX12_isPart 3 = .ok (.ldc2_w 113, 3) := by decide +kernel
theorem dX12_isPart_6 : decode cX12_isPart 6 = .ok (.invokestatic 109, 3) := by decide +kernel
theorem dX12_isPart_9 : decode cX12_isPart 9 = .ok (.ireturn, 1) := by decide +kernel
theorem dX12_isSetting_0 : decode cX12_isSetting 0 = .ok (.lload_n 0, 1) := by decide +kernel
theorem dX12_isSetting_1 : decode cX12_isSetting 1 = .ok (.lconst 0, 1) := by decide +kernel
theorem dX12_isSetting_2 : decode cX12_isSetting 2 = .ok (.ldc2_w 115, 3) := by decide +kernel
theorem dX12_isSetting_5 : decode cX12_isSetting 5 = .ok (.invokestatic 109, 3) := by decide +kernel
theorem dX12_isSetting_8 : decode cX12_isSetting 8 = .ok (.ireturn, 1) := by decide +kernel
theorem dX12_adds_0 : decode cX12_adds 0 = .ok (.aload_n 0, 1) := by decide +kernel
theorem dX12_adds_1 : decode cX12_adds 1 = .ok (.getfield 106, 3) := by decide +kernel
theorem dX12_adds_4 : decode cX12_adds 4 = .ok (.istore 5, 2) := by decide +kernel
theorem dX12_adds_6 : decode cX12_adds 6 = .ok (.aload_n 0, 1) := by decide +kernel
theorem dX12_adds_7 : decode cX12_adds 7 = .ok (.getfield 9, 3) := by decide +kernel
theorem dX12_adds_10 : decode cX12_adds 10 = .ok (.iload 5, 2) := by decide +kernel
theorem dX12_adds_12 : decode cX12_adds 12 = .ok (.iload_n 1, 1) := by decide +kernel
theorem dX12_adds_13 : decode cX12_adds 13 = .ok (.iastore, 1) := by decide +kernel
theorem dX12_adds_14 : decode cX12_adds 14 = .ok (.aload_n 0, 1) := by decide +kernel
theorem dX12_adds_15 : decode cX12_adds 15 = .ok (.getfield 9, 3) := by decide +kernel
theorem dX12_adds_18 : decode cX12_adds 18 = .ok (.bipush 8, 2) := by decide +kernel
theorem dX12_adds_20 : decode cX12_adds 20 = .ok (.iload 5, 2) := by decide +kernel
theorem dX12_adds_22 : decode cX12_adds 22 = .ok (.iadd, 1) := by decide +kernel
theorem dX12_adds_23 : decode cX12_adds 23 = .ok (.iload_n 2, 1) := by decide +kernel
theorem dX12_adds_24 : decode cX12_adds 24 = .ok (.iastore, 1) := by decide +kernel
theorem dX12_adds_25 : decode cX12_adds 25 = .ok (.aload_n 0, 1) := by decide +kernel
theorem dX12_adds_26 : decode cX12_adds 26 = .ok (.getfield 9, 3) := by decide +kernel
theorem dX12_adds_29 : decode cX12_adds 29 = .ok (.bipush 16, 2) := by decide +kernel
theorem dX12_adds_31 : decode cX12_adds 31 = .ok (.iload 5, 2) := by decide +kernel
theorem dX12_adds_33 : decode cX12_adds 33 = .ok (.iadd, 1) := by decide +kernel
theorem dX12_adds_34 : decode cX12_adds 34 = .ok (.iload_n 3, 1) := by decide +kernel
theorem dX12_adds_35 : decode cX12_adds 35 = .ok (.iastore, 1) := by decide +kernel
theorem dX12_adds_36 : decode cX12_adds 36 = .ok (.aload_n 0, 1) := by decide +kernel
theorem dX12_adds_37 : decode cX12_adds 37 = .ok (.getfield 9, 3) := by decide +kernel
theorem dX12_adds_40 : decode cX12_adds 40 = .ok (.bipush 24, 2) := by decide +kernel
theorem dX12_adds_42 : decode cX12_adds 42 = .ok (.iload 5, 2) := by decide +kernel
theorem dX12_adds_44 : decode cX12_adds 44 = .ok (.iadd, 1) := by decide +kernel
theorem dX12_adds_45 : decode cX12_adds 45 = .ok (.iconst 1, 1) := by decide +kernel
theorem dX12_adds_46 : decode cX12_adds 46 = .ok (.iastore, 1) := by decide +kernel
theorem dX12_adds_47 : decode cX12_adds 47 = .ok (.aload_n 0, 1) := by decide +kernel
theorem dX12_adds_48 : decode cX12_adds 48 = .ok (.getfield 9, 3) := by decide +kernel
theorem dX12_adds_51 : decode cX12_adds 51 = .ok (.bipush 32, 2) := by decide +kernel
theorem dX12_adds_53 : decode cX12_adds 53 = .ok (.iload 5, 2) := by decide +kernel
theorem dX12_adds_55 : decode cX12_adds 55 = .ok (.iadd, 1) := by decide +kernel
theorem dX12_adds_56 : decode cX12_adds 56 = .ok (.iconst 1, 1) := by decide +kernel
theorem dX12_adds_57 : decode cX12_adds 57 = .ok (.iastore, 1) := by decide +kernel
theorem dX12_adds_58 : decode cX12_adds 58 = .ok (.aload_n 0, 1) := by decide +kernel
theorem dX12_adds_59 : decode cX12_adds 59 = .ok (.getfield 9, 3) := by decide +kernel
theorem dX12_adds_62 : decode cX12_adds 62 = .ok (.bipush 40, 2) := by decide +kernel
theorem dX12_adds_64 : decode cX12_adds 64 = .ok (.iload 5, 2) := by decide +kernel
theorem dX12_adds_66 : decode cX12_adds 66 = .ok (.iadd, 1) := by decide +kernel
theorem dX12_adds_67 : decode cX12_adds 67 = .ok (.iload 4, 2) := by decide +kernel
theorem dX12_adds_69 : decode cX12_adds 69 = .ok (.iastore, 1) := by decide +kernel
theorem dX12_adds_70 : decode cX12_adds 70 = .ok (.aload_n 0, 1) := by decide +kernel
theorem dX12_adds_71 : decode cX12_adds 71 = .ok (.getfield 9, 3) := by decide +kernel
theorem dX12_adds_74 : decode cX12_adds 74 = .ok (.bipush 48, 2) := by decide +kernel
theorem dX12_adds_76 : decode cX12_adds 76 = .ok (.iload 5, 2) := by decide +kernel
theorem dX12_adds_78 : decode cX12_adds 78 = .ok (.iadd, 1) := by decide +kernel
theorem dX12_adds_79 : decode cX12_adds 79 = .ok (.iconst 0, 1) := by decide +kernel
theorem dX12_adds_80 : decode cX12_adds 80 = .ok (.iastore, 1) := by decide +kernel
theorem dX12_adds_81 : decode cX12_adds 81 = .ok (.aload_n 0, 1) := by decide +kernel
theorem dX12_adds_82 : decode cX12_adds 82 = .ok (.getfield 9, 3) := by decide +kernel
theorem dX12_adds_85 : decode cX12_adds 85 = .ok (.bipush 56, 2) := by decide +kernel
theorem dX12_adds_87 : decode cX12_adds 87 = .ok (.iload 5, 2) := by decide +kernel
theorem dX12_adds_89 : decode cX12_adds 89 = .ok (.iadd, 1) := by decide +kernel
theorem dX12_adds_90 : decode cX12_adds 90 = .ok (.iconst 0, 1) := by decide +kernel
theorem dX12_adds_91 : decode cX12_adds 91 = .ok (.iastore, 1) := by decide +kernel
theorem dX12_adds_92 : decode cX12_adds 92 = .ok (.aload_n 0, 1) := by decide +kernel
theorem dX12_adds_93 : decode cX12_adds 93 = .ok (.dup, 1) := by decide +kernel
theorem dX12_adds_94 : decode cX12_adds 94 = .ok (.getfield 106, 3) := by decide +kernel
theorem dX12_adds_97 : decode cX12_adds 97 = .ok (.iconst 1, 1) := by decide +kernel
theorem dX12_adds_98 : decode cX12_adds 98 = .ok (.iadd, 1) := by decide +kernel
theorem dX12_adds_99 : decode cX12_adds 99 = .ok (.putfield 106, 3) := by decide +kernel
theorem dX12_adds_102 : decode cX12_adds 102 = .ok (.return_, 1) := by decide +kernel
theorem dX12_sitter_0 : decode cX12_sitter 0 = .ok (.iload_n 1, 1) := by decide +kernel
theorem dX12_sitter_1 : decode cX12_sitter 1 = .ok (.i2l, 1) := by decide +kernel
theorem dX12_sitter_2 : decode cX12_sitter 2 = .ok (.invokestatic 117, 3) := by decide +kernel
theorem dX12_sitter_5 : decode cX12_sitter 5 = .ok (.ifCond .eq 15, 3) := by decide +kernel
theorem dX12_sitter_8 : decode cX12_sitter 8 = .ok (.iload_n 2, 1) := by decide +kernel
theorem dX12_sitter_9 : decode cX12_sitter 9 = .ok (.i2l, 1) := by decide +kernel
theorem dX12_sitter_10 : decode cX12_sitter 10 = .ok (.lconst 1, 1) := by decide +kernel
theorem dX12_sitter_11 : decode cX12_sitter 11 = .ok (.ldc2_w 121, 3) := by decide +kernel
theorem dX12_sitter_14 : decode cX12_sitter 14 = .ok (.invokestatic 109, 3) := by decide +kernel
theorem dX12_sitter_17 : decode cX12_sitter 17 = .ok (.ifCond .ne 5, 3) := by decide +kernel
theorem dX12_sitter_20 : decode cX12_sitter 20 = .ok (.iconst (-1), 1) := by decide +kernel
theorem dX12_sitter_21 : decode cX12_sitter 21 = .ok (.ireturn, 1) := by decide +kernel
theorem dX12_sitter_22 : decode cX12_sitter 22 = .ok (.aload_n 0, 1) := by decide +kernel
theorem dX12_sitter_23 : decode cX12_sitter 23 = .ok (.getfield 106, 3) := by decide +kernel
theorem dX12_sitter_26 : decode cX12_sitter 26 = .ok (.bipush 8, 2) := by decide +kernel
theorem dX12_sitter_28 : decode cX12_sitter 28 = .ok (.if_icmp .ne 6, 3) := by decide +kernel
theorem dX12_sitter_34 : decode cX12_sitter 34 = .ok (.aload_n 0, 1) := by decide +kernel
theorem dX12_sitter_35 : decode cX12_sitter 35 = .ok (.iload_n 1, 1) := by decide +kernel
theorem dX12_sitter_36 : decode cX12_sitter 36 = .ok (.iload_n 1, 1) := by decide +kernel
theorem dX12_sitter_37 : decode cX12_sitter 37 = .ok (.iload_n 1, 1) := by decide +kernel
theorem dX12_sitter_38 : decode cX12_sitter 38 = .ok (.iload_n 2, 1) := by decide +kernel
theorem dX12_sitter_39 : decode cX12_sitter 39 = .ok (.invokevirtual 123, 3) := by decide +kernel
theorem dX12_sitter_42 : decode cX12_sitter 42 = .ok (.aload_n 0, 1) := by decide +kernel
theorem dX12_sitter_43 : decode cX12_sitter 43 = .ok (.getfield 106, 3) := by decide +kernel
theorem dX12_sitter_46 : decode cX12_sitter 46 = .ok (.iconst 1, 1) := by decide +kernel
theorem dX12_sitter_47 : decode cX12_sitter 47 = .ok (.isub, 1) := by decide +kernel
theorem dX12_sitter_48 : decode cX12_sitter 48 = .ok (.ireturn, 1) := by decide +kernel
theorem dX12_sitters_0 : decode cX12_sitters 0 = .ok (.iload_n 1, 1) := by decide +kernel
theorem dX12_sitters_1 : decode cX12_sitters 1 = .ok (.invokestatic 127, 3) := by decide +kernel
theorem dX12_sitters_4 : decode cX12_sitters 4 = .ok (.ifCond .eq 15, 3) := by decide +kernel
theorem dX12_sitters_7 : decode cX12_sitters 7 = .ok (.iload_n 3, 1) := by decide +kernel
theorem dX12_sitters_8 : decode cX12_sitters 8 = .ok (.i2l, 1) := by decide +kernel
theorem dX12_sitters_9 : decode cX12_sitters 9 = .ok (.lconst 1, 1) := by decide +kernel
theorem dX12_sitters_10 : decode cX12_sitters 10 = .ok (.ldc2_w 131, 3) := by decide +kernel
theorem dX12_sitters_13 : decode cX12_sitters 13 = .ok (.invokestatic 109, 3) := by decide +kernel
theorem dX12_sitters_16 : decode cX12_sitters 16 = .ok (.ifCond .ne 5, 3) := by decide +kernel
theorem dX12_sitters_19 : decode cX12_sitters 19 = .ok (.iconst (-1), 1) := by decide +kernel
theorem dX12_sitters_20 : decode cX12_sitters 20 = .ok (.ireturn, 1) := by decide +kernel
theorem dX12_sitters_21 : decode cX12_sitters 21 = .ok (.aload_n 0, 1) := by decide +kernel
theorem dX12_sitters_22 : decode cX12_sitters 22 = .ok (.getfield 74, 3) := by decide +kernel
theorem dX12_sitters_25 : decode cX12_sitters 25 = .ok (.iload_n 1, 1) := by decide +kernel
theorem dX12_sitters_26 : decode cX12_sitters 26 = .ok (.iaload, 1) := by decide +kernel
theorem dX12_sitters_27 : decode cX12_sitters 27 = .ok (.ifCond .lt 17, 3) := by decide +kernel
theorem dX12_sitters_44 : decode cX12_sitters 44 = .ok (.iconst 0, 1) := by decide +kernel
theorem dX12_sitters_45 : decode cX12_sitters 45 = .ok (.istore 4, 2) := by decide +kernel
theorem dX12_sitters_47 : decode cX12_sitters 47 = .ok (.aload_n 0, 1) := by decide +kernel
theorem dX12_sitters_48 : decode cX12_sitters 48 = .ok (.getfield 74, 3) := by decide +kernel
theorem dX12_sitters_51 : decode cX12_sitters 51 = .ok (.iload_n 1, 1) := by decide +kernel
theorem dX12_sitters_52 : decode cX12_sitters 52 = .ok (.iaload, 1) := by decide +kernel
theorem dX12_sitters_53 : decode cX12_sitters 53 = .ok (.bipush 50, 2) := by decide +kernel
theorem dX12_sitters_55 : decode cX12_sitters 55 = .ok (.if_icmp .ne 11, 3) := by decide +kernel
theorem dX12_sitters_66 : decode cX12_sitters 66 = .ok (.iconst 0, 1) := by decide +kernel
theorem dX12_sitters_67 : decode cX12_sitters 67 = .ok (.istore 5, 2) := by decide +kernel
theorem dX12_sitters_69 : decode cX12_sitters 69 = .ok (.iload 5, 2) := by decide +kernel
theorem dX12_sitters_71 : decode cX12_sitters 71 = .ok (.ifCond .eq 182, 3) := by decide +kernel
theorem dX12_sitters_253 : decode cX12_sitters 253 = .ok (.iload 4, 2) := by decide +kernel
theorem dX12_sitters_255 : decode cX12_sitters 255 = .ok (.ireturn, 1) := by decide +kernel
theorem dX12_placeOf_0 : decode cX12_placeOf 0 = .ok (.iload_n 2, 1) := by decide +kernel
theorem dX12_placeOf_1 : decode cX12_placeOf 1 = .ok (.i2l, 1) := by decide +kernel
theorem dX12_placeOf_2 : decode cX12_placeOf 2 = .ok (.lconst 0, 1) := by decide +kernel
theorem dX12_placeOf_3 : decode cX12_placeOf 3 = .ok (.ldc2_w 133, 3) := by decide +kernel
theorem dX12_placeOf_6 : decode cX12_placeOf 6 = .ok (.invokestatic 109, 3) := by decide +kernel
theorem dX12_placeOf_9 : decode cX12_placeOf 9 = .ok (.ifCond .eq 23, 3) := by decide +kernel
theorem dX12_placeOf_12 : decode cX12_placeOf 12 = .ok (.aload_n 0, 1) := by decide +kernel
theorem dX12_placeOf_13 : decode cX12_placeOf 13 = .ok (.iload_n 1, 1) := by decide +kernel
theorem dX12_placeOf_14 : decode cX12_placeOf 14 = .ok (.i2l, 1) := by decide +kernel
theorem dX12_placeOf_15 : decode cX12_placeOf 15 = .ok (.invokevirtual 135, 3) := by decide +kernel
theorem dX12_placeOf_18 : decode cX12_placeOf 18 = .ok (.ifCond .eq 12, 3) := by decide +kernel
theorem dX12_placeOf_30 : decode cX12_placeOf 30 = .ok (.iconst (-1), 1) := by decide +kernel
theorem dX12_placeOf_31 : decode cX12_placeOf 31 = .ok (.ireturn, 1) := by decide +kernel
theorem dX12_placeOf_32 : decode cX12_placeOf 32 = .ok (.iload_n 2, 1) := by decide +kernel
theorem dX12_placeOf_33 : decode cX12_placeOf 33 = .ok (.i2l, 1) := by decide +kernel
theorem dX12_placeOf_34 : decode cX12_placeOf 34 = .ok (.ldc2_w 131, 3) := by decide +kernel
theorem dX12_placeOf_37 : decode cX12_placeOf 37 = .ok (.ldc2_w 138, 3) := by decide +kernel
theorem dX12_placeOf_40 : decode cX12_placeOf 40 = .ok (.invokestatic 109, 3) := by decide +kernel
theorem dX12_placeOf_43 : decode cX12_placeOf 43 = .ok (.ifCond .eq 26, 3) := by decide +kernel
theorem dX12_placeOf_46 : decode cX12_placeOf 46 = .ok (.iload_n 1, 1) := by decide +kernel
theorem dX12_placeOf_47 : decode cX12_placeOf 47 = .ok (.invokestatic 140, 3) := by decide +kernel
theorem dX12_placeOf_50 : decode cX12_placeOf 50 = .ok (.ifCond .eq 17, 3) := by decide +kernel
theorem dX12_placeOf_53 : decode cX12_placeOf 53 = .ok (.bipush 64, 2) := by decide +kernel
theorem dX12_placeOf_55 : decode cX12_placeOf 55 = .ok (.iconst 3, 1) := by decide +kernel
theorem dX12_placeOf_56 : decode cX12_placeOf 56 = .ok (.iload_n 2, 1) := by decide +kernel
theorem dX12_placeOf_57 : decode cX12_placeOf 57 = .ok (.bipush 8, 2) := by decide +kernel
theorem dX12_placeOf_59 : decode cX12_placeOf 59 = .ok (.isub, 1) := by decide +kernel
theorem dX12_placeOf_60 : decode cX12_placeOf 60 = .ok (.imul, 1) := by decide +kernel
theorem dX12_placeOf_61 : decode cX12_placeOf 61 = .ok (.iadd, 1) := by decide +kernel
theorem dX12_placeOf_62 : decode cX12_placeOf 62 = .ok (.iload_n 1, 1) := by decide +kernel
theorem dX12_placeOf_63 : decode cX12_placeOf 63 = .ok (.iadd, 1) := by decide +kernel
theorem dX12_placeOf_64 : decode cX12_placeOf 64 = .ok (.goto 4, 3) := by decide +kernel
theorem dX12_placeOf_67 : decode cX12_placeOf 67 = .ok (.iconst (-1), 1) := by decide +kernel
theorem dX12_placeOf_68 : decode cX12_placeOf 68 = .ok (.ireturn, 1) := by decide +kernel
theorem dX12_placeOf_69 : decode cX12_placeOf 69 = .ok (.iload_n 2, 1) := by decide +kernel
theorem dX12_placeOf_70 : decode cX12_placeOf 70 = .ok (.bipush 10, 2) := by decide +kernel
theorem dX12_placeOf_72 : decode cX12_placeOf 72 = .ok (.if_icmp .ne 12, 3) := by decide +kernel
theorem dX12_placeOf_75 : decode cX12_placeOf 75 = .ok (.iload_n 1, 1) := by decide +kernel
theorem dX12_placeOf_76 : decode cX12_placeOf 76 = .ok (.ifCond .ne 8, 3) := by decide +kernel
theorem dX12_placeOf_79 : decode cX12_placeOf 79 = .ok (.bipush 70, 2) := by decide +kernel
theorem dX12_placeOf_81 : decode cX12_placeOf 81 = .ok (.goto 4, 3) := by decide +kernel
theorem dX12_placeOf_84 : decode cX12_placeOf 84 = .ok (.iconst (-1), 1) := by decide +kernel
theorem dX12_placeOf_85 : decode cX12_placeOf 85 = .ok (.ireturn, 1) := by decide +kernel
theorem dX12_mostOf_0 : decode cX12_mostOf 0 = .ok (.iload_n 0, 1) := by decide +kernel
theorem dX12_mostOf_1 : decode cX12_mostOf 1 = .ok (.tableswitch 58 3 10 #[47, 47, 50, 58, 50, 53, 47, 55], 47) := by decide +kernel
theorem dX12_mostOf_48 : decode cX12_mostOf 48 = .ok (.bipush 9, 2) := by decide +kernel
theorem dX12_mostOf_50 : decode cX12_mostOf 50 = .ok (.ireturn, 1) := by decide +kernel
theorem dX12_mostOf_54 : decode cX12_mostOf 54 = .ok (.iconst 3, 1) := by decide +kernel
theorem dX12_mostOf_55 : decode cX12_mostOf 55 = .ok (.ireturn, 1) := by decide +kernel
theorem dX12_mostOf_56 : decode cX12_mostOf 56 = .ok (.bipush 99, 2) := by decide +kernel
theorem dX12_mostOf_58 : decode cX12_mostOf 58 = .ok (.ireturn, 1) := by decide +kernel
theorem dX12_mend_0 : decode cX12_mend 0 = .ok (.aload_n 0, 1) := by decide +kernel
theorem dX12_mend_1 : decode cX12_mend 1 = .ok (.iload_n 1, 1) := by decide +kernel
theorem dX12_mend_2 : decode cX12_mend 2 = .ok (.iload_n 2, 1) := by decide +kernel
theorem dX12_mend_3 : decode cX12_mend 3 = .ok (.invokevirtual 143, 3) := by decide +kernel
theorem dX12_mend_6 : decode cX12_mend 6 = .ok (.istore 4, 2) := by decide +kernel
theorem dX12_mend_8 : decode cX12_mend 8 = .ok (.iload 4, 2) := by decide +kernel
theorem dX12_mend_10 : decode cX12_mend 10 = .ok (.ifCond .lt 36, 3) := by decide +kernel
theorem dX12_mend_13 : decode cX12_mend 13 = .ok (.iload_n 3, 1) := by decide +kernel
theorem dX12_mend_14 : decode cX12_mend 14 = .ok (.i2l, 1) := by decide +kernel
theorem dX12_mend_15 : decode cX12_mend 15 = .ok (.iload_n 2, 1) := by decide +kernel
theorem dX12_mend_16 : decode cX12_mend 16 = .ok (.iconst 5, 1) := by decide +kernel
theorem dX12_mend_17 : decode cX12_mend 17 = .ok (.if_icmp .ne 7, 3) := by decide +kernel
theorem dX12_mend_24 : decode cX12_mend 24 = .ok (.lconst 0, 1) := by decide +kernel
theorem dX12_mend_25 : decode cX12_mend 25 = .ok (.iload_n 2, 1) := by decide +kernel
theorem dX12_mend_26 : decode cX12_mend 26 = .ok (.invokestatic 147, 3) := by decide +kernel
theorem dX12_mend_29 : decode cX12_mend 29 = .ok (.i2l, 1) := by decide +kernel
theorem dX12_mend_30 : decode cX12_mend 30 = .ok (.invokestatic 109, 3) := by decide +kernel
theorem dX12_mend_33 : decode cX12_mend 33 = .ok (.ifCond .eq 13, 3) := by decide +kernel
theorem dX12_mend_36 : decode cX12_mend 36 = .ok (.aload_n 0, 1) := by decide +kernel
theorem dX12_mend_37 : decode cX12_mend 37 = .ok (.iload 4, 2) := by decide +kernel
theorem dX12_mend_39 : decode cX12_mend 39 = .ok (.iload_n 3, 1) := by decide +kernel
theorem dX12_mend_40 : decode cX12_mend 40 = .ok (.invokevirtual 151, 3) := by decide +kernel
theorem dX12_mend_43 : decode cX12_mend 43 = .ok (.goto 4, 3) := by decide +kernel
theorem dX12_mend_46 : decode cX12_mend 46 = .ok (.iconst (-1), 1) := by decide +kernel
theorem dX12_mend_47 : decode cX12_mend 47 = .ok (.ireturn, 1) := by decide +kernel
theorem dX12_of_0 : decode cX12_of 0 = .ok (.iload_n 2, 1) := by decide +kernel
theorem dX12_of_1 : decode cX12_of 1 = .ok (.bipush 11, 2) := by decide +kernel
theorem dX12_of_3 : decode cX12_of 3 = .ok (.if_icmp .ne 21, 3) := by decide +kernel
theorem dX12_of_6 : decode cX12_of 6 = .ok (.iload_n 1, 1) := by decide +kernel
theorem dX12_of_7 : decode cX12_of 7 = .ok (.invokestatic 140, 3) := by decide +kernel
theorem dX12_of_10 : decode cX12_of 10 = .ok (.ifCond .eq 12, 3) := by decide +kernel
theorem dX12_of_13 : decode cX12_of 13 = .ok (.aload_n 0, 1) := by decide +kernel
theorem dX12_of_14 : decode cX12_of 14 = .ok (.getfield 22, 3) := by decide +kernel
theorem dX12_of_17 : decode cX12_of 17 = .ok (.iload_n 1, 1) := by decide +kernel
theorem dX12_of_18 : decode cX12_of 18 = .ok (.iaload, 1) := by decide +kernel
theorem dX12_of_19 : decode cX12_of 19 = .ok (.goto 4, 3) := by decide +kernel
theorem dX12_of_22 : decode cX12_of 22 = .ok (.iconst (-1), 1) := by decide +kernel
theorem dX12_of_23 : decode cX12_of 23 = .ok (.ireturn, 1) := by decide +kernel
theorem dX12_of_24 : decode cX12_of 24 = .ok (.aload_n 0, 1) := by decide +kernel
theorem dX12_of_25 : decode cX12_of 25 = .ok (.iload_n 1, 1) := by decide +kernel
theorem dX12_of_26 : decode cX12_of 26 = .ok (.iload_n 2, 1) := by decide +kernel
theorem dX12_of_27 : decode cX12_of 27 = .ok (.invokevirtual 143, 3) := by decide +kernel
theorem dX12_of_30 : decode cX12_of 30 = .ok (.istore_n 3, 1) := by decide +kernel
theorem dX12_of_31 : decode cX12_of 31 = .ok (.iload_n 3, 1) := by decide +kernel
theorem dX12_of_32 : decode cX12_of 32 = .ok (.ifCond .ge 7, 3) := by decide +kernel
theorem dX12_of_35 : decode cX12_of 35 = .ok (.iconst (-1), 1) := by decide +kernel
theorem dX12_of_36 : decode cX12_of 36 = .ok (.goto 9, 3) := by decide +kernel
theorem dX12_of_39 : decode cX12_of 39 = .ok (.aload_n 0, 1) := by decide +kernel
theorem dX12_of_40 : decode cX12_of 40 = .ok (.getfield 9, 3) := by decide +kernel
theorem dX12_of_43 : decode cX12_of 43 = .ok (.iload_n 3, 1) := by decide +kernel
theorem dX12_of_44 : decode cX12_of 44 = .ok (.iaload, 1) := by decide +kernel
theorem dX12_of_45 : decode cX12_of 45 = .ok (.ireturn, 1) := by decide +kernel
theorem dX12_feed_0 : decode cX12_feed 0 = .ok (.iload_n 1, 1) := by decide +kernel
theorem dX12_feed_1 : decode cX12_feed 1 = .ok (.i2l, 1) := by decide +kernel
theorem dX12_feed_2 : decode cX12_feed 2 = .ok (.lconst 0, 1) := by decide +kernel
theorem dX12_feed_3 : decode cX12_feed 3 = .ok (.ldc2_w 154, 3) := by decide +kernel
theorem dX12_feed_6 : decode cX12_feed 6 = .ok (.invokestatic 109, 3) := by decide +kernel
theorem dX12_feed_9 : decode cX12_feed 9 = .ok (.ifCond .ne 5, 3) := by decide +kernel
theorem dX12_feed_12 : decode cX12_feed 12 = .ok (.iconst (-1), 1) := by decide +kernel
theorem dX12_feed_13 : decode cX12_feed 13 = .ok (.ireturn, 1) := by decide +kernel
theorem dX12_feed_14 : decode cX12_feed 14 = .ok (.aload_n 0, 1) := by decide +kernel
theorem dX12_feed_15 : decode cX12_feed 15 = .ok (.getfield 156, 3) := by decide +kernel
theorem dX12_feed_18 : decode cX12_feed 18 = .ok (.bipush 120, 2) := by decide +kernel
theorem dX12_feed_20 : decode cX12_feed 20 = .ok (.if_icmp .ne 6, 3) := by decide +kernel
theorem dX12_feed_26 : decode cX12_feed 26 = .ok (.aload_n 0, 1) := by decide +kernel
theorem dX12_feed_27 : decode cX12_feed 27 = .ok (.getfield 25, 3) := by decide +kernel
theorem dX12_feed_30 : decode cX12_feed 30 = .ok (.aload_n 0, 1) := by decide +kernel
theorem dX12_feed_31 : decode cX12_feed 31 = .ok (.getfield 156, 3) := by decide +kernel
theorem dX12_feed_34 : decode cX12_feed 34 = .ok (.iload_n 1, 1) := by decide +kernel
theorem dX12_feed_35 : decode cX12_feed 35 = .ok (.iastore, 1) := by decide +kernel
theorem dX12_feed_36 : decode cX12_feed 36 = .ok (.aload_n 0, 1) := by decide +kernel
theorem dX12_feed_37 : decode cX12_feed 37 = .ok (.dup, 1) := by decide +kernel
theorem dX12_feed_38 : decode cX12_feed 38 = .ok (.getfield 156, 3) := by decide +kernel
theorem dX12_feed_41 : decode cX12_feed 41 = .ok (.iconst 1, 1) := by decide +kernel
theorem dX12_feed_42 : decode cX12_feed 42 = .ok (.iadd, 1) := by decide +kernel
theorem dX12_feed_43 : decode cX12_feed 43 = .ok (.putfield 156, 3) := by decide +kernel
theorem dX12_feed_46 : decode cX12_feed 46 = .ok (.aload_n 0, 1) := by decide +kernel
theorem dX12_feed_47 : decode cX12_feed 47 = .ok (.getfield 156, 3) := by decide +kernel
theorem dX12_feed_50 : decode cX12_feed 50 = .ok (.ireturn, 1) := by decide +kernel
theorem dX12_byteAt_0 : decode cX12_byteAt 0 = .ok (.aload_n 0, 1) := by decide +kernel
theorem dX12_byteAt_1 : decode cX12_byteAt 1 = .ok (.getfield 159, 3) := by decide +kernel
theorem dX12_byteAt_4 : decode cX12_byteAt 4 = .ok (.aload_n 0, 1) := by decide +kernel
theorem dX12_byteAt_5 : decode cX12_byteAt 5 = .ok (.getfield 162, 3) := by decide +kernel
theorem dX12_byteAt_8 : decode cX12_byteAt 8 = .ok (.if_icmp .ge 39, 3) := by decide +kernel
theorem dX12_byteAt_47 : decode cX12_byteAt 47 = .ok (.iconst 0, 1) := by decide +kernel
theorem dX12_byteAt_48 : decode cX12_byteAt 48 = .ok (.ireturn, 1) := by decide +kernel
theorem dX12_wrong_0 : decode cX12_wrong 0 = .ok (.aload_n 0, 1) := by decide +kernel
theorem dX12_wrong_1 : decode cX12_wrong 1 = .ok (.aload_n 0, 1) := by decide +kernel
theorem dX12_wrong_2 : decode cX12_wrong 2 = .ok (.getfield 168, 3) := by decide +kernel
theorem dX12_wrong_5 : decode cX12_wrong 5 = .ok (.ifCond .ge 10, 3) := by decide +kernel
theorem dX12_wrong_8 : decode cX12_wrong 8 = .ok (.aload_n 0, 1) := by decide +kernel
theorem dX12_wrong_9 : decode cX12_wrong 9 = .ok (.getfield 159, 3) := by decide +kernel
theorem dX12_wrong_12 : decode cX12_wrong 12 = .ok (.goto 7, 3) := by decide +kernel
theorem dX12_wrong_19 : decode cX12_wrong 19 = .ok (.putfield 168, 3) := by decide +kernel
theorem dX12_wrong_22 : decode cX12_wrong 22 = .ok (.iconst 0, 1) := by decide +kernel
theorem dX12_wrong_23 : decode cX12_wrong 23 = .ok (.ireturn, 1) := by decide +kernel
theorem dX12_takes_0 : decode cX12_takes 0 = .ok (.aload_n 0, 1) := by decide +kernel
theorem dX12_takes_1 : decode cX12_takes 1 = .ok (.getfield 168, 3) := by decide +kernel
theorem dX12_takes_4 : decode cX12_takes 4 = .ok (.ifCond .ge 11, 3) := by decide +kernel
theorem dX12_takes_15 : decode cX12_takes 15 = .ok (.iconst 0, 1) := by decide +kernel
theorem dX12_takes_16 : decode cX12_takes 16 = .ok (.ireturn, 1) := by decide +kernel
theorem dX12_either_0 : decode cX12_either 0 = .ok (.aload_n 0, 1) := by decide +kernel
theorem dX12_either_1 : decode cX12_either 1 = .ok (.invokevirtual 175, 3) := by decide +kernel
theorem dX12_either_4 : decode cX12_either 4 = .ok (.istore_n 1, 1) := by decide +kernel
theorem dX12_either_5 : decode cX12_either 5 = .ok (.aload_n 0, 1) := by decide +kernel
theorem dX12_either_6 : decode cX12_either 6 = .ok (.bipush 124, 2) := by decide +kernel
theorem dX12_either_8 : decode cX12_either 8 = .ok (.invokevirtual 178, 3) := by decide +kernel
theorem dX12_either_11 : decode cX12_either 11 = .ok (.ifCond .eq 25, 3) := by decide +kernel
theorem dX12_either_36 : decode cX12_either 36 = .ok (.iload_n 1, 1) := by decide +kernel
theorem dX12_either_37 : decode cX12_either 37 = .ok (.ireturn, 1) := by decide +kernel
theorem dX12_both_0 : decode cX12_both 0 = .ok (.aload_n 0, 1) := by decide +kernel
theorem dX12_both_1 : decode cX12_both 1 = .ok (.invokevirtual 181, 3) := by decide +kernel
theorem dX12_both_4 : decode cX12_both 4 = .ok (.istore_n 1, 1) := by decide +kernel
theorem dX12_both_5 : decode cX12_both 5 = .ok (.aload_n 0, 1) := by decide +kernel
theorem dX12_both_6 : decode cX12_both 6 = .ok (.bipush 38, 2) := by decide +kernel
theorem dX12_both_8 : decode cX12_both 8 = .ok (.invokevirtual 178, 3) := by decide +kernel
theorem dX12_both_11 : decode cX12_both 11 = .ok (.ifCond .eq 25, 3) := by decide +kernel
theorem dX12_both_36 : decode cX12_both 36 = .ok (.iload_n 1, 1) := by decide +kernel
theorem dX12_both_37 : decode cX12_both 37 = .ok (.ireturn, 1) := by decide +kernel
theorem dX12_compared_0 : decode cX12_compared 0 = .ok (.aload_n 0, 1) := by decide +kernel
theorem dX12_compared_1 : decode cX12_compared 1 = .ok (.invokevirtual 184, 3) := by decide +kernel
theorem dX12_compared_4 : decode cX12_compared 4 = .ok (.istore_n 1, 1) := by decide +kernel
theorem dX12_compared_5 : decode cX12_compared 5 = .ok (.aload_n 0, 1) := by decide +kernel
theorem dX12_compared_6 : decode cX12_compared 6 = .ok (.invokevirtual 171, 3) := by decide +kernel
theorem dX12_compared_9 : decode cX12_compared 9 = .ok (.istore_n 2, 1) := by decide +kernel
theorem dX12_compared_10 : decode cX12_compared 10 = .ok (.aload_n 0, 1) := by decide +kernel
theorem dX12_compared_11 : decode cX12_compared 11 = .ok (.getfield 168, 3) := by decide +kernel
theorem dX12_compared_14 : decode cX12_compared 14 = .ok (.ifCond .ge 21, 3) := by decide +kernel
theorem dX12_compared_35 : decode cX12_compared 35 = .ok (.iload_n 1, 1) := by decide +kernel
theorem dX12_compared_36 : decode cX12_compared 36 = .ok (.ireturn, 1) := by decide +kernel
theorem dX12_sums_0 : decode cX12_sums 0 = .ok (.aload_n 0, 1) := by decide +kernel
theorem dX12_sums_1 : decode cX12_sums 1 = .ok (.invokevirtual 187, 3) := by decide +kernel
theorem dX12_sums_4 : decode cX12_sums 4 = .ok (.istore_n 1, 1) := by decide +kernel
theorem dX12_sums_5 : decode cX12_sums 5 = .ok (.aload_n 0, 1) := by decide +kernel
theorem dX12_sums_6 : decode cX12_sums 6 = .ok (.getfield 168, 3) := by decide +kernel
theorem dX12_sums_9 : decode cX12_sums 9 = .ok (.ifCond .ge 68, 3) := by decide +kernel
theorem dX12_sums_77 : decode cX12_sums 77 = .ok (.iload_n 1, 1) := by decide +kernel
theorem dX12_sums_78 : decode cX12_sums 78 = .ok (.ireturn, 1) := by decide +kernel
theorem dX12_product_0 : decode cX12_product 0 = .ok (.aload_n 0, 1) := by decide +kernel
theorem dX12_product_1 : decode cX12_product 1 = .ok (.invokevirtual 190, 3) := by decide +kernel
theorem dX12_product_4 : decode cX12_product 4 = .ok (.istore_n 1, 1) := by decide +kernel
theorem dX12_product_5 : decode cX12_product 5 = .ok (.aload_n 0, 1) := by decide +kernel
theorem dX12_product_6 : decode cX12_product 6 = .ok (.invokevirtual 171, 3) := by decide +kernel
theorem dX12_product_9 : decode cX12_product 9 = .ok (.istore_n 2, 1) := by decide +kernel
theorem dX12_product_10 : decode cX12_product 10 = .ok (.aload_n 0, 1) := by decide +kernel
theorem dX12_product_11 : decode cX12_product 11 = .ok (.getfield 168, 3) := by decide +kernel
theorem dX12_product_14 : decode cX12_product 14 = .ok (.ifCond .ge 80, 3) := by decide +kernel
theorem dX12_product_94 : decode cX12_product 94 = .ok (.iload_n 1, 1) := by decide +kernel
theorem dX12_product_95 : decode cX12_product 95 = .ok (.ireturn, 1) := by decide +kernel
theorem dX12_nameOf_0 : decode cX12_nameOf 0 = .ok (.iload_n 0, 1) := by decide +kernel
theorem dX12_nameOf_1 : decode cX12_nameOf 1 = .ok (.tableswitch 107 100 119 #[95, 107, 107, 107, 103, 107, 107, 105, 107, 107, 107, 107, 107, 107, 107, 99, 107, 97, 107, 101], 95) := by decide +kernel
theorem dX12_nameOf_108 : decode cX12_nameOf 108 = .ok (.iconst (-1), 1) := by decide +kernel
theorem dX12_nameOf_109 : decode cX12_nameOf 109 = .ok (.ireturn, 1) := by decide +kernel
theorem dX12_one_0 : decode cX12_one 0 = .ok (.aload_n 0, 1) := by decide +kernel
theorem dX12_one_1 : decode cX12_one 1 = .ok (.getfield 168, 3) := by decide +kernel
theorem dX12_one_4 : decode cX12_one 4 = .ok (.ifCond .lt 5, 3) := by decide +kernel
theorem dX12_one_9 : decode cX12_one 9 = .ok (.aload_n 0, 1) := by decide +kernel
theorem dX12_one_10 : decode cX12_one 10 = .ok (.invokevirtual 171, 3) := by decide +kernel
theorem dX12_one_13 : decode cX12_one 13 = .ok (.istore_n 1, 1) := by decide +kernel
theorem dX12_one_14 : decode cX12_one 14 = .ok (.iload_n 1, 1) := by decide +kernel
theorem dX12_one_15 : decode cX12_one 15 = .ok (.bipush 33, 2) := by decide +kernel
theorem dX12_one_17 : decode cX12_one 17 = .ok (.if_icmp .eq 15, 3) := by decide +kernel
theorem dX12_one_20 : decode cX12_one 20 = .ok (.iload_n 1, 1) := by decide +kernel
theorem dX12_one_21 : decode cX12_one 21 = .ok (.bipush 45, 2) := by decide +kernel
theorem dX12_one_23 : decode cX12_one 23 = .ok (.if_icmp .eq 9, 3) := by decide +kernel
theorem dX12_one_26 : decode cX12_one 26 = .ok (.iload_n 1, 1) := by decide +kernel
theorem dX12_one_27 : decode cX12_one 27 = .ok (.bipush 40, 2) := by decide +kernel
theorem dX12_one_29 : decode cX12_one 29 = .ok (.if_icmp .ne 116, 3) := by decide +kernel
theorem dX12_one_145 : decode cX12_one 145 = .ok (.iload_n 1, 1) := by decide +kernel
theorem dX12_one_146 : decode cX12_one 146 = .ok (.invokestatic 202, 3) := by decide +kernel
theorem dX12_one_149 : decode cX12_one 149 = .ok (.istore_n 2, 1) := by decide +kernel
theorem dX12_one_150 : decode cX12_one 150 = .ok (.iload_n 2, 1) := by decide +kernel
theorem dX12_one_151 : decode cX12_one 151 = .ok (.ifCond .lt 20, 3) := by decide +kernel
theorem dX12_one_171 : decode cX12_one 171 = .ok (.iconst 0, 1) := by decide +kernel
theorem dX12_one_172 : decode cX12_one 172 = .ok (.istore_n 3, 1) := by decide +kernel
theorem dX12_one_173 : decode cX12_one 173 = .ok (.iconst 0, 1) := by decide +kernel
theorem dX12_one_174 : decode cX12_one 174 = .ok (.istore 4, 2) := by decide +kernel
theorem dX12_one_176 : decode cX12_one 176 = .ok (.iload 4, 2) := by decide +kernel
theorem dX12_one_178 : decode cX12_one 178 = .ok (.iconst 4, 1) := by decide +kernel
theorem dX12_one_179 : decode cX12_one 179 = .ok (.if_icmp .ge 50, 3) := by decide +kernel
theorem dX12_one_182 : decode cX12_one 182 = .ok (.aload_n 0, 1) := by decide +kernel
theorem dX12_one_183 : decode cX12_one 183 = .ok (.invokevirtual 171, 3) := by decide +kernel
theorem dX12_one_186 : decode cX12_one 186 = .ok (.bipush 48, 2) := by decide +kernel
theorem dX12_one_188 : decode cX12_one 188 = .ok (.if_icmp .lt 41, 3) := by decide +kernel
theorem dX12_one_229 : decode cX12_one 229 = .ok (.iload 4, 2) := by decide +kernel
theorem dX12_one_231 : decode cX12_one 231 = .ok (.ifCond .ne 10, 3) := by decide +kernel
theorem dX12_one_234 : decode cX12_one 234 = .ok (.aload_n 0, 1) := by decide +kernel
theorem dX12_one_235 : decode cX12_one 235 = .ok (.invokevirtual 196, 3) := by decide +kernel
theorem dX12_one_238 : decode cX12_one 238 = .ok (.goto 4, 3) := by decide +kernel
theorem dX12_one_242 : decode cX12_one 242 = .ok (.ireturn, 1) := by decide +kernel
theorem dX12_workOut_0 : decode cX12_workOut 0 = .ok (.aload_n 0, 1) := by decide +kernel
theorem dX12_workOut_1 : decode cX12_workOut 1 = .ok (.iload_n 1, 1) := by decide +kernel
theorem dX12_workOut_2 : decode cX12_workOut 2 = .ok (.putfield 165, 3) := by decide +kernel
theorem dX12_workOut_5 : decode cX12_workOut 5 = .ok (.aload_n 0, 1) := by decide +kernel
theorem dX12_workOut_6 : decode cX12_workOut 6 = .ok (.iconst 0, 1) := by decide +kernel
theorem dX12_workOut_7 : decode cX12_workOut 7 = .ok (.putfield 159, 3) := by decide +kernel
theorem dX12_workOut_10 : decode cX12_workOut 10 = .ok (.aload_n 0, 1) := by decide +kernel
theorem dX12_workOut_11 : decode cX12_workOut 11 = .ok (.iload_n 2, 1) := by decide +kernel
theorem dX12_workOut_12 : decode cX12_workOut 12 = .ok (.putfield 162, 3) := by decide +kernel
theorem dX12_workOut_15 : decode cX12_workOut 15 = .ok (.aload_n 0, 1) := by decide +kernel
theorem dX12_workOut_16 : decode cX12_workOut 16 = .ok (.iconst (-1), 1) := by decide +kernel
theorem dX12_workOut_17 : decode cX12_workOut 17 = .ok (.putfield 168, 3) := by decide +kernel
theorem dX12_workOut_20 : decode cX12_workOut 20 = .ok (.aload_n 0, 1) := by decide +kernel
theorem dX12_workOut_21 : decode cX12_workOut 21 = .ok (.iconst 0, 1) := by decide +kernel
theorem dX12_workOut_22 : decode cX12_workOut 22 = .ok (.putfield 193, 3) := by decide +kernel
theorem dX12_workOut_25 : decode cX12_workOut 25 = .ok (.iconst 0, 1) := by decide +kernel
theorem dX12_workOut_26 : decode cX12_workOut 26 = .ok (.istore_n 3, 1) := by decide +kernel
theorem dX12_workOut_27 : decode cX12_workOut 27 = .ok (.iconst 0, 1) := by decide +kernel
theorem dX12_workOut_28 : decode cX12_workOut 28 = .ok (.istore 4, 2) := by decide +kernel
theorem dX12_workOut_30 : decode cX12_workOut 30 = .ok (.iconst 1, 1) := by decide +kernel
theorem dX12_workOut_31 : decode cX12_workOut 31 = .ok (.istore 5, 2) := by decide +kernel
theorem dX12_workOut_33 : decode cX12_workOut 33 = .ok (.iload 5, 2) := by decide +kernel
theorem dX12_workOut_35 : decode cX12_workOut 35 = .ok (.ifCond .eq 72, 3) := by decide +kernel
theorem dX12_workOut_38 : decode cX12_workOut 38 = .ok (.aload_n 0, 1) := by decide +kernel
theorem dX12_workOut_39 : decode cX12_workOut 39 = .ok (.invokevirtual 199, 3) := by decide +kernel
theorem dX12_workOut_42 : decode cX12_workOut 42 = .ok (.istore 6, 2) := by decide +kernel
theorem dX12_workOut_44 : decode cX12_workOut 44 = .ok (.iconst 1, 1) := by decide +kernel
theorem dX12_workOut_45 : decode cX12_workOut 45 = .ok (.istore 7, 2) := by decide +kernel
theorem dX12_workOut_47 : decode cX12_workOut 47 = .ok (.aload_n 0, 1) := by decide +kernel
theorem dX12_workOut_48 : decode cX12_workOut 48 = .ok (.bipush 63, 2) := by decide +kernel
theorem dX12_workOut_50 : decode cX12_workOut 50 = .ok (.invokevirtual 178, 3) := by decide +kernel
theorem dX12_workOut_53 : decode cX12_workOut 53 = .ok (.ifCond .eq 21, 3) := by decide +kernel
theorem dX12_workOut_74 : decode cX12_workOut 74 = .ok (.aload_n 0, 1) := by decide +kernel
theorem dX12_workOut_75 : decode cX12_workOut 75 = .ok (.getfield 168, 3) := by decide +kernel
theorem dX12_workOut_78 : decode cX12_workOut 78 = .ok (.ifCond .ge 18, 3) := by decide +kernel
theorem dX12_workOut_96 : decode cX12_workOut 96 = .ok (.aload_n 0, 1) := by decide +kernel
theorem dX12_workOut_97 : decode cX12_workOut 97 = .ok (.bipush 59, 2) := by decide +kernel
theorem dX12_workOut_99 : decode cX12_workOut 99 = .ok (.invokevirtual 178, 3) := by decide +kernel
theorem dX12_workOut_102 : decode cX12_workOut 102 = .ok (.istore 5, 2) := by decide +kernel
theorem dX12_workOut_104 : decode cX12_workOut 104 = .ok (.goto (-71), 3) := by decide +kernel
theorem dX12_workOut_107 : decode cX12_workOut 107 = .ok (.aload_n 0, 1) := by decide +kernel
theorem dX12_workOut_108 : decode cX12_workOut 108 = .ok (.getfield 168, 3) := by decide +kernel
theorem dX12_workOut_111 : decode cX12_workOut 111 = .ok (.ifCond .ge 19, 3) := by decide +kernel
theorem dX12_workOut_130 : decode cX12_workOut 130 = .ok (.iload 4, 2) := by decide +kernel
theorem dX12_workOut_132 : decode cX12_workOut 132 = .ok (.ireturn, 1) := by decide +kernel
theorem dX12_law_0 : decode cX12_law 0 = .ok (.aload_n 0, 1) := by decide +kernel
theorem dX12_law_1 : decode cX12_law 1 = .ok (.iconst (-1), 1) := by decide +kernel
theorem dX12_law_2 : decode cX12_law 2 = .ok (.aload_n 0, 1) := by decide +kernel
theorem dX12_law_3 : decode cX12_law 3 = .ok (.getfield 156, 3) := by decide +kernel
theorem dX12_law_6 : decode cX12_law 6 = .ok (.invokevirtual 205, 3) := by decide +kernel
theorem dX12_law_9 : decode cX12_law 9 = .ok (.istore_n 1, 1) := by decide +kernel
theorem dX12_law_10 : decode cX12_law 10 = .ok (.aload_n 0, 1) := by decide +kernel
theorem dX12_law_11 : decode cX12_law 11 = .ok (.getfield 156, 3) := by decide +kernel
theorem dX12_law_14 : decode cX12_law 14 = .ok (.istore_n 2, 1) := by decide +kernel
theorem dX12_law_15 : decode cX12_law 15 = .ok (.aload_n 0, 1) := by decide +kernel
theorem dX12_law_16 : decode cX12_law 16 = .ok (.iconst 0, 1) := by decide +kernel
theorem dX12_law_17 : decode cX12_law 17 = .ok (.putfield 156, 3) := by decide +kernel
theorem dX12_law_20 : decode cX12_law 20 = .ok (.aload_n 0, 1) := by decide +kernel
theorem dX12_law_21 : decode cX12_law 21 = .ok (.getfield 168, 3) := by decide +kernel
theorem dX12_law_24 : decode cX12_law 24 = .ok (.ifCond .lt 11, 3) := by decide +kernel
theorem dX12_law_27 : decode cX12_law 27 = .ok (.bipush (-100), 2) := by decide +kernel
theorem dX12_law_29 : decode cX12_law 29 = .ok (.aload_n 0, 1) := by decide +kernel
theorem dX12_law_30 : decode cX12_law 30 = .ok (.getfield 168, 3) := by decide +kernel
theorem dX12_law_33 : decode cX12_law 33 = .ok (.isub, 1) := by decide +kernel
theorem dX12_law_34 : decode cX12_law 34 = .ok (.ireturn, 1) := by decide +kernel
theorem dX12_loss_0 : decode cX12_loss 0 = .ok (.aload_n 0, 1) := by decide +kernel
theorem dX12_loss_1 : decode cX12_loss 1 = .ok (.iload_n 1, 1) := by decide +kernel
theorem dX12_loss_2 : decode cX12_loss 2 = .ok (.i2l, 1) := by decide +kernel
theorem dX12_loss_3 : decode cX12_loss 3 = .ok (.invokevirtual 135, 3) := by decide +kernel
theorem dX12_loss_6 : decode cX12_loss 6 = .ok (.ifCond .eq 28, 3) := by decide +kernel
theorem dX12_loss_34 : decode cX12_loss 34 = .ok (.iconst (-1), 1) := by decide +kernel
theorem dX12_loss_35 : decode cX12_loss 35 = .ok (.ireturn, 1) := by decide +kernel
theorem dX12_bytesIs_0 : decode cX12_bytesIs 0 = .ok (.iload_n 1, 1) := by decide +kernel
theorem dX12_bytesIs_1 : decode cX12_bytesIs 1 = .ok (.invokestatic 127, 3) := by decide +kernel
theorem dX12_bytesIs_4 : decode cX12_bytesIs 4 = .ok (.ifCond .ne 7, 3) := by decide +kernel
theorem dX12_bytesIs_7 : decode cX12_bytesIs 7 = .ok (.iconst (-1), 1) := by decide +kernel
theorem dX12_bytesIs_8 : decode cX12_bytesIs 8 = .ok (.goto 34, 3) := by decide +kernel
theorem dX12_bytesIs_11 : decode cX12_bytesIs 11 = .ok (.aload_n 0, 1) := by decide +kernel
theorem dX12_bytesIs_12 : decode cX12_bytesIs 12 = .ok (.getfield 74, 3) := by decide +kernel
theorem dX12_bytesIs_15 : decode cX12_bytesIs 15 = .ok (.iload_n 1, 1) := by decide +kernel
theorem dX12_bytesIs_16 : decode cX12_bytesIs 16 = .ok (.iaload, 1) := by decide +kernel
theorem dX12_bytesIs_17 : decode cX12_bytesIs 17 = .ok (.ifCond .ge 8, 3) := by decide +kernel
theorem dX12_bytesIs_20 : decode cX12_bytesIs 20 = .ok (.bipush (-11), 2) := by decide +kernel
theorem dX12_bytesIs_22 : decode cX12_bytesIs 22 = .ok (.goto 20, 3) := by decide +kernel
theorem dX12_bytesIs_42 : decode cX12_bytesIs 42 = .ok (.ireturn, 1) := by decide +kernel
theorem dX12_never_0 : decode cX12_never 0 = .ok (.aload_n 0, 1) := by decide +kernel
theorem dX12_never_1 : decode cX12_never 1 = .ok (.iload_n 1, 1) := by decide +kernel
theorem dX12_never_2 : decode cX12_never 2 = .ok (.invokevirtual 224, 3) := by decide +kernel
theorem dX12_never_5 : decode cX12_never 5 = .ok (.iconst (-1), 1) := by decide +kernel
theorem dX12_never_6 : decode cX12_never 6 = .ok (.if_icmp .eq 18, 3) := by decide +kernel
theorem dX12_never_9 : decode cX12_never 9 = .ok (.iload_n 2, 1) := by decide +kernel
theorem dX12_never_10 : decode cX12_never 10 = .ok (.invokestatic 140, 3) := by decide +kernel
theorem dX12_never_13 : decode cX12_never 13 = .ok (.ifCond .eq 11, 3) := by decide +kernel
theorem dX12_never_16 : decode cX12_never 16 = .ok (.iload_n 3, 1) := by decide +kernel
theorem dX12_never_17 : decode cX12_never 17 = .ok (.i2l, 1) := by decide +kernel
theorem dX12_never_18 : decode cX12_never 18 = .ok (.invokestatic 117, 3) := by decide +kernel
theorem dX12_never_21 : decode cX12_never 21 = .ok (.ifCond .ne 5, 3) := by decide +kernel
theorem dX12_never_24 : decode cX12_never 24 = .ok (.iconst (-1), 1) := by decide +kernel
theorem dX12_never_25 : decode cX12_never 25 = .ok (.ireturn, 1) := by decide +kernel
theorem dX12_never_26 : decode cX12_never 26 = .ok (.aload_n 0, 1) := by decide +kernel
theorem dX12_never_27 : decode cX12_never 27 = .ok (.iload_n 1, 1) := by decide +kernel
theorem dX12_never_28 : decode cX12_never 28 = .ok (.invokevirtual 224, 3) := by decide +kernel
theorem dX12_never_31 : decode cX12_never 31 = .ok (.ifCond .ge 11, 3) := by decide +kernel
theorem dX12_never_34 : decode cX12_never 34 = .ok (.aload_n 0, 1) := by decide +kernel
theorem dX12_never_35 : decode cX12_never 35 = .ok (.iload_n 1, 1) := by decide +kernel
theorem dX12_never_36 : decode cX12_never 36 = .ok (.invokevirtual 224, 3) := by decide +kernel
theorem dX12_never_39 : decode cX12_never 39 = .ok (.goto 10, 3) := by decide +kernel
theorem dX12_never_49 : decode cX12_never 49 = .ok (.ireturn, 1) := by decide +kernel
theorem dX12_best_0 : decode cX12_best 0 = .ok (.aload_n 0, 1) := by decide +kernel
theorem dX12_best_1 : decode cX12_best 1 = .ok (.iload_n 1, 1) := by decide +kernel
theorem dX12_best_2 : decode cX12_best 2 = .ok (.invokevirtual 224, 3) := by decide +kernel
theorem dX12_best_5 : decode cX12_best 5 = .ok (.iconst (-1), 1) := by decide +kernel
theorem dX12_best_6 : decode cX12_best 6 = .ok (.if_icmp .eq 22, 3) := by decide +kernel
theorem dX12_best_9 : decode cX12_best 9 = .ok (.iload_n 2, 1) := by decide +kernel
theorem dX12_best_10 : decode cX12_best 10 = .ok (.invokestatic 140, 3) := by decide +kernel
theorem dX12_best_13 : decode cX12_best 13 = .ok (.ifCond .eq 15, 3) := by decide +kernel
theorem dX12_best_16 : decode cX12_best 16 = .ok (.iload_n 3, 1) := by decide +kernel
theorem dX12_best_17 : decode cX12_best 17 = .ok (.i2l, 1) := by decide +kernel
theorem dX12_best_18 : decode cX12_best 18 = .ok (.lconst 0, 1) := by decide +kernel
theorem dX12_best_19 : decode cX12_best 19 = .ok (.ldc2_w 230, 3) := by decide +kernel
theorem dX12_best_22 : decode cX12_best 22 = .ok (.invokestatic 109, 3) := by decide +kernel
theorem dX12_best_25 : decode cX12_best 25 = .ok (.ifCond .ne 5, 3) := by decide +kernel
theorem dX12_best_28 : decode cX12_best 28 = .ok (.iconst (-1), 1) := by decide +kernel
theorem dX12_best_29 : decode cX12_best 29 = .ok (.ireturn, 1) := by decide +kernel
theorem dX12_best_30 : decode cX12_best 30 = .ok (.aload_n 0, 1) := by decide +kernel
theorem dX12_best_31 : decode cX12_best 31 = .ok (.iload_n 1, 1) := by decide +kernel
theorem dX12_best_32 : decode cX12_best 32 = .ok (.invokevirtual 224, 3) := by decide +kernel
theorem dX12_best_35 : decode cX12_best 35 = .ok (.ifCond .ge 9, 3) := by decide +kernel
theorem dX12_best_38 : decode cX12_best 38 = .ok (.aload_n 0, 1) := by decide +kernel
theorem dX12_best_39 : decode cX12_best 39 = .ok (.iload_n 1, 1) := by decide +kernel
theorem dX12_best_40 : decode cX12_best 40 = .ok (.invokevirtual 224, 3) := by decide +kernel
theorem dX12_best_43 : decode cX12_best 43 = .ok (.ireturn, 1) := by decide +kernel
theorem dX12_middle_0 : decode cX12_middle 0 = .ok (.aload_n 0, 1) := by decide +kernel
theorem dX12_middle_1 : decode cX12_middle 1 = .ok (.iload_n 1, 1) := by decide +kernel
theorem dX12_middle_2 : decode cX12_middle 2 = .ok (.invokevirtual 224, 3) := by decide +kernel
theorem dX12_middle_5 : decode cX12_middle 5 = .ok (.iconst (-1), 1) := by decide +kernel
theorem dX12_middle_6 : decode cX12_middle 6 = .ok (.if_icmp .eq 10, 3) := by decide +kernel
theorem dX12_middle_9 : decode cX12_middle 9 = .ok (.iload_n 2, 1) := by decide +kernel
theorem dX12_middle_10 : decode cX12_middle 10 = .ok (.invokestatic 140, 3) := by decide +kernel
theorem dX12_middle_13 : decode cX12_middle 13 = .ok (.ifCond .ne 5, 3) := by decide +kernel
theorem dX12_middle_16 : decode cX12_middle 16 = .ok (.iconst (-1), 1) := by decide +kernel
theorem dX12_middle_17 : decode cX12_middle 17 = .ok (.ireturn, 1) := by decide +kernel
theorem dX12_middle_18 : decode cX12_middle 18 = .ok (.aload_n 0, 1) := by decide +kernel
theorem dX12_middle_19 : decode cX12_middle 19 = .ok (.iload_n 1, 1) := by decide +kernel
theorem dX12_middle_20 : decode cX12_middle 20 = .ok (.invokevirtual 224, 3) := by decide +kernel
theorem dX12_middle_23 : decode cX12_middle 23 = .ok (.ifCond .ge 9, 3) := by decide +kernel
theorem dX12_middle_26 : decode cX12_middle 26 = .ok (.aload_n 0, 1) := by decide +kernel
theorem dX12_middle_27 : decode cX12_middle 27 = .ok (.iload_n 1, 1) := by decide +kernel
theorem dX12_middle_28 : decode cX12_middle 28 = .ok (.invokevirtual 224, 3) := by decide +kernel
theorem dX12_middle_31 : decode cX12_middle 31 = .ok (.ireturn, 1) := by decide +kernel
theorem dX12_slipped_0 : decode cX12_slipped 0 = .ok (.iload_n 2, 1) := by decide +kernel
theorem dX12_slipped_1 : decode cX12_slipped 1 = .ok (.aload_n 0, 1) := by decide +kernel
theorem dX12_slipped_2 : decode cX12_slipped 2 = .ok (.getfield 9, 3) := by decide +kernel
theorem dX12_slipped_5 : decode cX12_slipped 5 = .ok (.bipush 64, 2) := by decide +kernel
theorem dX12_slipped_7 : decode cX12_slipped 7 = .ok (.iload_n 1, 1) := by decide +kernel
theorem dX12_slipped_8 : decode cX12_slipped 8 = .ok (.iadd, 1) := by decide +kernel
theorem dX12_slipped_9 : decode cX12_slipped 9 = .ok (.iaload, 1) := by decide +kernel
theorem dX12_slipped_10 : decode cX12_slipped 10 = .ok (.isub, 1) := by decide +kernel
theorem dX12_slipped_11 : decode cX12_slipped 11 = .ok (.istore_n 3, 1) := by decide +kernel
theorem dX12_slipped_12 : decode cX12_slipped 12 = .ok (.iload_n 3, 1) := by decide +kernel
theorem dX12_slipped_13 : decode cX12_slipped 13 = .ok (.ifCond .ge 7, 3) := by decide +kernel
theorem dX12_slipped_20 : decode cX12_slipped 20 = .ok (.iload_n 3, 1) := by decide +kernel
theorem dX12_slipped_21 : decode cX12_slipped 21 = .ok (.ireturn, 1) := by decide +kernel
theorem dX12_shifts_0 : decode cX12_shifts 0 = .ok (.aload_n 0, 1) := by decide +kernel
theorem dX12_shifts_1 : decode cX12_shifts 1 = .ok (.iload_n 1, 1) := by decide +kernel
theorem dX12_shifts_2 : decode cX12_shifts 2 = .ok (.invokevirtual 224, 3) := by decide +kernel
theorem dX12_shifts_5 : decode cX12_shifts 5 = .ok (.iconst (-1), 1) := by decide +kernel
theorem dX12_shifts_6 : decode cX12_shifts 6 = .ok (.if_icmp .eq 15, 3) := by decide +kernel
theorem dX12_shifts_9 : decode cX12_shifts 9 = .ok (.iload_n 2, 1) := by decide +kernel
theorem dX12_shifts_10 : decode cX12_shifts 10 = .ok (.invokestatic 140, 3) := by decide +kernel
theorem dX12_shifts_13 : decode cX12_shifts 13 = .ok (.ifCond .eq 8, 3) := by decide +kernel
theorem dX12_shifts_16 : decode cX12_shifts 16 = .ok (.iload_n 3, 1) := by decide +kernel
theorem dX12_shifts_17 : decode cX12_shifts 17 = .ok (.iconst (-1), 1) := by decide +kernel
theorem dX12_shifts_18 : decode cX12_shifts 18 = .ok (.if_icmp .ge 5, 3) := by decide +kernel
theorem dX12_shifts_21 : decode cX12_shifts 21 = .ok (.iconst (-1), 1) := by decide +kernel
theorem dX12_shifts_22 : decode cX12_shifts 22 = .ok (.ireturn, 1) := by decide +kernel
theorem dX12_shifts_23 : decode cX12_shifts 23 = .ok (.aload_n 0, 1) := by decide +kernel
theorem dX12_shifts_24 : decode cX12_shifts 24 = .ok (.iload_n 1, 1) := by decide +kernel
theorem dX12_shifts_25 : decode cX12_shifts 25 = .ok (.invokevirtual 224, 3) := by decide +kernel
theorem dX12_shifts_28 : decode cX12_shifts 28 = .ok (.ifCond .ge 9, 3) := by decide +kernel
theorem dX12_shifts_31 : decode cX12_shifts 31 = .ok (.aload_n 0, 1) := by decide +kernel
theorem dX12_shifts_32 : decode cX12_shifts 32 = .ok (.iload_n 1, 1) := by decide +kernel
theorem dX12_shifts_33 : decode cX12_shifts 33 = .ok (.invokevirtual 224, 3) := by decide +kernel
theorem dX12_shifts_36 : decode cX12_shifts 36 = .ok (.ireturn, 1) := by decide +kernel
theorem dX12_once_0 : decode cX12_once 0 = .ok (.aload_n 0, 1) := by decide +kernel
theorem dX12_once_1 : decode cX12_once 1 = .ok (.iload_n 1, 1) := by decide +kernel
theorem dX12_once_2 : decode cX12_once 2 = .ok (.invokevirtual 224, 3) := by decide +kernel
theorem dX12_once_5 : decode cX12_once 5 = .ok (.iconst (-1), 1) := by decide +kernel
theorem dX12_once_6 : decode cX12_once 6 = .ok (.if_icmp .eq 22, 3) := by decide +kernel
theorem dX12_once_9 : decode cX12_once 9 = .ok (.iload_n 2, 1) := by decide +kernel
theorem dX12_once_10 : decode cX12_once 10 = .ok (.invokestatic 140, 3) := by decide +kernel
theorem dX12_once_13 : decode cX12_once 13 = .ok (.ifCond .eq 15, 3) := by decide +kernel
theorem dX12_once_16 : decode cX12_once 16 = .ok (.iload_n 3, 1) := by decide +kernel
theorem dX12_once_17 : decode cX12_once 17 = .ok (.i2l, 1) := by decide +kernel
theorem dX12_once_18 : decode cX12_once 18 = .ok (.lconst 0, 1) := by decide +kernel
theorem dX12_once_19 : decode cX12_once 19 = .ok (.ldc2_w 113, 3) := by decide +kernel
theorem dX12_once_22 : decode cX12_once 22 = .ok (.invokestatic 109, 3) := by decide +kernel
theorem dX12_once_25 : decode cX12_once 25 = .ok (.ifCond .ne 5, 3) := by decide +kernel
theorem dX12_once_28 : decode cX12_once 28 = .ok (.iconst (-1), 1) := by decide +kernel
theorem dX12_once_29 : decode cX12_once 29 = .ok (.ireturn, 1) := by decide +kernel
theorem dX12_once_30 : decode cX12_once 30 = .ok (.aload_n 0, 1) := by decide +kernel
theorem dX12_once_31 : decode cX12_once 31 = .ok (.iload_n 1, 1) := by decide +kernel
theorem dX12_once_32 : decode cX12_once 32 = .ok (.invokevirtual 224, 3) := by decide +kernel
theorem dX12_once_35 : decode cX12_once 35 = .ok (.ifCond .ge 9, 3) := by decide +kernel
theorem dX12_once_38 : decode cX12_once 38 = .ok (.aload_n 0, 1) := by decide +kernel
theorem dX12_once_39 : decode cX12_once 39 = .ok (.iload_n 1, 1) := by decide +kernel
theorem dX12_once_40 : decode cX12_once 40 = .ok (.invokevirtual 224, 3) := by decide +kernel
theorem dX12_once_43 : decode cX12_once 43 = .ok (.ireturn, 1) := by decide +kernel
theorem dX12_week_0 : decode cX12_week 0 = .ok (.aload_n 0, 1) := by decide +kernel
theorem dX12_week_1 : decode cX12_week 1 = .ok (.iload_n 1, 1) := by decide +kernel
theorem dX12_week_2 : decode cX12_week 2 = .ok (.invokevirtual 224, 3) := by decide +kernel
theorem dX12_week_5 : decode cX12_week 5 = .ok (.iconst (-1), 1) := by decide +kernel
theorem dX12_week_6 : decode cX12_week 6 = .ok (.if_icmp .eq 15, 3) := by decide +kernel
theorem dX12_week_9 : decode cX12_week 9 = .ok (.iload_n 2, 1) := by decide +kernel
theorem dX12_week_10 : decode cX12_week 10 = .ok (.i2l, 1) := by decide +kernel
theorem dX12_week_11 : decode cX12_week 11 = .ok (.lconst 0, 1) := by decide +kernel
theorem dX12_week_12 : decode cX12_week 12 = .ok (.ldc2_w 113, 3) := by decide +kernel
theorem dX12_week_15 : decode cX12_week 15 = .ok (.invokestatic 109, 3) := by decide +kernel
theorem dX12_week_18 : decode cX12_week 18 = .ok (.ifCond .ne 5, 3) := by decide +kernel
theorem dX12_week_21 : decode cX12_week 21 = .ok (.iconst (-1), 1) := by decide +kernel
theorem dX12_week_22 : decode cX12_week 22 = .ok (.ireturn, 1) := by decide +kernel
theorem dX12_week_23 : decode cX12_week 23 = .ok (.aload_n 0, 1) := by decide +kernel
theorem dX12_week_24 : decode cX12_week 24 = .ok (.iload_n 1, 1) := by decide +kernel
theorem dX12_week_25 : decode cX12_week 25 = .ok (.invokevirtual 224, 3) := by decide +kernel
theorem dX12_week_28 : decode cX12_week 28 = .ok (.ifCond .ge 9, 3) := by decide +kernel
theorem dX12_week_31 : decode cX12_week 31 = .ok (.aload_n 0, 1) := by decide +kernel
theorem dX12_week_32 : decode cX12_week 32 = .ok (.iload_n 1, 1) := by decide +kernel
theorem dX12_week_33 : decode cX12_week 33 = .ok (.invokevirtual 224, 3) := by decide +kernel
theorem dX12_week_36 : decode cX12_week 36 = .ok (.ireturn, 1) := by decide +kernel
theorem dX12_stands_0 : decode cX12_stands 0 = .ok (.aload_n 0, 1) := by decide +kernel
theorem dX12_stands_1 : decode cX12_stands 1 = .ok (.iload_n 1, 1) := by decide +kernel
theorem dX12_stands_2 : decode cX12_stands 2 = .ok (.invokevirtual 224, 3) := by decide +kernel
theorem dX12_stands_5 : decode cX12_stands 5 = .ok (.iconst (-1), 1) := by decide +kernel
theorem dX12_stands_6 : decode cX12_stands 6 = .ok (.if_icmp .eq 14, 3) := by decide +kernel
theorem dX12_stands_9 : decode cX12_stands 9 = .ok (.iload_n 2, 1) := by decide +kernel
theorem dX12_stands_10 : decode cX12_stands 10 = .ok (.invokestatic 140, 3) := by decide +kernel
theorem dX12_stands_13 : decode cX12_stands 13 = .ok (.ifCond .eq 7, 3) := by decide +kernel
theorem dX12_stands_16 : decode cX12_stands 16 = .ok (.iload_n 3, 1) := by decide +kernel
theorem dX12_stands_17 : decode cX12_stands 17 = .ok (.ifCond .ge 5, 3) := by decide +kernel
theorem dX12_stands_20 : decode cX12_stands 20 = .ok (.iconst (-1), 1) := by decide +kernel
theorem dX12_stands_21 : decode cX12_stands 21 = .ok (.ireturn, 1) := by decide +kernel
theorem dX12_stands_22 : decode cX12_stands 22 = .ok (.aload_n 0, 1) := by decide +kernel
theorem dX12_stands_23 : decode cX12_stands 23 = .ok (.iload_n 1, 1) := by decide +kernel
theorem dX12_stands_24 : decode cX12_stands 24 = .ok (.invokevirtual 224, 3) := by decide +kernel
theorem dX12_stands_27 : decode cX12_stands 27 = .ok (.ifCond .ge 9, 3) := by decide +kernel
theorem dX12_stands_30 : decode cX12_stands 30 = .ok (.aload_n 0, 1) := by decide +kernel
theorem dX12_stands_31 : decode cX12_stands 31 = .ok (.iload_n 1, 1) := by decide +kernel
theorem dX12_stands_32 : decode cX12_stands 32 = .ok (.invokevirtual 224, 3) := by decide +kernel
theorem dX12_stands_35 : decode cX12_stands 35 = .ok (.ireturn, 1) := by decide +kernel
theorem dX12_pays_0 : decode cX12_pays 0 = .ok (.aload_n 0, 1) := by decide +kernel
theorem dX12_pays_1 : decode cX12_pays 1 = .ok (.iload_n 1, 1) := by decide +kernel
theorem dX12_pays_2 : decode cX12_pays 2 = .ok (.invokevirtual 224, 3) := by decide +kernel
theorem dX12_pays_5 : decode cX12_pays 5 = .ok (.iconst (-1), 1) := by decide +kernel
theorem dX12_pays_6 : decode cX12_pays 6 = .ok (.if_icmp .eq 22, 3) := by decide +kernel
theorem dX12_pays_9 : decode cX12_pays 9 = .ok (.aload_n 0, 1) := by decide +kernel
theorem dX12_pays_10 : decode cX12_pays 10 = .ok (.iload_n 2, 1) := by decide +kernel
theorem dX12_pays_11 : decode cX12_pays 11 = .ok (.i2l, 1) := by decide +kernel
theorem dX12_pays_12 : decode cX12_pays 12 = .ok (.invokevirtual 135, 3) := by decide +kernel
theorem dX12_pays_15 : decode cX12_pays 15 = .ok (.ifCond .eq 13, 3) := by decide +kernel
theorem dX12_pays_28 : decode cX12_pays 28 = .ok (.iconst (-1), 1) := by decide +kernel
theorem dX12_pays_29 : decode cX12_pays 29 = .ok (.ireturn, 1) := by decide +kernel
theorem dX12_memories_0 : decode cX12_memories 0 = .ok (.aload_n 0, 1) := by decide +kernel
theorem dX12_memories_1 : decode cX12_memories 1 = .ok (.iload_n 1, 1) := by decide +kernel
theorem dX12_memories_2 : decode cX12_memories 2 = .ok (.invokevirtual 224, 3) := by decide +kernel
theorem dX12_memories_5 : decode cX12_memories 5 = .ok (.iconst (-1), 1) := by decide +kernel
theorem dX12_memories_6 : decode cX12_memories 6 = .ok (.if_icmp .eq 25, 3) := by decide +kernel
theorem dX12_memories_9 : decode cX12_memories 9 = .ok (.iload_n 2, 1) := by decide +kernel
theorem dX12_memories_10 : decode cX12_memories 10 = .ok (.i2l, 1) := by decide +kernel
theorem dX12_memories_11 : decode cX12_memories 11 = .ok (.lconst 0, 1) := by decide +kernel
theorem dX12_memories_12 : decode cX12_memories 12 = .ok (.ldc2_w 230, 3) := by decide +kernel
theorem dX12_memories_15 : decode cX12_memories 15 = .ok (.invokestatic 109, 3) := by decide +kernel
theorem dX12_memories_18 : decode cX12_memories 18 = .ok (.ifCond .eq 13, 3) := by decide +kernel
theorem dX12_memories_21 : decode cX12_memories 21 = .ok (.iload_n 3, 1) := by decide +kernel
theorem dX12_memories_22 : decode cX12_memories 22 = .ok (.i2l, 1) := by decide +kernel
theorem dX12_memories_23 : decode cX12_memories 23 = .ok (.lconst 0, 1) := by decide +kernel
theorem dX12_memories_24 : decode cX12_memories 24 = .ok (.lconst 1, 1) := by decide +kernel
theorem dX12_memories_25 : decode cX12_memories 25 = .ok (.invokestatic 109, 3) := by decide +kernel
theorem dX12_memories_28 : decode cX12_memories 28 = .ok (.ifCond .ne 5, 3) := by decide +kernel
theorem dX12_memories_31 : decode cX12_memories 31 = .ok (.iconst (-1), 1) := by decide +kernel
theorem dX12_memories_32 : decode cX12_memories 32 = .ok (.ireturn, 1) := by decide +kernel
theorem dX12_memories_33 : decode cX12_memories 33 = .ok (.aload_n 0, 1) := by decide +kernel
theorem dX12_memories_34 : decode cX12_memories 34 = .ok (.iload_n 1, 1) := by decide +kernel
theorem dX12_memories_35 : decode cX12_memories 35 = .ok (.invokevirtual 224, 3) := by decide +kernel
theorem dX12_memories_38 : decode cX12_memories 38 = .ok (.ifCond .ge 9, 3) := by decide +kernel
theorem dX12_memories_41 : decode cX12_memories 41 = .ok (.aload_n 0, 1) := by decide +kernel
theorem dX12_memories_42 : decode cX12_memories 42 = .ok (.iload_n 1, 1) := by decide +kernel
theorem dX12_memories_43 : decode cX12_memories 43 = .ok (.invokevirtual 224, 3) := by decide +kernel
theorem dX12_memories_46 : decode cX12_memories 46 = .ok (.ireturn, 1) := by decide +kernel
theorem dX12_marked_0 : decode cX12_marked 0 = .ok (.aload_n 0, 1) := by decide +kernel
theorem dX12_marked_1 : decode cX12_marked 1 = .ok (.iload_n 1, 1) := by decide +kernel
theorem dX12_marked_2 : decode cX12_marked 2 = .ok (.invokevirtual 224, 3) := by decide +kernel
theorem dX12_marked_5 : decode cX12_marked 5 = .ok (.ifCond .ge 9, 3) := by decide +kernel
theorem dX12_marked_8 : decode cX12_marked 8 = .ok (.aload_n 0, 1) := by decide +kernel
theorem dX12_marked_9 : decode cX12_marked 9 = .ok (.iload_n 1, 1) := by decide +kernel
theorem dX12_marked_10 : decode cX12_marked 10 = .ok (.invokevirtual 224, 3) := by decide +kernel
theorem dX12_marked_13 : decode cX12_marked 13 = .ok (.ireturn, 1) := by decide +kernel
theorem dX12_wilful_0 : decode cX12_wilful 0 = .ok (.aload_n 0, 1) := by decide +kernel
theorem dX12_wilful_1 : decode cX12_wilful 1 = .ok (.iload_n 1, 1) := by decide +kernel
theorem dX12_wilful_2 : decode cX12_wilful 2 = .ok (.invokevirtual 224, 3) := by decide +kernel
theorem dX12_wilful_5 : decode cX12_wilful 5 = .ok (.ifCond .lt 20, 3) := by decide +kernel
theorem dX12_wilful_25 : decode cX12_wilful 25 = .ok (.ldc_w 308, 3) := by decide +kernel
theorem dX12_wilful_28 : decode cX12_wilful 28 = .ok (.ireturn, 1) := by decide +kernel
theorem dX12_chairs_0 : decode cX12_chairs 0 = .ok (.aload_n 0, 1) := by decide +kernel
theorem dX12_chairs_1 : decode cX12_chairs 1 = .ok (.iload_n 1, 1) := by decide +kernel
theorem dX12_chairs_2 : decode cX12_chairs 2 = .ok (.invokevirtual 224, 3) := by decide +kernel
theorem dX12_chairs_5 : decode cX12_chairs 5 = .ok (.iconst (-1), 1) := by decide +kernel
theorem dX12_chairs_6 : decode cX12_chairs 6 = .ok (.if_icmp .eq 46, 3) := by decide +kernel
theorem dX12_chairs_9 : decode cX12_chairs 9 = .ok (.iload_n 2, 1) := by decide +kernel
theorem dX12_chairs_10 : decode cX12_chairs 10 = .ok (.ifCond .lt 42, 3) := by decide +kernel
theorem dX12_chairs_13 : decode cX12_chairs 13 = .ok (.iload_n 2, 1) := by decide +kernel
theorem dX12_chairs_14 : decode cX12_chairs 14 = .ok (.bipush 10, 2) := by decide +kernel
theorem dX12_chairs_16 : decode cX12_chairs 16 = .ok (.idiv, 1) := by decide +kernel
theorem dX12_chairs_17 : decode cX12_chairs 17 = .ok (.invokestatic 140, 3) := by decide +kernel
theorem dX12_chairs_20 : decode cX12_chairs 20 = .ok (.ifCond .eq 32, 3) := by decide +kernel
theorem dX12_chairs_23 : decode cX12_chairs 23 = .ok (.iload_n 2, 1) := by decide +kernel
theorem dX12_chairs_24 : decode cX12_chairs 24 = .ok (.bipush 10, 2) := by decide +kernel
theorem dX12_chairs_26 : decode cX12_chairs 26 = .ok (.irem, 1) := by decide +kernel
theorem dX12_chairs_27 : decode cX12_chairs 27 = .ok (.i2l, 1) := by decide +kernel
theorem dX12_chairs_28 : decode cX12_chairs 28 = .ok (.lconst 1, 1) := by decide +kernel
theorem dX12_chairs_29 : decode cX12_chairs 29 = .ok (.ldc2_w 230, 3) := by decide +kernel
theorem dX12_chairs_32 : decode cX12_chairs 32 = .ok (.invokestatic 109, 3) := by decide +kernel
theorem dX12_chairs_35 : decode cX12_chairs 35 = .ok (.ifCond .eq 17, 3) := by decide +kernel
theorem dX12_chairs_38 : decode cX12_chairs 38 = .ok (.iload_n 3, 1) := by decide +kernel
theorem dX12_chairs_39 : decode cX12_chairs 39 = .ok (.iconst (-1), 1) := by decide +kernel
theorem dX12_chairs_40 : decode cX12_chairs 40 = .ok (.if_icmp .eq 14, 3) := by decide +kernel
theorem dX12_chairs_43 : decode cX12_chairs 43 = .ok (.aload_n 0, 1) := by decide +kernel
theorem dX12_chairs_44 : decode cX12_chairs 44 = .ok (.iload_n 3, 1) := by decide +kernel
theorem dX12_chairs_45 : decode cX12_chairs 45 = .ok (.i2l, 1) := by decide +kernel
theorem dX12_chairs_46 : decode cX12_chairs 46 = .ok (.invokevirtual 135, 3) := by decide +kernel
theorem dX12_chairs_49 : decode cX12_chairs 49 = .ok (.ifCond .ne 5, 3) := by decide +kernel
theorem dX12_chairs_52 : decode cX12_chairs 52 = .ok (.iconst (-1), 1) := by decide +kernel
theorem dX12_chairs_53 : decode cX12_chairs 53 = .ok (.ireturn, 1) := by decide +kernel
theorem dX12_chairs_54 : decode cX12_chairs 54 = .ok (.aload_n 0, 1) := by decide +kernel
theorem dX12_chairs_55 : decode cX12_chairs 55 = .ok (.iload_n 1, 1) := by decide +kernel
theorem dX12_chairs_56 : decode cX12_chairs 56 = .ok (.invokevirtual 224, 3) := by decide +kernel
theorem dX12_chairs_59 : decode cX12_chairs 59 = .ok (.ifCond .ge 9, 3) := by decide +kernel
theorem dX12_chairs_62 : decode cX12_chairs 62 = .ok (.aload_n 0, 1) := by decide +kernel
theorem dX12_chairs_63 : decode cX12_chairs 63 = .ok (.iload_n 1, 1) := by decide +kernel
theorem dX12_chairs_64 : decode cX12_chairs 64 = .ok (.invokevirtual 224, 3) := by decide +kernel
theorem dX12_chairs_67 : decode cX12_chairs 67 = .ok (.ireturn, 1) := by decide +kernel
theorem dX12_who_0 : decode cX12_who 0 = .ok (.aload_n 0, 1) := by decide +kernel
theorem dX12_who_1 : decode cX12_who 1 = .ok (.iload_n 1, 1) := by decide +kernel
theorem dX12_who_2 : decode cX12_who 2 = .ok (.invokevirtual 224, 3) := by decide +kernel
theorem dX12_who_5 : decode cX12_who 5 = .ok (.iconst (-1), 1) := by decide +kernel
theorem dX12_who_6 : decode cX12_who 6 = .ok (.if_icmp .eq 22, 3) := by decide +kernel
theorem dX12_who_9 : decode cX12_who 9 = .ok (.iload_n 2, 1) := by decide +kernel
theorem dX12_who_10 : decode cX12_who 10 = .ok (.invokestatic 140, 3) := by decide +kernel
theorem dX12_who_13 : decode cX12_who 13 = .ok (.ifCond .eq 15, 3) := by decide +kernel
theorem dX12_who_16 : decode cX12_who 16 = .ok (.iload_n 3, 1) := by decide +kernel
theorem dX12_who_17 : decode cX12_who 17 = .ok (.i2l, 1) := by decide +kernel
theorem dX12_who_18 : decode cX12_who 18 = .ok (.lconst 0, 1) := by decide +kernel
theorem dX12_who_19 : decode cX12_who 19 = .ok (.ldc2_w 323, 3) := by decide +kernel
theorem dX12_who_22 : decode cX12_who 22 = .ok (.invokestatic 109, 3) := by decide +kernel
theorem dX12_who_25 : decode cX12_who 25 = .ok (.ifCond .ne 5, 3) := by decide +kernel
theorem dX12_who_28 : decode cX12_who 28 = .ok (.iconst (-1), 1) := by decide +kernel
theorem dX12_who_29 : decode cX12_who 29 = .ok (.ireturn, 1) := by decide +kernel
theorem dX12_who_30 : decode cX12_who 30 = .ok (.aload_n 0, 1) := by decide +kernel
theorem dX12_who_31 : decode cX12_who 31 = .ok (.iload_n 1, 1) := by decide +kernel
theorem dX12_who_32 : decode cX12_who 32 = .ok (.invokevirtual 224, 3) := by decide +kernel
theorem dX12_who_35 : decode cX12_who 35 = .ok (.ifCond .ge 9, 3) := by decide +kernel
theorem dX12_who_38 : decode cX12_who 38 = .ok (.aload_n 0, 1) := by decide +kernel
theorem dX12_who_39 : decode cX12_who 39 = .ok (.iload_n 1, 1) := by decide +kernel
theorem dX12_who_40 : decode cX12_who 40 = .ok (.invokevirtual 224, 3) := by decide +kernel
theorem dX12_who_43 : decode cX12_who 43 = .ok (.ireturn, 1) := by decide +kernel
theorem dX12_judge_0 : decode cX12_judge 0 = .ok (.iload_n 1, 1) := by decide +kernel
theorem dX12_judge_1 : decode cX12_judge 1 = .ok (.ifCond .lt 30, 3) := by decide +kernel
theorem dX12_judge_4 : decode cX12_judge 4 = .ok (.iload_n 1, 1) := by decide +kernel
theorem dX12_judge_5 : decode cX12_judge 5 = .ok (.bipush 10, 2) := by decide +kernel
theorem dX12_judge_7 : decode cX12_judge 7 = .ok (.idiv, 1) := by decide +kernel
theorem dX12_judge_8 : decode cX12_judge 8 = .ok (.invokestatic 127, 3) := by decide +kernel
theorem dX12_judge_11 : decode cX12_judge 11 = .ok (.ifCond .eq 20, 3) := by decide +kernel
theorem dX12_judge_14 : decode cX12_judge 14 = .ok (.iload_n 1, 1) := by decide +kernel
theorem dX12_judge_15 : decode cX12_judge 15 = .ok (.bipush 10, 2) := by decide +kernel
theorem dX12_judge_17 : decode cX12_judge 17 = .ok (.irem, 1) := by decide +kernel
theorem dX12_judge_18 : decode cX12_judge 18 = .ok (.invokestatic 127, 3) := by decide +kernel
theorem dX12_judge_21 : decode cX12_judge 21 = .ok (.ifCond .eq 10, 3) := by decide +kernel
theorem dX12_judge_24 : decode cX12_judge 24 = .ok (.iload_n 2, 1) := by decide +kernel
theorem dX12_judge_25 : decode cX12_judge 25 = .ok (.invokestatic 140, 3) := by decide +kernel
theorem dX12_judge_28 : decode cX12_judge 28 = .ok (.ifCond .ne 5, 3) := by decide +kernel
theorem dX12_judge_31 : decode cX12_judge 31 = .ok (.iconst (-1), 1) := by decide +kernel
theorem dX12_judge_32 : decode cX12_judge 32 = .ok (.ireturn, 1) := by decide +kernel
theorem dX12_judge_33 : decode cX12_judge 33 = .ok (.aload_n 0, 1) := by decide +kernel
theorem dX12_judge_34 : decode cX12_judge 34 = .ok (.getfield 74, 3) := by decide +kernel
theorem dX12_judge_37 : decode cX12_judge 37 = .ok (.iload_n 1, 1) := by decide +kernel
theorem dX12_judge_38 : decode cX12_judge 38 = .ok (.bipush 10, 2) := by decide +kernel
theorem dX12_judge_40 : decode cX12_judge 40 = .ok (.idiv, 1) := by decide +kernel
theorem dX12_judge_41 : decode cX12_judge 41 = .ok (.iaload, 1) := by decide +kernel
theorem dX12_judge_42 : decode cX12_judge 42 = .ok (.ifCond .lt 15, 3) := by decide +kernel
theorem dX12_judge_57 : decode cX12_judge 57 = .ok (.bipush (-11), 2) := by decide +kernel
theorem dX12_judge_59 : decode cX12_judge 59 = .ok (.ireturn, 1) := by decide +kernel
theorem dX12_drawn_0 : decode cX12_drawn 0 = .ok (.aload_n 0, 1) := by decide +kernel
theorem dX12_drawn_1 : decode cX12_drawn 1 = .ok (.iload_n 1, 1) := by decide +kernel
theorem dX12_drawn_2 : decode cX12_drawn 2 = .ok (.invokevirtual 224, 3) := by decide +kernel
theorem dX12_drawn_5 : decode cX12_drawn 5 = .ok (.iconst (-1), 1) := by decide +kernel
theorem dX12_drawn_6 : decode cX12_drawn 6 = .ok (.if_icmp .eq 26, 3) := by decide +kernel
theorem dX12_drawn_9 : decode cX12_drawn 9 = .ok (.iload_n 3, 1) := by decide +kernel
theorem dX12_drawn_10 : decode cX12_drawn 10 = .ok (.i2l, 1) := by decide +kernel
theorem dX12_drawn_11 : decode cX12_drawn 11 = .ok (.lconst 1, 1) := by decide +kernel
theorem dX12_drawn_12 : decode cX12_drawn 12 = .ok (.ldc2_w 334, 3) := by decide +kernel
theorem dX12_drawn_15 : decode cX12_drawn 15 = .ok (.invokestatic 109, 3) := by decide +kernel
theorem dX12_drawn_18 : decode cX12_drawn 18 = .ok (.ifCond .eq 14, 3) := by decide +kernel
theorem dX12_drawn_21 : decode cX12_drawn 21 = .ok (.iload 4, 2) := by decide +kernel
theorem dX12_drawn_23 : decode cX12_drawn 23 = .ok (.i2l, 1) := by decide +kernel
theorem dX12_drawn_24 : decode cX12_drawn 24 = .ok (.lconst 0, 1) := by decide +kernel
theorem dX12_drawn_25 : decode cX12_drawn 25 = .ok (.lconst 1, 1) := by decide +kernel
theorem dX12_drawn_26 : decode cX12_drawn 26 = .ok (.invokestatic 109, 3) := by decide +kernel
theorem dX12_drawn_29 : decode cX12_drawn 29 = .ok (.ifCond .ne 5, 3) := by decide +kernel
theorem dX12_drawn_32 : decode cX12_drawn 32 = .ok (.iconst (-1), 1) := by decide +kernel
theorem dX12_drawn_33 : decode cX12_drawn 33 = .ok (.ireturn, 1) := by decide +kernel
theorem dX12_drawn_34 : decode cX12_drawn 34 = .ok (.aload_n 0, 1) := by decide +kernel
theorem dX12_drawn_35 : decode cX12_drawn 35 = .ok (.iload_n 1, 1) := by decide +kernel
theorem dX12_drawn_36 : decode cX12_drawn 36 = .ok (.invokevirtual 224, 3) := by decide +kernel
theorem dX12_drawn_39 : decode cX12_drawn 39 = .ok (.ifCond .ge 9, 3) := by decide +kernel
theorem dX12_drawn_42 : decode cX12_drawn 42 = .ok (.aload_n 0, 1) := by decide +kernel
theorem dX12_drawn_43 : decode cX12_drawn 43 = .ok (.iload_n 1, 1) := by decide +kernel
theorem dX12_drawn_44 : decode cX12_drawn 44 = .ok (.invokevirtual 224, 3) := by decide +kernel
theorem dX12_drawn_47 : decode cX12_drawn 47 = .ok (.ireturn, 1) := by decide +kernel
theorem dX12_sit_0 : decode cX12_sit 0 = .ok (.aload_n 0, 1) := by decide +kernel
theorem dX12_sit_1 : decode cX12_sit 1 = .ok (.iload_n 1, 1) := by decide +kernel
theorem dX12_sit_2 : decode cX12_sit 2 = .ok (.i2l, 1) := by decide +kernel
theorem dX12_sit_3 : decode cX12_sit 3 = .ok (.invokevirtual 135, 3) := by decide +kernel
theorem dX12_sit_6 : decode cX12_sit 6 = .ok (.ifCond .ne 5, 3) := by decide +kernel
theorem dX12_sit_9 : decode cX12_sit 9 = .ok (.iconst (-1), 1) := by decide +kernel
theorem dX12_sit_10 : decode cX12_sit 10 = .ok (.ireturn, 1) := by decide +kernel
theorem dX12_set_0 : decode cX12_set 0 = .ok (.iload_n 1, 1) := by decide +kernel
theorem dX12_set_1 : decode cX12_set 1 = .ok (.invokestatic 140, 3) := by decide +kernel
theorem dX12_set_4 : decode cX12_set 4 = .ok (.ifCond .eq 11, 3) := by decide +kernel
theorem dX12_set_7 : decode cX12_set 7 = .ok (.iload_n 2, 1) := by decide +kernel
theorem dX12_set_8 : decode cX12_set 8 = .ok (.i2l, 1) := by decide +kernel
theorem dX12_set_9 : decode cX12_set 9 = .ok (.invokestatic 117, 3) := by decide +kernel
theorem dX12_set_12 : decode cX12_set 12 = .ok (.ifCond .ne 5, 3) := by decide +kernel
theorem dX12_set_15 : decode cX12_set 15 = .ok (.iconst (-1), 1) := by decide +kernel
theorem dX12_set_16 : decode cX12_set 16 = .ok (.ireturn, 1) := by decide +kernel
theorem dX12_set_17 : decode cX12_set 17 = .ok (.iload_n 2, 1) := by decide +kernel
theorem dX12_set_18 : decode cX12_set 18 = .ok (.aload_n 0, 1) := by decide +kernel
theorem dX12_set_19 : decode cX12_set 19 = .ok (.getfield 22, 3) := by decide +kernel
theorem dX12_set_22 : decode cX12_set 22 = .ok (.iload_n 1, 1) := by decide +kernel
theorem dX12_set_23 : decode cX12_set 23 = .ok (.iaload, 1) := by decide +kernel
theorem dX12_set_24 : decode cX12_set 24 = .ok (.isub, 1) := by decide +kernel
theorem dX12_set_25 : decode cX12_set 25 = .ok (.invokestatic 211, 3) := by decide +kernel
theorem dX12_set_28 : decode cX12_set 28 = .ok (.istore_n 3, 1) := by decide +kernel
theorem dX12_set_29 : decode cX12_set 29 = .ok (.aload_n 0, 1) := by decide +kernel
theorem dX12_set_30 : decode cX12_set 30 = .ok (.getfield 22, 3) := by decide +kernel
theorem dX12_set_33 : decode cX12_set 33 = .ok (.iload_n 1, 1) := by decide +kernel
theorem dX12_set_34 : decode cX12_set 34 = .ok (.iload_n 2, 1) := by decide +kernel
theorem dX12_set_35 : decode cX12_set 35 = .ok (.iastore, 1) := by decide +kernel
theorem dX12_set_36 : decode cX12_set 36 = .ok (.aload_n 0, 1) := by decide +kernel
theorem dX12_set_37 : decode cX12_set 37 = .ok (.dup, 1) := by decide +kernel
theorem dX12_set_38 : decode cX12_set 38 = .ok (.getfield 340, 3) := by decide +kernel
theorem dX12_set_41 : decode cX12_set 41 = .ok (.iload_n 3, 1) := by decide +kernel
theorem dX12_set_42 : decode cX12_set 42 = .ok (.iadd, 1) := by decide +kernel
theorem dX12_set_43 : decode cX12_set 43 = .ok (.putfield 340, 3) := by decide +kernel
theorem dX12_set_46 : decode cX12_set 46 = .ok (.iload_n 3, 1) := by decide +kernel
theorem dX12_set_47 : decode cX12_set 47 = .ok (.ireturn, 1) := by decide +kernel
theorem dX12_night_0 : decode cX12_night 0 = .ok (.iconst 0, 1) := by decide +kernel
theorem dX12_night_1 : decode cX12_night 1 = .ok (.istore_n 1, 1) := by decide +kernel
theorem dX12_night_2 : decode cX12_night 2 = .ok (.iconst 0, 1) := by decide +kernel
theorem dX12_night_3 : decode cX12_night 3 = .ok (.istore_n 2, 1) := by decide +kernel
theorem dX12_night_4 : decode cX12_night 4 = .ok (.iload_n 2, 1) := by decide +kernel
theorem dX12_night_5 : decode cX12_night 5 = .ok (.iconst 3, 1) := by decide +kernel
theorem dX12_night_6 : decode cX12_night 6 = .ok (.if_icmp .ge 46, 3) := by decide +kernel
theorem dX12_night_9 : decode cX12_night 9 = .ok (.aload_n 0, 1) := by decide +kernel
theorem dX12_night_10 : decode cX12_night 10 = .ok (.iload_n 2, 1) := by decide +kernel
theorem dX12_night_11 : decode cX12_night 11 = .ok (.aload_n 0, 1) := by decide +kernel
theorem dX12_night_12 : decode cX12_night 12 = .ok (.getfield 22, 3) := by decide +kernel
theorem dX12_night_15 : decode cX12_night 15 = .ok (.iload_n 2, 1) := by decide +kernel
theorem dX12_night_16 : decode cX12_night 16 = .ok (.iaload, 1) := by decide +kernel
theorem dX12_night_17 : decode cX12_night 17 = .ok (.invokevirtual 248, 3) := by decide +kernel
theorem dX12_night_20 : decode cX12_night 20 = .ok (.istore_n 3, 1) := by decide +kernel
theorem dX12_night_21 : decode cX12_night 21 = .ok (.iload_n 1, 1) := by decide +kernel
theorem dX12_night_22 : decode cX12_night 22 = .ok (.iload_n 3, 1) := by decide +kernel
theorem dX12_night_23 : decode cX12_night 23 = .ok (.aload_n 0, 1) := by decide +kernel
theorem dX12_night_24 : decode cX12_night 24 = .ok (.getfield 22, 3) := by decide +kernel
theorem dX12_night_27 : decode cX12_night 27 = .ok (.iload_n 2, 1) := by decide +kernel
theorem dX12_night_28 : decode cX12_night 28 = .ok (.iaload, 1) := by decide +kernel
theorem dX12_night_29 : decode cX12_night 29 = .ok (.if_icmp .ge 7, 3) := by decide +kernel
theorem dX12_night_36 : decode cX12_night 36 = .ok (.iconst 0, 1) := by decide +kernel
theorem dX12_night_37 : decode cX12_night 37 = .ok (.iadd, 1) := by decide +kernel
theorem dX12_night_38 : decode cX12_night 38 = .ok (.istore_n 1, 1) := by decide +kernel
theorem dX12_night_39 : decode cX12_night 39 = .ok (.aload_n 0, 1) := by decide +kernel
theorem dX12_night_40 : decode cX12_night 40 = .ok (.getfield 22, 3) := by decide +kernel
theorem dX12_night_43 : decode cX12_night 43 = .ok (.iload_n 2, 1) := by decide +kernel
theorem dX12_night_44 : decode cX12_night 44 = .ok (.iload_n 3, 1) := by decide +kernel
theorem dX12_night_45 : decode cX12_night 45 = .ok (.iastore, 1) := by decide +kernel
theorem dX12_night_46 : decode cX12_night 46 = .ok (.iinc 2 1, 3) := by decide +kernel
theorem dX12_night_49 : decode cX12_night 49 = .ok (.goto (-45), 3) := by decide +kernel
theorem dX12_night_52 : decode cX12_night 52 = .ok (.iload_n 1, 1) := by decide +kernel
theorem dX12_night_53 : decode cX12_night 53 = .ok (.ireturn, 1) := by decide +kernel
theorem dX12_led_0 : decode cX12_led 0 = .ok (.iload_n 1, 1) := by decide +kernel
theorem dX12_led_1 : decode cX12_led 1 = .ok (.tableswitch 60 0 4 #[35, 40, 45, 50, 55], 35) := by decide +kernel
theorem dX12_led_36 : decode cX12_led 36 = .ok (.aload_n 0, 1) := by decide +kernel
theorem dX12_led_37 : decode cX12_led 37 = .ok (.getfield 337, 3) := by decide +kernel
theorem dX12_led_40 : decode cX12_led 40 = .ok (.ireturn, 1) := by decide +kernel
theorem dX12_led_41 : decode cX12_led 41 = .ok (.aload_n 0, 1) := by decide +kernel
theorem dX12_led_42 : decode cX12_led 42 = .ok (.getfield 340, 3) := by decide +kernel
theorem dX12_led_45 : decode cX12_led 45 = .ok (.ireturn, 1) := by decide +kernel
theorem dX12_led_46 : decode cX12_led 46 = .ok (.aload_n 0, 1) := by decide +kernel
theorem dX12_led_47 : decode cX12_led 47 = .ok (.getfield 343, 3) := by decide +kernel
theorem dX12_led_50 : decode cX12_led 50 = .ok (.ireturn, 1) := by decide +kernel
theorem dX12_led_51 : decode cX12_led 51 = .ok (.aload_n 0, 1) := by decide +kernel
theorem dX12_led_52 : decode cX12_led 52 = .ok (.getfield 346, 3) := by decide +kernel
theorem dX12_led_55 : decode cX12_led 55 = .ok (.ireturn, 1) := by decide +kernel
theorem dX12_led_56 : decode cX12_led 56 = .ok (.aload_n 0, 1) := by decide +kernel
theorem dX12_led_57 : decode cX12_led 57 = .ok (.getfield 91, 3) := by decide +kernel
theorem dX12_led_60 : decode cX12_led 60 = .ok (.ireturn, 1) := by decide +kernel
theorem dX12_led_61 : decode cX12_led 61 = .ok (.iconst (-1), 1) := by decide +kernel
theorem dX12_led_62 : decode cX12_led 62 = .ok (.ireturn, 1) := by decide +kernel
theorem dX12_image_0 : decode cX12_image 0 = .ok (.aload_n 0, 1) := by decide +kernel
theorem dX12_image_1 : decode cX12_image 1 = .ok (.iconst 1, 1) := by decide +kernel
theorem dX12_image_2 : decode cX12_image 2 = .ok (.putfield 349, 3) := by decide +kernel
theorem dX12_image_5 : decode cX12_image 5 = .ok (.iconst 0, 1) := by decide +kernel
theorem dX12_image_6 : decode cX12_image 6 = .ok (.istore_n 1, 1) := by decide +kernel
theorem dX12_image_7 : decode cX12_image 7 = .ok (.iload_n 1, 1) := by decide +kernel
theorem dX12_image_8 : decode cX12_image 8 = .ok (.bipush 8, 2) := by decide +kernel
theorem dX12_image_10 : decode cX12_image 10 = .ok (.if_icmp .ge 36, 3) := by decide +kernel
theorem dX12_image_13 : decode cX12_image 13 = .ok (.aload_n 0, 1) := by decide +kernel
theorem dX12_image_14 : decode cX12_image 14 = .ok (.getfield 65, 3) := by decide +kernel
theorem dX12_image_17 : decode cX12_image 17 = .ok (.iload_n 1, 1) := by decide +kernel
theorem dX12_image_18 : decode cX12_image 18 = .ok (.iload_n 1, 1) := by decide +kernel
theorem dX12_image_19 : decode cX12_image 19 = .ok (.iconst 3, 1) := by decide +kernel
theorem dX12_image_20 : decode cX12_image 20 = .ok (.if_icmp .ge 12, 3) := by decide +kernel
theorem dX12_image_23 : decode cX12_image 23 = .ok (.aload_n 0, 1) := by decide +kernel
theorem dX12_image_24 : decode cX12_image 24 = .ok (.getfield 22, 3) := by decide +kernel
theorem dX12_image_27 : decode cX12_image 27 = .ok (.iload_n 1, 1) := by decide +kernel
theorem dX12_image_28 : decode cX12_image 28 = .ok (.iaload, 1) := by decide +kernel
theorem dX12_image_29 : decode cX12_image 29 = .ok (.goto 10, 3) := by decide +kernel
theorem dX12_image_32 : decode cX12_image 32 = .ok (.aload_n 0, 1) := by decide +kernel
theorem dX12_image_33 : decode cX12_image 33 = .ok (.iload_n 1, 1) := by decide +kernel
theorem dX12_image_34 : decode cX12_image 34 = .ok (.iconst 3, 1) := by decide +kernel
theorem dX12_image_35 : decode cX12_image 35 = .ok (.isub, 1) := by decide +kernel
theorem dX12_image_36 : decode cX12_image 36 = .ok (.invokevirtual 352, 3) := by decide +kernel
theorem dX12_image_39 : decode cX12_image 39 = .ok (.iastore, 1) := by decide +kernel
theorem dX12_image_40 : decode cX12_image 40 = .ok (.iinc 1 1, 3) := by decide +kernel
theorem dX12_image_43 : decode cX12_image 43 = .ok (.goto (-36), 3) := by decide +kernel
theorem dX12_image_46 : decode cX12_image 46 = .ok (.aload_n 0, 1) := by decide +kernel
theorem dX12_image_47 : decode cX12_image 47 = .ok (.getfield 337, 3) := by decide +kernel
theorem dX12_image_50 : decode cX12_image 50 = .ok (.ireturn, 1) := by decide +kernel
theorem dX12_back_0 : decode cX12_back 0 = .ok (.aload_n 0, 1) := by decide +kernel
theorem dX12_back_1 : decode cX12_back 1 = .ok (.getfield 349, 3) := by decide +kernel
theorem dX12_back_4 : decode cX12_back 4 = .ok (.ifCond .ne 6, 3) := by decide +kernel
theorem dX12_back_7 : decode cX12_back 7 = .ok (.bipush (-5), 2) := by decide +kernel
theorem dX12_back_9 : decode cX12_back 9 = .ok (.ireturn, 1) := by decide +kernel
theorem dX12_isBody_0 : decode cX12_isBody 0 = .ok (.iload_n 1, 1) := by decide +kernel
theorem dX12_isBody_1 : decode cX12_isBody 1 = .ok (.i2l, 1) := by decide +kernel
theorem dX12_isBody_2 : decode cX12_isBody 2 = .ok (.lconst 0, 1) := by decide +kernel
theorem dX12_isBody_3 : decode cX12_isBody 3 = .ok (.aload_n 0, 1) := by decide +kernel
theorem dX12_isBody_4 : decode cX12_isBody 4 = .ok (.getfield 355, 3) := by decide +kernel
theorem dX12_isBody_7 : decode cX12_isBody 7 = .ok (.iconst 1, 1) := by decide +kernel
theorem dX12_isBody_8 : decode cX12_isBody 8 = .ok (.isub, 1) := by decide +kernel
theorem dX12_isBody_9 : decode cX12_isBody 9 = .ok (.i2l, 1) := by decide +kernel
theorem dX12_isBody_10 : decode cX12_isBody 10 = .ok (.invokestatic 109, 3) := by decide +kernel
theorem dX12_isBody_13 : decode cX12_isBody 13 = .ok (.ireturn, 1) := by decide +kernel
theorem dX12_body_0 : decode cX12_body 0 = .ok (.iload_n 1, 1) := by decide +kernel
theorem dX12_body_1 : decode cX12_body 1 = .ok (.i2l, 1) := by decide +kernel
theorem dX12_body_2 : decode cX12_body 2 = .ok (.lconst 0, 1) := by decide +kernel
theorem dX12_body_3 : decode cX12_body 3 = .ok (.ldc2_w 133, 3) := by decide +kernel
theorem dX12_body_6 : decode cX12_body 6 = .ok (.invokestatic 109, 3) := by decide +kernel
theorem dX12_body_9 : decode cX12_body 9 = .ok (.ifCond .ne 5, 3) := by decide +kernel
theorem dX12_body_12 : decode cX12_body 12 = .ok (.iconst (-1), 1) := by decide +kernel
theorem dX12_body_13 : decode cX12_body 13 = .ok (.ireturn, 1) := by decide +kernel
theorem dX12_body_14 : decode cX12_body 14 = .ok (.aload_n 0, 1) := by decide +kernel
theorem dX12_body_15 : decode cX12_body 15 = .ok (.getfield 355, 3) := by decide +kernel
theorem dX12_body_18 : decode cX12_body 18 = .ok (.bipush 50, 2) := by decide +kernel
theorem dX12_body_20 : decode cX12_body 20 = .ok (.if_icmp .ne 6, 3) := by decide +kernel
theorem dX12_body_26 : decode cX12_body 26 = .ok (.aload_n 0, 1) := by decide +kernel
theorem dX12_body_27 : decode cX12_body 27 = .ok (.getfield 68, 3) := by decide +kernel
theorem dX12_body_30 : decode cX12_body 30 = .ok (.aload_n 0, 1) := by decide +kernel
theorem dX12_body_31 : decode cX12_body 31 = .ok (.getfield 355, 3) := by decide +kernel
theorem dX12_body_34 : decode cX12_body 34 = .ok (.iload_n 1, 1) := by decide +kernel
theorem dX12_body_35 : decode cX12_body 35 = .ok (.iastore, 1) := by decide +kernel
theorem dX12_body_36 : decode cX12_body 36 = .ok (.aload_n 0, 1) := by decide +kernel
theorem dX12_body_37 : decode cX12_body 37 = .ok (.dup, 1) := by decide +kernel
theorem dX12_body_38 : decode cX12_body 38 = .ok (.getfield 355, 3) := by decide +kernel
theorem dX12_body_41 : decode cX12_body 41 = .ok (.iconst 1, 1) := by decide +kernel
theorem dX12_body_42 : decode cX12_body 42 = .ok (.iadd, 1) := by decide +kernel
theorem dX12_body_43 : decode cX12_body 43 = .ok (.putfield 355, 3) := by decide +kernel
theorem dX12_body_46 : decode cX12_body 46 = .ok (.aload_n 0, 1) := by decide +kernel
theorem dX12_body_47 : decode cX12_body 47 = .ok (.getfield 355, 3) := by decide +kernel
theorem dX12_body_50 : decode cX12_body 50 = .ok (.iconst 1, 1) := by decide +kernel
theorem dX12_body_51 : decode cX12_body 51 = .ok (.isub, 1) := by decide +kernel
theorem dX12_body_52 : decode cX12_body 52 = .ok (.ireturn, 1) := by decide +kernel
theorem dX12_act_0 : decode cX12_act 0 = .ok (.aload_n 0, 1) := by decide +kernel
theorem dX12_act_1 : decode cX12_act 1 = .ok (.iconst 0, 1) := by decide +kernel
theorem dX12_act_2 : decode cX12_act 2 = .ok (.putfield 358, 3) := by decide +kernel
theorem dX12_act_5 : decode cX12_act 5 = .ok (.aload_n 0, 1) := by decide +kernel
theorem dX12_act_6 : decode cX12_act 6 = .ok (.iload_n 1, 1) := by decide +kernel
theorem dX12_act_7 : decode cX12_act 7 = .ok (.invokevirtual 382, 3) := by decide +kernel
theorem dX12_act_10 : decode cX12_act 10 = .ok (.ifCond .ne 5, 3) := by decide +kernel
theorem dX12_act_13 : decode cX12_act 13 = .ok (.iconst 0, 1) := by decide +kernel
theorem dX12_act_14 : decode cX12_act 14 = .ok (.ireturn, 1) := by decide +kernel
theorem dX12_trace_0 : decode cX12_trace 0 = .ok (.iload_n 1, 1) := by decide +kernel
theorem dX12_trace_1 : decode cX12_trace 1 = .ok (.ifCond .lt 26, 3) := by decide +kernel
theorem dX12_trace_4 : decode cX12_trace 4 = .ok (.iload_n 1, 1) := by decide +kernel
theorem dX12_trace_5 : decode cX12_trace 5 = .ok (.aload_n 0, 1) := by decide +kernel
theorem dX12_trace_6 : decode cX12_trace 6 = .ok (.getfield 358, 3) := by decide +kernel
theorem dX12_trace_9 : decode cX12_trace 9 = .ok (.if_icmp .ge 18, 3) := by decide +kernel
theorem dX12_trace_27 : decode cX12_trace 27 = .ok (.iconst (-1), 1) := by decide +kernel
theorem dX12_trace_28 : decode cX12_trace 28 = .ok (.ireturn, 1) := by decide +kernel
theorem dX12_isShelf_0 : decode cX12_isShelf 0 = .ok (.iload_n 0, 1) := by decide +kernel
theorem dX12_isShelf_1 : decode cX12_isShelf 1 = .ok (.i2l, 1) := by decide +kernel
theorem dX12_isShelf_2 : decode cX12_isShelf 2 = .ok (.lconst 0, 1) := by decide +kernel
theorem dX12_isShelf_3 : decode cX12_isShelf 3 = .ok (.ldc2_w 385, 3) := by decide +kernel
theorem dX12_isShelf_6 : decode cX12_isShelf 6 = .ok (.invokestatic 109, 3) := by decide +kernel
theorem dX12_isShelf_9 : decode cX12_isShelf 9 = .ok (.ireturn, 1) := by decide +kernel
theorem dX12_keep_0 : decode cX12_keep 0 = .ok (.iload_n 1, 1) := by decide +kernel
theorem dX12_keep_1 : decode cX12_keep 1 = .ok (.invokestatic 127, 3) := by decide +kernel
theorem dX12_keep_4 : decode cX12_keep 4 = .ok (.ifCond .eq 16, 3) := by decide +kernel
theorem dX12_keep_7 : decode cX12_keep 7 = .ok (.iload_n 2, 1) := by decide +kernel
theorem dX12_keep_8 : decode cX12_keep 8 = .ok (.iconst (-1), 1) := by decide +kernel
theorem dX12_keep_9 : decode cX12_keep 9 = .ok (.if_icmp .eq 13, 3) := by decide +kernel
theorem dX12_keep_12 : decode cX12_keep 12 = .ok (.aload_n 0, 1) := by decide +kernel
theorem dX12_keep_13 : decode cX12_keep 13 = .ok (.iload_n 2, 1) := by decide +kernel
theorem dX12_keep_14 : decode cX12_keep 14 = .ok (.invokevirtual 382, 3) := by decide +kernel
theorem dX12_keep_17 : decode cX12_keep 17 = .ok (.ifCond .ne 5, 3) := by decide +kernel
theorem dX12_keep_20 : decode cX12_keep 20 = .ok (.iconst (-1), 1) := by decide +kernel
theorem dX12_keep_21 : decode cX12_keep 21 = .ok (.ireturn, 1) := by decide +kernel
theorem dX12_keep_22 : decode cX12_keep 22 = .ok (.aload_n 0, 1) := by decide +kernel
theorem dX12_keep_23 : decode cX12_keep 23 = .ok (.getfield 74, 3) := by decide +kernel
theorem dX12_keep_26 : decode cX12_keep 26 = .ok (.iload_n 1, 1) := by decide +kernel
theorem dX12_keep_27 : decode cX12_keep 27 = .ok (.iload_n 2, 1) := by decide +kernel
theorem dX12_keep_28 : decode cX12_keep 28 = .ok (.iastore, 1) := by decide +kernel
theorem dX12_keep_29 : decode cX12_keep 29 = .ok (.aload_n 0, 1) := by decide +kernel
theorem dX12_keep_30 : decode cX12_keep 30 = .ok (.getfield 77, 3) := by decide +kernel
theorem dX12_keep_33 : decode cX12_keep 33 = .ok (.iload_n 1, 1) := by decide +kernel
theorem dX12_keep_34 : decode cX12_keep 34 = .ok (.iconst 0, 1) := by decide +kernel
theorem dX12_keep_35 : decode cX12_keep 35 = .ok (.iastore, 1) := by decide +kernel
theorem dX12_keep_36 : decode cX12_keep 36 = .ok (.iconst 1, 1) := by decide +kernel
theorem dX12_keep_37 : decode cX12_keep 37 = .ok (.ireturn, 1) := by decide +kernel
theorem dX12_row_0 : decode cX12_row 0 = .ok (.iload_n 1, 1) := by decide +kernel
theorem dX12_row_1 : decode cX12_row 1 = .ok (.invokestatic 127, 3) := by decide +kernel
theorem dX12_row_4 : decode cX12_row 4 = .ok (.ifCond .eq 21, 3) := by decide +kernel
theorem dX12_row_7 : decode cX12_row 7 = .ok (.iload_n 2, 1) := by decide +kernel
theorem dX12_row_8 : decode cX12_row 8 = .ok (.i2l, 1) := by decide +kernel
theorem dX12_row_9 : decode cX12_row 9 = .ok (.lconst 0, 1) := by decide +kernel
theorem dX12_row_10 : decode cX12_row 10 = .ok (.ldc2_w 387, 3) := by decide +kernel
theorem dX12_row_13 : decode cX12_row 13 = .ok (.invokestatic 109, 3) := by decide +kernel
theorem dX12_row_16 : decode cX12_row 16 = .ok (.ifCond .eq 9, 3) := by decide +kernel
theorem dX12_row_19 : decode cX12_row 19 = .ok (.iload_n 3, 1) := by decide +kernel
theorem dX12_row_20 : decode cX12_row 20 = .ok (.bipush 60, 2) := by decide +kernel
theorem dX12_row_22 : decode cX12_row 22 = .ok (.if_icmp .le 5, 3) := by decide +kernel
theorem dX12_row_25 : decode cX12_row 25 = .ok (.iconst (-1), 1) := by decide +kernel
theorem dX12_row_26 : decode cX12_row 26 = .ok (.ireturn, 1) := by decide +kernel
theorem dX12_row_27 : decode cX12_row 27 = .ok (.iload_n 3, 1) := by decide +kernel
theorem dX12_row_28 : decode cX12_row 28 = .ok (.ifCond .ge 6, 3) := by decide +kernel
theorem dX12_row_31 : decode cX12_row 31 = .ok (.bipush (-14), 2) := by decide +kernel
theorem dX12_row_33 : decode cX12_row 33 = .ok (.ireturn, 1) := by decide +kernel
theorem dX12_row_34 : decode cX12_row 34 = .ok (.aload_n 0, 1) := by decide +kernel
theorem dX12_row_35 : decode cX12_row 35 = .ok (.getfield 74, 3) := by decide +kernel
theorem dX12_row_38 : decode cX12_row 38 = .ok (.iload_n 1, 1) := by decide +kernel
theorem dX12_row_39 : decode cX12_row 39 = .ok (.bipush 50, 2) := by decide +kernel
theorem dX12_row_41 : decode cX12_row 41 = .ok (.iload_n 2, 1) := by decide +kernel
theorem dX12_row_42 : decode cX12_row 42 = .ok (.iadd, 1) := by decide +kernel
theorem dX12_row_43 : decode cX12_row 43 = .ok (.iastore, 1) := by decide +kernel
theorem dX12_row_44 : decode cX12_row 44 = .ok (.aload_n 0, 1) := by decide +kernel
theorem dX12_row_45 : decode cX12_row 45 = .ok (.getfield 77, 3) := by decide +kernel
theorem dX12_row_48 : decode cX12_row 48 = .ok (.iload_n 1, 1) := by decide +kernel
theorem dX12_row_49 : decode cX12_row 49 = .ok (.iload_n 3, 1) := by decide +kernel
theorem dX12_row_50 : decode cX12_row 50 = .ok (.iastore, 1) := by decide +kernel
theorem dX12_row_51 : decode cX12_row 51 = .ok (.bipush 60, 2) := by decide +kernel
theorem dX12_row_53 : decode cX12_row 53 = .ok (.iload_n 1, 1) := by decide +kernel
theorem dX12_row_54 : decode cX12_row 54 = .ok (.imul, 1) := by decide +kernel
theorem dX12_row_55 : decode cX12_row 55 = .ok (.istore 4, 2) := by decide +kernel
theorem dX12_row_57 : decode cX12_row 57 = .ok (.iload 4, 2) := by decide +kernel
theorem dX12_row_59 : decode cX12_row 59 = .ok (.bipush 60, 2) := by decide +kernel
theorem dX12_row_61 : decode cX12_row 61 = .ok (.iload_n 1, 1) := by decide +kernel
theorem dX12_row_62 : decode cX12_row 62 = .ok (.imul, 1) := by decide +kernel
theorem dX12_row_63 : decode cX12_row 63 = .ok (.bipush 60, 2) := by decide +kernel
theorem dX12_row_65 : decode cX12_row 65 = .ok (.iadd, 1) := by decide +kernel
theorem dX12_row_66 : decode cX12_row 66 = .ok (.if_icmp .ge 17, 3) := by decide +kernel
theorem dX12_row_69 : decode cX12_row 69 = .ok (.aload_n 0, 1) := by decide +kernel
theorem dX12_row_70 : decode cX12_row 70 = .ok (.getfield 80, 3) := by decide +kernel
theorem dX12_row_73 : decode cX12_row 73 = .ok (.iload 4, 2) := by decide +kernel
theorem dX12_row_75 : decode cX12_row 75 = .ok (.lconst 0, 1) := by decide +kernel
theorem dX12_row_76 : decode cX12_row 76 = .ok (.lastore, 1) := by decide +kernel
theorem dX12_row_77 : decode cX12_row 77 = .ok (.iinc 4 1, 3) := by decide +kernel
theorem dX12_row_80 : decode cX12_row 80 = .ok (.goto (-23), 3) := by decide +kernel
theorem dX12_row_83 : decode cX12_row 83 = .ok (.iconst 1, 1) := by decide +kernel
theorem dX12_row_84 : decode cX12_row 84 = .ok (.ireturn, 1) := by decide +kernel
theorem dX12_refusal_0 : decode cX12_refusal 0 = .ok (.iload_n 1, 1) := by decide +kernel
theorem dX12_refusal_1 : decode cX12_refusal 1 = .ok (.invokestatic 127, 3) := by decide +kernel
theorem dX12_refusal_4 : decode cX12_refusal 4 = .ok (.ifCond .ne 5, 3) := by decide +kernel
theorem dX12_refusal_7 : decode cX12_refusal 7 = .ok (.iconst (-1), 1) := by decide +kernel
theorem dX12_refusal_8 : decode cX12_refusal 8 = .ok (.ireturn, 1) := by decide +kernel
theorem dX12_refusal_9 : decode cX12_refusal 9 = .ok (.aload_n 0, 1) := by decide +kernel
theorem dX12_refusal_10 : decode cX12_refusal 10 = .ok (.getfield 74, 3) := by decide +kernel
theorem dX12_refusal_13 : decode cX12_refusal 13 = .ok (.iload_n 1, 1) := by decide +kernel
theorem dX12_refusal_14 : decode cX12_refusal 14 = .ok (.iaload, 1) := by decide +kernel
theorem dX12_refusal_15 : decode cX12_refusal 15 = .ok (.ifCond .ge 6, 3) := by decide +kernel
theorem dX12_refusal_18 : decode cX12_refusal 18 = .ok (.bipush (-11), 2) := by decide +kernel
theorem dX12_refusal_20 : decode cX12_refusal 20 = .ok (.ireturn, 1) := by decide +kernel
theorem dX12_put_0 : decode cX12_put 0 = .ok (.aload_n 0, 1) := by decide +kernel
theorem dX12_put_1 : decode cX12_put 1 = .ok (.iload_n 1, 1) := by decide +kernel
theorem dX12_put_2 : decode cX12_put 2 = .ok (.iload_n 2, 1) := by decide +kernel
theorem dX12_put_3 : decode cX12_put 3 = .ok (.invokevirtual 389, 3) := by decide +kernel
theorem dX12_put_6 : decode cX12_put 6 = .ok (.istore 5, 2) := by decide +kernel
theorem dX12_put_8 : decode cX12_put 8 = .ok (.iload 5, 2) := by decide +kernel
theorem dX12_put_10 : decode cX12_put 10 = .ok (.ifCond .ne 27, 3) := by decide +kernel
theorem dX12_put_37 : decode cX12_put 37 = .ok (.iload 5, 2) := by decide +kernel
theorem dX12_put_39 : decode cX12_put 39 = .ok (.ifCond .ne 7, 3) := by decide +kernel
theorem dX12_put_46 : decode cX12_put 46 = .ok (.iload 5, 2) := by decide +kernel
theorem dX12_put_48 : decode cX12_put 48 = .ok (.ireturn, 1) := by decide +kernel
theorem dX12_element_0 : decode cX12_element 0 = .ok (.aload_n 0, 1) := by decide +kernel
theorem dX12_element_1 : decode cX12_element 1 = .ok (.iload_n 1, 1) := by decide +kernel
theorem dX12_element_2 : decode cX12_element 2 = .ok (.iload_n 2, 1) := by decide +kernel
theorem dX12_element_3 : decode cX12_element 3 = .ok (.invokevirtual 389, 3) := by decide +kernel
theorem dX12_element_6 : decode cX12_element 6 = .ok (.ifCond .eq 9, 3) := by decide +kernel
theorem dX12_element_9 : decode cX12_element 9 = .ok (.ldc2_w 398, 3) := by decide +kernel
theorem dX12_element_12 : decode cX12_element 12 = .ok (.goto 14, 3) := by decide +kernel
theorem dX12_element_26 : decode cX12_element 26 = .ok (.lreturn, 1) := by decide +kernel
theorem dX12_shift_0 : decode cX12_shift 0 = .ok (.iload_n 1, 1) := by decide +kernel
theorem dX12_shift_1 : decode cX12_shift 1 = .ok (.invokestatic 127, 3) := by decide +kernel
theorem dX12_shift_4 : decode cX12_shift 4 = .ok (.ifCond .eq 10, 3) := by decide +kernel
theorem dX12_shift_7 : decode cX12_shift 7 = .ok (.iload_n 3, 1) := by decide +kernel
theorem dX12_shift_8 : decode cX12_shift 8 = .ok (.invokestatic 127, 3) := by decide +kernel
theorem dX12_shift_11 : decode cX12_shift 11 = .ok (.ifCond .ne 5, 3) := by decide +kernel
theorem dX12_shift_14 : decode cX12_shift 14 = .ok (.iconst (-1), 1) := by decide +kernel
theorem dX12_shift_15 : decode cX12_shift 15 = .ok (.ireturn, 1) := by decide +kernel
theorem dX12_shift_16 : decode cX12_shift 16 = .ok (.aload_n 0, 1) := by decide +kernel
theorem dX12_shift_17 : decode cX12_shift 17 = .ok (.getfield 74, 3) := by decide +kernel
theorem dX12_shift_20 : decode cX12_shift 20 = .ok (.iload_n 1, 1) := by decide +kernel
theorem dX12_shift_21 : decode cX12_shift 21 = .ok (.iaload, 1) := by decide +kernel
theorem dX12_shift_22 : decode cX12_shift 22 = .ok (.ifCond .lt 12, 3) := by decide +kernel
theorem dX12_shift_34 : decode cX12_shift 34 = .ok (.bipush (-11), 2) := by decide +kernel
theorem dX12_shift_36 : decode cX12_shift 36 = .ok (.ireturn, 1) := by decide +kernel
theorem dX12_taken_0 : decode cX12_taken 0 = .ok (.iload_n 1, 1) := by decide +kernel
theorem dX12_taken_1 : decode cX12_taken 1 = .ok (.invokestatic 127, 3) := by decide +kernel
theorem dX12_taken_4 : decode cX12_taken 4 = .ok (.ifCond .eq 15, 3) := by decide +kernel
theorem dX12_taken_7 : decode cX12_taken 7 = .ok (.iload_n 2, 1) := by decide +kernel
theorem dX12_taken_8 : decode cX12_taken 8 = .ok (.i2l, 1) := by decide +kernel
theorem dX12_taken_9 : decode cX12_taken 9 = .ok (.lconst 0, 1) := by decide +kernel
theorem dX12_taken_10 : decode cX12_taken 10 = .ok (.ldc2_w 133, 3) := by decide +kernel
theorem dX12_taken_13 : decode cX12_taken 13 = .ok (.invokestatic 109, 3) := by decide +kernel
theorem dX12_taken_16 : decode cX12_taken 16 = .ok (.ifCond .ne 5, 3) := by decide +kernel
theorem dX12_taken_19 : decode cX12_taken 19 = .ok (.iconst (-1), 1) := by decide +kernel
theorem dX12_taken_20 : decode cX12_taken 20 = .ok (.ireturn, 1) := by decide +kernel
theorem dX12_taken_21 : decode cX12_taken 21 = .ok (.aload_n 0, 1) := by decide +kernel
theorem dX12_taken_22 : decode cX12_taken 22 = .ok (.getfield 74, 3) := by decide +kernel
theorem dX12_taken_25 : decode cX12_taken 25 = .ok (.iload_n 1, 1) := by decide +kernel
theorem dX12_taken_26 : decode cX12_taken 26 = .ok (.iaload, 1) := by decide +kernel
theorem dX12_taken_27 : decode cX12_taken 27 = .ok (.ifCond .ge 6, 3) := by decide +kernel
theorem dX12_taken_30 : decode cX12_taken 30 = .ok (.bipush (-11), 2) := by decide +kernel
theorem dX12_taken_32 : decode cX12_taken 32 = .ok (.ireturn, 1) := by decide +kernel
theorem dX12_count_0 : decode cX12_count 0 = .ok (.iload_n 1, 1) := by decide +kernel
theorem dX12_count_1 : decode cX12_count 1 = .ok (.tableswitch 60 0 4 #[35, 40, 45, 50, 55], 35) := by decide +kernel
theorem dX12_count_36 : decode cX12_count 36 = .ok (.aload_n 0, 1) := by decide +kernel
theorem dX12_count_37 : decode cX12_count 37 = .ok (.getfield 106, 3) := by decide +kernel
theorem dX12_count_40 : decode cX12_count 40 = .ok (.ireturn, 1) := by decide +kernel
theorem dX12_count_41 : decode cX12_count 41 = .ok (.aload_n 0, 1) := by decide +kernel
theorem dX12_count_42 : decode cX12_count 42 = .ok (.getfield 156, 3) := by decide +kernel
theorem dX12_count_45 : decode cX12_count 45 = .ok (.ireturn, 1) := by decide +kernel
theorem dX12_count_46 : decode cX12_count 46 = .ok (.aload_n 0, 1) := by decide +kernel
theorem dX12_count_47 : decode cX12_count 47 = .ok (.getfield 100, 3) := by decide +kernel
theorem dX12_count_50 : decode cX12_count 50 = .ok (.ireturn, 1) := by decide +kernel
theorem dX12_count_51 : decode cX12_count 51 = .ok (.aload_n 0, 1) := by decide +kernel
theorem dX12_count_52 : decode cX12_count 52 = .ok (.getfield 355, 3) := by decide +kernel
theorem dX12_count_55 : decode cX12_count 55 = .ok (.ireturn, 1) := by decide +kernel
theorem dX12_count_56 : decode cX12_count 56 = .ok (.aload_n 0, 1) := by decide +kernel
theorem dX12_count_57 : decode cX12_count 57 = .ok (.getfield 358, 3) := by decide +kernel
theorem dX12_count_60 : decode cX12_count 60 = .ok (.ireturn, 1) := by decide +kernel
theorem dX12_count_61 : decode cX12_count 61 = .ok (.iconst (-1), 1) := by decide +kernel
theorem dX12_count_62 : decode cX12_count 62 = .ok (.ireturn, 1) := by decide +kernel
theorem dL_law_0 : decode cL_law 0 = .ok (.new 7, 3) := by decide +kernel
theorem dL_law_3 : decode cL_law 3 = .ok (.dup, 1) := by decide +kernel
theorem dL_law_4 : decode cL_law 4 = .ok (.invokespecial 9, 3) := by decide +kernel
theorem dL_law_7 : decode cL_law 7 = .ok (.astore_n 1, 1) := by decide +kernel
theorem dL_law_8 : decode cL_law 8 = .ok (.new 10, 3) := by decide +kernel
theorem dL_law_11 : decode cL_law 11 = .ok (.dup, 1) := by decide +kernel
theorem dL_law_12 : decode cL_law 12 = .ok (.invokespecial 12, 3) := by decide +kernel
theorem dL_law_15 : decode cL_law 15 = .ok (.astore_n 2, 1) := by decide +kernel
theorem dL_law_16 : decode cL_law 16 = .ok (.iconst 0, 1) := by decide +kernel
theorem dL_law_17 : decode cL_law 17 = .ok (.istore_n 3, 1) := by decide +kernel
theorem dL_law_18 : decode cL_law 18 = .ok (.iload_n 3, 1) := by decide +kernel
theorem dL_law_19 : decode cL_law 19 = .ok (.aload_n 0, 1) := by decide +kernel
theorem dL_law_20 : decode cL_law 20 = .ok (.arraylength, 1) := by decide +kernel
theorem dL_law_21 : decode cL_law 21 = .ok (.bipush 6, 2) := by decide +kernel
theorem dL_law_23 : decode cL_law 23 = .ok (.isub, 1) := by decide +kernel
theorem dL_law_24 : decode cL_law 24 = .ok (.if_icmp .gt 1561, 3) := by decide +kernel
theorem dL_law_27 : decode cL_law 27 = .ok (.aload_n 0, 1) := by decide +kernel
theorem dL_law_28 : decode cL_law 28 = .ok (.iload_n 3, 1) := by decide +kernel
theorem dL_law_29 : decode cL_law 29 = .ok (.iaload, 1) := by decide +kernel
theorem dL_law_30 : decode cL_law 30 = .ok (.bipush 63, 2) := by decide +kernel
theorem dL_law_32 : decode cL_law 32 = .ok (.iand, 1) := by decide +kernel
theorem dL_law_33 : decode cL_law 33 = .ok (.tableswitch 1546 0 39 #[175, 208, 251, 294, 327, 350, 363, 406, 449, 492, 525, 568, 611, 644, 687, 730, 773, 796, 839, 882, 925, 958, 1011, 1034, 1067, 1080, 1103, 1116, 1129, 1142, 1155, 1178, 1221, 1244, 1277, 1320, 1393, 1427, 1490, 1523], 175) := by decide +kernel
theorem dL_law_208 : decode cL_law 208 = .ok (.aload_n 1, 1) := by decide +kernel
theorem dL_law_209 : decode cL_law 209 = .ok (.aload_n 0, 1) := by decide +kernel
theorem dL_law_210 : decode cL_law 210 = .ok (.iload_n 3, 1) := by decide +kernel
theorem dL_law_211 : decode cL_law 211 = .ok (.iconst 1, 1) := by decide +kernel
theorem dL_law_212 : decode cL_law 212 = .ok (.iadd, 1) := by decide +kernel
theorem dL_law_213 : decode cL_law 213 = .ok (.iaload, 1) := by decide +kernel
theorem dL_law_214 : decode cL_law 214 = .ok (.aload_n 0, 1) := by decide +kernel
theorem dL_law_215 : decode cL_law 215 = .ok (.iload_n 3, 1) := by decide +kernel
theorem dL_law_216 : decode cL_law 216 = .ok (.iconst 2, 1) := by decide +kernel
theorem dL_law_217 : decode cL_law 217 = .ok (.iadd, 1) := by decide +kernel
theorem dL_law_218 : decode cL_law 218 = .ok (.iaload, 1) := by decide +kernel
theorem dL_law_219 : decode cL_law 219 = .ok (.invokevirtual 13, 3) := by decide +kernel
theorem dL_law_222 : decode cL_law 222 = .ok (.aload_n 2, 1) := by decide +kernel
theorem dL_law_223 : decode cL_law 223 = .ok (.aload_n 0, 1) := by decide +kernel
theorem dL_law_224 : decode cL_law 224 = .ok (.iload_n 3, 1) := by decide +kernel
theorem dL_law_225 : decode cL_law 225 = .ok (.iconst 1, 1) := by decide +kernel
theorem dL_law_226 : decode cL_law 226 = .ok (.iadd, 1) := by decide +kernel
theorem dL_law_227 : decode cL_law 227 = .ok (.iaload, 1) := by decide +kernel
theorem dL_law_228 : decode cL_law 228 = .ok (.aload_n 0, 1) := by decide +kernel
theorem dL_law_229 : decode cL_law 229 = .ok (.iload_n 3, 1) := by decide +kernel
theorem dL_law_230 : decode cL_law 230 = .ok (.iconst 2, 1) := by decide +kernel
theorem dL_law_231 : decode cL_law 231 = .ok (.iadd, 1) := by decide +kernel
theorem dL_law_232 : decode cL_law 232 = .ok (.iaload, 1) := by decide +kernel
theorem dL_law_233 : decode cL_law 233 = .ok (.invokevirtual 17, 3) := by decide +kernel
theorem dL_law_236 : decode cL_law 236 = .ok (.if_icmp .eq 1343, 3) := by decide +kernel
theorem dL_law_241 : decode cL_law 241 = .ok (.aload_n 1, 1) := by decide +kernel
theorem dL_law_242 : decode cL_law 242 = .ok (.aload_n 0, 1) := by decide +kernel
theorem dL_law_243 : decode cL_law 243 = .ok (.iload_n 3, 1) := by decide +kernel
theorem dL_law_244 : decode cL_law 244 = .ok (.iconst 1, 1) := by decide +kernel
theorem dL_law_245 : decode cL_law 245 = .ok (.iadd, 1) := by decide +kernel
theorem dL_law_246 : decode cL_law 246 = .ok (.iaload, 1) := by decide +kernel
theorem dL_law_247 : decode cL_law 247 = .ok (.aload_n 0, 1) := by decide +kernel
theorem dL_law_248 : decode cL_law 248 = .ok (.iload_n 3, 1) := by decide +kernel
theorem dL_law_249 : decode cL_law 249 = .ok (.iconst 2, 1) := by decide +kernel
theorem dL_law_250 : decode cL_law 250 = .ok (.iadd, 1) := by decide +kernel
theorem dL_law_251 : decode cL_law 251 = .ok (.iaload, 1) := by decide +kernel
theorem dL_law_252 : decode cL_law 252 = .ok (.aload_n 0, 1) := by decide +kernel
theorem dL_law_253 : decode cL_law 253 = .ok (.iload_n 3, 1) := by decide +kernel
theorem dL_law_254 : decode cL_law 254 = .ok (.iconst 3, 1) := by decide +kernel
theorem dL_law_255 : decode cL_law 255 = .ok (.iadd, 1) := by decide +kernel
theorem dL_law_256 : decode cL_law 256 = .ok (.iaload, 1) := by decide +kernel
theorem dL_law_257 : decode cL_law 257 = .ok (.invokevirtual 18, 3) := by decide +kernel
theorem dL_law_260 : decode cL_law 260 = .ok (.aload_n 2, 1) := by decide +kernel
theorem dL_law_261 : decode cL_law 261 = .ok (.aload_n 0, 1) := by decide +kernel
theorem dL_law_262 : decode cL_law 262 = .ok (.iload_n 3, 1) := by decide +kernel
theorem dL_law_263 : decode cL_law 263 = .ok (.iconst 1, 1) := by decide +kernel
theorem dL_law_264 : decode cL_law 264 = .ok (.iadd, 1) := by decide +kernel
theorem dL_law_265 : decode cL_law 265 = .ok (.iaload, 1) := by decide +kernel
theorem dL_law_266 : decode cL_law 266 = .ok (.aload_n 0, 1) := by decide +kernel
theorem dL_law_267 : decode cL_law 267 = .ok (.iload_n 3, 1) := by decide +kernel
theorem dL_law_268 : decode cL_law 268 = .ok (.iconst 2, 1) := by decide +kernel
theorem dL_law_269 : decode cL_law 269 = .ok (.iadd, 1) := by decide +kernel
theorem dL_law_270 : decode cL_law 270 = .ok (.iaload, 1) := by decide +kernel
theorem dL_law_271 : decode cL_law 271 = .ok (.aload_n 0, 1) := by decide +kernel
theorem dL_law_272 : decode cL_law 272 = .ok (.iload_n 3, 1) := by decide +kernel
theorem dL_law_273 : decode cL_law 273 = .ok (.iconst 3, 1) := by decide +kernel
theorem dL_law_274 : decode cL_law 274 = .ok (.iadd, 1) := by decide +kernel
theorem dL_law_275 : decode cL_law 275 = .ok (.iaload, 1) := by decide +kernel
theorem dL_law_276 : decode cL_law 276 = .ok (.invokevirtual 22, 3) := by decide +kernel
theorem dL_law_279 : decode cL_law 279 = .ok (.if_icmp .eq 1300, 3) := by decide +kernel
theorem dL_law_284 : decode cL_law 284 = .ok (.aload_n 1, 1) := by decide +kernel
theorem dL_law_285 : decode cL_law 285 = .ok (.aload_n 0, 1) := by decide +kernel
theorem dL_law_286 : decode cL_law 286 = .ok (.iload_n 3, 1) := by decide +kernel
theorem dL_law_287 : decode cL_law 287 = .ok (.iconst 1, 1) := by decide +kernel
theorem dL_law_288 : decode cL_law 288 = .ok (.iadd, 1) := by decide +kernel
theorem dL_law_289 : decode cL_law 289 = .ok (.iaload, 1) := by decide +kernel
theorem dL_law_290 : decode cL_law 290 = .ok (.aload_n 0, 1) := by decide +kernel
theorem dL_law_291 : decode cL_law 291 = .ok (.iload_n 3, 1) := by decide +kernel
theorem dL_law_292 : decode cL_law 292 = .ok (.iconst 2, 1) := by decide +kernel
theorem dL_law_293 : decode cL_law 293 = .ok (.iadd, 1) := by decide +kernel
theorem dL_law_294 : decode cL_law 294 = .ok (.iaload, 1) := by decide +kernel
theorem dL_law_295 : decode cL_law 295 = .ok (.aload_n 0, 1) := by decide +kernel
theorem dL_law_296 : decode cL_law 296 = .ok (.iload_n 3, 1) := by decide +kernel
theorem dL_law_297 : decode cL_law 297 = .ok (.iconst 3, 1) := by decide +kernel
theorem dL_law_298 : decode cL_law 298 = .ok (.iadd, 1) := by decide +kernel
theorem dL_law_299 : decode cL_law 299 = .ok (.iaload, 1) := by decide +kernel
theorem dL_law_300 : decode cL_law 300 = .ok (.invokevirtual 23, 3) := by decide +kernel
theorem dL_law_303 : decode cL_law 303 = .ok (.aload_n 2, 1) := by decide +kernel
theorem dL_law_304 : decode cL_law 304 = .ok (.aload_n 0, 1) := by decide +kernel
theorem dL_law_305 : decode cL_law 305 = .ok (.iload_n 3, 1) := by decide +kernel
theorem dL_law_306 : decode cL_law 306 = .ok (.iconst 1, 1) := by decide +kernel
theorem dL_law_307 : decode cL_law 307 = .ok (.iadd, 1) := by decide +kernel
theorem dL_law_308 : decode cL_law 308 = .ok (.iaload, 1) := by decide +kernel
theorem dL_law_309 : decode cL_law 309 = .ok (.aload_n 0, 1) := by decide +kernel
theorem dL_law_310 : decode cL_law 310 = .ok (.iload_n 3, 1) := by decide +kernel
theorem dL_law_311 : decode cL_law 311 = .ok (.iconst 2, 1) := by decide +kernel
theorem dL_law_312 : decode cL_law 312 = .ok (.iadd, 1) := by decide +kernel
theorem dL_law_313 : decode cL_law 313 = .ok (.iaload, 1) := by decide +kernel
theorem dL_law_314 : decode cL_law 314 = .ok (.aload_n 0, 1) := by decide +kernel
theorem dL_law_315 : decode cL_law 315 = .ok (.iload_n 3, 1) := by decide +kernel
theorem dL_law_316 : decode cL_law 316 = .ok (.iconst 3, 1) := by decide +kernel
theorem dL_law_317 : decode cL_law 317 = .ok (.iadd, 1) := by decide +kernel
theorem dL_law_318 : decode cL_law 318 = .ok (.iaload, 1) := by decide +kernel
theorem dL_law_319 : decode cL_law 319 = .ok (.invokevirtual 26, 3) := by decide +kernel
theorem dL_law_322 : decode cL_law 322 = .ok (.if_icmp .eq 1257, 3) := by decide +kernel
theorem dL_law_327 : decode cL_law 327 = .ok (.aload_n 1, 1) := by decide +kernel
theorem dL_law_328 : decode cL_law 328 = .ok (.aload_n 0, 1) := by decide +kernel
theorem dL_law_329 : decode cL_law 329 = .ok (.iload_n 3, 1) := by decide +kernel
theorem dL_law_330 : decode cL_law 330 = .ok (.iconst 1, 1) := by decide +kernel
theorem dL_law_331 : decode cL_law 331 = .ok (.iadd, 1) := by decide +kernel
theorem dL_law_332 : decode cL_law 332 = .ok (.iaload, 1) := by decide +kernel
theorem dL_law_333 : decode cL_law 333 = .ok (.aload_n 0, 1) := by decide +kernel
theorem dL_law_334 : decode cL_law 334 = .ok (.iload_n 3, 1) := by decide +kernel
theorem dL_law_335 : decode cL_law 335 = .ok (.iconst 2, 1) := by decide +kernel
theorem dL_law_336 : decode cL_law 336 = .ok (.iadd, 1) := by decide +kernel
theorem dL_law_337 : decode cL_law 337 = .ok (.iaload, 1) := by decide +kernel
theorem dL_law_338 : decode cL_law 338 = .ok (.invokevirtual 27, 3) := by decide +kernel
theorem dL_law_341 : decode cL_law 341 = .ok (.aload_n 2, 1) := by decide +kernel
theorem dL_law_342 : decode cL_law 342 = .ok (.aload_n 0, 1) := by decide +kernel
theorem dL_law_343 : decode cL_law 343 = .ok (.iload_n 3, 1) := by decide +kernel
theorem dL_law_344 : decode cL_law 344 = .ok (.iconst 1, 1) := by decide +kernel
theorem dL_law_345 : decode cL_law 345 = .ok (.iadd, 1) := by decide +kernel
theorem dL_law_346 : decode cL_law 346 = .ok (.iaload, 1) := by decide +kernel
theorem dL_law_347 : decode cL_law 347 = .ok (.aload_n 0, 1) := by decide +kernel
theorem dL_law_348 : decode cL_law 348 = .ok (.iload_n 3, 1) := by decide +kernel
theorem dL_law_349 : decode cL_law 349 = .ok (.iconst 2, 1) := by decide +kernel
theorem dL_law_350 : decode cL_law 350 = .ok (.iadd, 1) := by decide +kernel
theorem dL_law_351 : decode cL_law 351 = .ok (.iaload, 1) := by decide +kernel
theorem dL_law_352 : decode cL_law 352 = .ok (.invokevirtual 30, 3) := by decide +kernel
theorem dL_law_355 : decode cL_law 355 = .ok (.if_icmp .eq 1224, 3) := by decide +kernel
theorem dL_law_360 : decode cL_law 360 = .ok (.aload_n 1, 1) := by decide +kernel
theorem dL_law_361 : decode cL_law 361 = .ok (.aload_n 0, 1) := by decide +kernel
theorem dL_law_362 : decode cL_law 362 = .ok (.iload_n 3, 1) := by decide +kernel
theorem dL_law_363 : decode cL_law 363 = .ok (.iconst 1, 1) := by decide +kernel
theorem dL_law_364 : decode cL_law 364 = .ok (.iadd, 1) := by decide +kernel
theorem dL_law_365 : decode cL_law 365 = .ok (.iaload, 1) := by decide +kernel
theorem dL_law_366 : decode cL_law 366 = .ok (.invokevirtual 31, 3) := by decide +kernel
theorem dL_law_369 : decode cL_law 369 = .ok (.aload_n 2, 1) := by decide +kernel
theorem dL_law_370 : decode cL_law 370 = .ok (.aload_n 0, 1) := by decide +kernel
theorem dL_law_371 : decode cL_law 371 = .ok (.iload_n 3, 1) := by decide +kernel
theorem dL_law_372 : decode cL_law 372 = .ok (.iconst 1, 1) := by decide +kernel
theorem dL_law_373 : decode cL_law 373 = .ok (.iadd, 1) := by decide +kernel
theorem dL_law_374 : decode cL_law 374 = .ok (.iaload, 1) := by decide +kernel
theorem dL_law_375 : decode cL_law 375 = .ok (.invokevirtual 35, 3) := by decide +kernel
theorem dL_law_378 : decode cL_law 378 = .ok (.if_icmp .eq 1201, 3) := by decide +kernel
theorem dL_law_383 : decode cL_law 383 = .ok (.aload_n 1, 1) := by decide +kernel
theorem dL_law_384 : decode cL_law 384 = .ok (.invokevirtual 36, 3) := by decide +kernel
theorem dL_law_387 : decode cL_law 387 = .ok (.aload_n 2, 1) := by decide +kernel
theorem dL_law_388 : decode cL_law 388 = .ok (.invokevirtual 40, 3) := by decide +kernel
theorem dL_law_391 : decode cL_law 391 = .ok (.if_icmp .eq 1188, 3) := by decide +kernel
theorem dL_law_396 : decode cL_law 396 = .ok (.aload_n 1, 1) := by decide +kernel
theorem dL_law_397 : decode cL_law 397 = .ok (.aload_n 0, 1) := by decide +kernel
theorem dL_law_398 : decode cL_law 398 = .ok (.iload_n 3, 1) := by decide +kernel
theorem dL_law_399 : decode cL_law 399 = .ok (.iconst 1, 1) := by decide +kernel
theorem dL_law_400 : decode cL_law 400 = .ok (.iadd, 1) := by decide +kernel
theorem dL_law_401 : decode cL_law 401 = .ok (.iaload, 1) := by decide +kernel
theorem dL_law_402 : decode cL_law 402 = .ok (.aload_n 0, 1) := by decide +kernel
theorem dL_law_403 : decode cL_law 403 = .ok (.iload_n 3, 1) := by decide +kernel
theorem dL_law_404 : decode cL_law 404 = .ok (.iconst 2, 1) := by decide +kernel
theorem dL_law_405 : decode cL_law 405 = .ok (.iadd, 1) := by decide +kernel
theorem dL_law_406 : decode cL_law 406 = .ok (.iaload, 1) := by decide +kernel
theorem dL_law_407 : decode cL_law 407 = .ok (.aload_n 0, 1) := by decide +kernel
theorem dL_law_408 : decode cL_law 408 = .ok (.iload_n 3, 1) := by decide +kernel
theorem dL_law_409 : decode cL_law 409 = .ok (.iconst 3, 1) := by decide +kernel
theorem dL_law_410 : decode cL_law 410 = .ok (.iadd, 1) := by decide +kernel
theorem dL_law_411 : decode cL_law 411 = .ok (.iaload, 1) := by decide +kernel
theorem dL_law_412 : decode cL_law 412 = .ok (.invokevirtual 41, 3) := by decide +kernel
theorem dL_law_415 : decode cL_law 415 = .ok (.aload_n 2, 1) := by decide +kernel
theorem dL_law_416 : decode cL_law 416 = .ok (.aload_n 0, 1) := by decide +kernel
theorem dL_law_417 : decode cL_law 417 = .ok (.iload_n 3, 1) := by decide +kernel
theorem dL_law_418 : decode cL_law 418 = .ok (.iconst 1, 1) := by decide +kernel
theorem dL_law_419 : decode cL_law 419 = .ok (.iadd, 1) := by decide +kernel
theorem dL_law_420 : decode cL_law 420 = .ok (.iaload, 1) := by decide +kernel
theorem dL_law_421 : decode cL_law 421 = .ok (.aload_n 0, 1) := by decide +kernel
theorem dL_law_422 : decode cL_law 422 = .ok (.iload_n 3, 1) := by decide +kernel
theorem dL_law_423 : decode cL_law 423 = .ok (.iconst 2, 1) := by decide +kernel
theorem dL_law_424 : decode cL_law 424 = .ok (.iadd, 1) := by decide +kernel
theorem dL_law_425 : decode cL_law 425 = .ok (.iaload, 1) := by decide +kernel
theorem dL_law_426 : decode cL_law 426 = .ok (.aload_n 0, 1) := by decide +kernel
theorem dL_law_427 : decode cL_law 427 = .ok (.iload_n 3, 1) := by decide +kernel
theorem dL_law_428 : decode cL_law 428 = .ok (.iconst 3, 1) := by decide +kernel
theorem dL_law_429 : decode cL_law 429 = .ok (.iadd, 1) := by decide +kernel
theorem dL_law_430 : decode cL_law 430 = .ok (.iaload, 1) := by decide +kernel
theorem dL_law_431 : decode cL_law 431 = .ok (.invokevirtual 44, 3) := by decide +kernel
theorem dL_law_434 : decode cL_law 434 = .ok (.if_icmp .eq 1145, 3) := by decide +kernel
theorem dL_law_439 : decode cL_law 439 = .ok (.aload_n 1, 1) := by decide +kernel
theorem dL_law_440 : decode cL_law 440 = .ok (.aload_n 0, 1) := by decide +kernel
theorem dL_law_441 : decode cL_law 441 = .ok (.iload_n 3, 1) := by decide +kernel
theorem dL_law_442 : decode cL_law 442 = .ok (.iconst 1, 1) := by decide +kernel
theorem dL_law_443 : decode cL_law 443 = .ok (.iadd, 1) := by decide +kernel
theorem dL_law_444 : decode cL_law 444 = .ok (.iaload, 1) := by decide +kernel
theorem dL_law_445 : decode cL_law 445 = .ok (.aload_n 0, 1) := by decide +kernel
theorem dL_law_446 : decode cL_law 446 = .ok (.iload_n 3, 1) := by decide +kernel
theorem dL_law_447 : decode cL_law 447 = .ok (.iconst 2, 1) := by decide +kernel
theorem dL_law_448 : decode cL_law 448 = .ok (.iadd, 1) := by decide +kernel
theorem dL_law_449 : decode cL_law 449 = .ok (.iaload, 1) := by decide +kernel
theorem dL_law_450 : decode cL_law 450 = .ok (.aload_n 0, 1) := by decide +kernel
theorem dL_law_451 : decode cL_law 451 = .ok (.iload_n 3, 1) := by decide +kernel
theorem dL_law_452 : decode cL_law 452 = .ok (.iconst 3, 1) := by decide +kernel
theorem dL_law_453 : decode cL_law 453 = .ok (.iadd, 1) := by decide +kernel
theorem dL_law_454 : decode cL_law 454 = .ok (.iaload, 1) := by decide +kernel
theorem dL_law_455 : decode cL_law 455 = .ok (.invokevirtual 45, 3) := by decide +kernel
theorem dL_law_458 : decode cL_law 458 = .ok (.aload_n 2, 1) := by decide +kernel
theorem dL_law_459 : decode cL_law 459 = .ok (.aload_n 0, 1) := by decide +kernel
theorem dL_law_460 : decode cL_law 460 = .ok (.iload_n 3, 1) := by decide +kernel
theorem dL_law_461 : decode cL_law 461 = .ok (.iconst 1, 1) := by decide +kernel
theorem dL_law_462 : decode cL_law 462 = .ok (.iadd, 1) := by decide +kernel
theorem dL_law_463 : decode cL_law 463 = .ok (.iaload, 1) := by decide +kernel
theorem dL_law_464 : decode cL_law 464 = .ok (.aload_n 0, 1) := by decide +kernel
theorem dL_law_465 : decode cL_law 465 = .ok (.iload_n 3, 1) := by decide +kernel
theorem dL_law_466 : decode cL_law 466 = .ok (.iconst 2, 1) := by decide +kernel
theorem dL_law_467 : decode cL_law 467 = .ok (.iadd, 1) := by decide +kernel
theorem dL_law_468 : decode cL_law 468 = .ok (.iaload, 1) := by decide +kernel
theorem dL_law_469 : decode cL_law 469 = .ok (.aload_n 0, 1) := by decide +kernel
theorem dL_law_470 : decode cL_law 470 = .ok (.iload_n 3, 1) := by decide +kernel
theorem dL_law_471 : decode cL_law 471 = .ok (.iconst 3, 1) := by decide +kernel
theorem dL_law_472 : decode cL_law 472 = .ok (.iadd, 1) := by decide +kernel
theorem dL_law_473 : decode cL_law 473 = .ok (.iaload, 1) := by decide +kernel
theorem dL_law_474 : decode cL_law 474 = .ok (.invokevirtual 48, 3) := by decide +kernel
theorem dL_law_477 : decode cL_law 477 = .ok (.if_icmp .eq 1102, 3) := by decide +kernel
theorem dL_law_482 : decode cL_law 482 = .ok (.aload_n 1, 1) := by decide +kernel
theorem dL_law_483 : decode cL_law 483 = .ok (.aload_n 0, 1) := by decide +kernel
theorem dL_law_484 : decode cL_law 484 = .ok (.iload_n 3, 1) := by decide +kernel
theorem dL_law_485 : decode cL_law 485 = .ok (.iconst 1, 1) := by decide +kernel
theorem dL_law_486 : decode cL_law 486 = .ok (.iadd, 1) := by decide +kernel
theorem dL_law_487 : decode cL_law 487 = .ok (.iaload, 1) := by decide +kernel
theorem dL_law_488 : decode cL_law 488 = .ok (.aload_n 0, 1) := by decide +kernel
theorem dL_law_489 : decode cL_law 489 = .ok (.iload_n 3, 1) := by decide +kernel
theorem dL_law_490 : decode cL_law 490 = .ok (.iconst 2, 1) := by decide +kernel
theorem dL_law_491 : decode cL_law 491 = .ok (.iadd, 1) := by decide +kernel
theorem dL_law_492 : decode cL_law 492 = .ok (.iaload, 1) := by decide +kernel
theorem dL_law_493 : decode cL_law 493 = .ok (.aload_n 0, 1) := by decide +kernel
theorem dL_law_494 : decode cL_law 494 = .ok (.iload_n 3, 1) := by decide +kernel
theorem dL_law_495 : decode cL_law 495 = .ok (.iconst 3, 1) := by decide +kernel
theorem dL_law_496 : decode cL_law 496 = .ok (.iadd, 1) := by decide +kernel
theorem dL_law_497 : decode cL_law 497 = .ok (.iaload, 1) := by decide +kernel
theorem dL_law_498 : decode cL_law 498 = .ok (.invokevirtual 49, 3) := by decide +kernel
theorem dL_law_501 : decode cL_law 501 = .ok (.aload_n 2, 1) := by decide +kernel
theorem dL_law_502 : decode cL_law 502 = .ok (.aload_n 0, 1) := by decide +kernel
theorem dL_law_503 : decode cL_law 503 = .ok (.iload_n 3, 1) := by decide +kernel
theorem dL_law_504 : decode cL_law 504 = .ok (.iconst 1, 1) := by decide +kernel
theorem dL_law_505 : decode cL_law 505 = .ok (.iadd, 1) := by decide +kernel
theorem dL_law_506 : decode cL_law 506 = .ok (.iaload, 1) := by decide +kernel
theorem dL_law_507 : decode cL_law 507 = .ok (.aload_n 0, 1) := by decide +kernel
theorem dL_law_508 : decode cL_law 508 = .ok (.iload_n 3, 1) := by decide +kernel
theorem dL_law_509 : decode cL_law 509 = .ok (.iconst 2, 1) := by decide +kernel
theorem dL_law_510 : decode cL_law 510 = .ok (.iadd, 1) := by decide +kernel
theorem dL_law_511 : decode cL_law 511 = .ok (.iaload, 1) := by decide +kernel
theorem dL_law_512 : decode cL_law 512 = .ok (.aload_n 0, 1) := by decide +kernel
theorem dL_law_513 : decode cL_law 513 = .ok (.iload_n 3, 1) := by decide +kernel
theorem dL_law_514 : decode cL_law 514 = .ok (.iconst 3, 1) := by decide +kernel
theorem dL_law_515 : decode cL_law 515 = .ok (.iadd, 1) := by decide +kernel
theorem dL_law_516 : decode cL_law 516 = .ok (.iaload, 1) := by decide +kernel
theorem dL_law_517 : decode cL_law 517 = .ok (.invokevirtual 52, 3) := by decide +kernel
theorem dL_law_520 : decode cL_law 520 = .ok (.if_icmp .eq 1059, 3) := by decide +kernel
theorem dL_law_525 : decode cL_law 525 = .ok (.aload_n 1, 1) := by decide +kernel
theorem dL_law_526 : decode cL_law 526 = .ok (.aload_n 0, 1) := by decide +kernel
theorem dL_law_527 : decode cL_law 527 = .ok (.iload_n 3, 1) := by decide +kernel
theorem dL_law_528 : decode cL_law 528 = .ok (.iconst 1, 1) := by decide +kernel
theorem dL_law_529 : decode cL_law 529 = .ok (.iadd, 1) := by decide +kernel
theorem dL_law_530 : decode cL_law 530 = .ok (.iaload, 1) := by decide +kernel
theorem dL_law_531 : decode cL_law 531 = .ok (.aload_n 0, 1) := by decide +kernel
theorem dL_law_532 : decode cL_law 532 = .ok (.iload_n 3, 1) := by decide +kernel
theorem dL_law_533 : decode cL_law 533 = .ok (.iconst 2, 1) := by decide +kernel
theorem dL_law_534 : decode cL_law 534 = .ok (.iadd, 1) := by decide +kernel
theorem dL_law_535 : decode cL_law 535 = .ok (.iaload, 1) := by decide +kernel
theorem dL_law_536 : decode cL_law 536 = .ok (.invokevirtual 53, 3) := by decide +kernel
theorem dL_law_539 : decode cL_law 539 = .ok (.aload_n 2, 1) := by decide +kernel
theorem dL_law_540 : decode cL_law 540 = .ok (.aload_n 0, 1) := by decide +kernel
theorem dL_law_541 : decode cL_law 541 = .ok (.iload_n 3, 1) := by decide +kernel
theorem dL_law_542 : decode cL_law 542 = .ok (.iconst 1, 1) := by decide +kernel
theorem dL_law_543 : decode cL_law 543 = .ok (.iadd, 1) := by decide +kernel
theorem dL_law_544 : decode cL_law 544 = .ok (.iaload, 1) := by decide +kernel
theorem dL_law_545 : decode cL_law 545 = .ok (.aload_n 0, 1) := by decide +kernel
theorem dL_law_546 : decode cL_law 546 = .ok (.iload_n 3, 1) := by decide +kernel
theorem dL_law_547 : decode cL_law 547 = .ok (.iconst 2, 1) := by decide +kernel
theorem dL_law_548 : decode cL_law 548 = .ok (.iadd, 1) := by decide +kernel
theorem dL_law_549 : decode cL_law 549 = .ok (.iaload, 1) := by decide +kernel
theorem dL_law_550 : decode cL_law 550 = .ok (.invokevirtual 56, 3) := by decide +kernel
theorem dL_law_553 : decode cL_law 553 = .ok (.if_icmp .eq 1026, 3) := by decide +kernel
theorem dL_law_558 : decode cL_law 558 = .ok (.aload_n 1, 1) := by decide +kernel
theorem dL_law_559 : decode cL_law 559 = .ok (.aload_n 0, 1) := by decide +kernel
theorem dL_law_560 : decode cL_law 560 = .ok (.iload_n 3, 1) := by decide +kernel
theorem dL_law_561 : decode cL_law 561 = .ok (.iconst 1, 1) := by decide +kernel
theorem dL_law_562 : decode cL_law 562 = .ok (.iadd, 1) := by decide +kernel
theorem dL_law_563 : decode cL_law 563 = .ok (.iaload, 1) := by decide +kernel
theorem dL_law_564 : decode cL_law 564 = .ok (.aload_n 0, 1) := by decide +kernel
theorem dL_law_565 : decode cL_law 565 = .ok (.iload_n 3, 1) := by decide +kernel
theorem dL_law_566 : decode cL_law 566 = .ok (.iconst 2, 1) := by decide +kernel
theorem dL_law_567 : decode cL_law 567 = .ok (.iadd, 1) := by decide +kernel
theorem dL_law_568 : decode cL_law 568 = .ok (.iaload, 1) := by decide +kernel
theorem dL_law_569 : decode cL_law 569 = .ok (.aload_n 0, 1) := by decide +kernel
theorem dL_law_570 : decode cL_law 570 = .ok (.iload_n 3, 1) := by decide +kernel
theorem dL_law_571 : decode cL_law 571 = .ok (.iconst 3, 1) := by decide +kernel
theorem dL_law_572 : decode cL_law 572 = .ok (.iadd, 1) := by decide +kernel
theorem dL_law_573 : decode cL_law 573 = .ok (.iaload, 1) := by decide +kernel
theorem dL_law_574 : decode cL_law 574 = .ok (.invokevirtual 57, 3) := by decide +kernel
theorem dL_law_577 : decode cL_law 577 = .ok (.aload_n 2, 1) := by decide +kernel
theorem dL_law_578 : decode cL_law 578 = .ok (.aload_n 0, 1) := by decide +kernel
theorem dL_law_579 : decode cL_law 579 = .ok (.iload_n 3, 1) := by decide +kernel
theorem dL_law_580 : decode cL_law 580 = .ok (.iconst 1, 1) := by decide +kernel
theorem dL_law_581 : decode cL_law 581 = .ok (.iadd, 1) := by decide +kernel
theorem dL_law_582 : decode cL_law 582 = .ok (.iaload, 1) := by decide +kernel
theorem dL_law_583 : decode cL_law 583 = .ok (.aload_n 0, 1) := by decide +kernel
theorem dL_law_584 : decode cL_law 584 = .ok (.iload_n 3, 1) := by decide +kernel
theorem dL_law_585 : decode cL_law 585 = .ok (.iconst 2, 1) := by decide +kernel
theorem dL_law_586 : decode cL_law 586 = .ok (.iadd, 1) := by decide +kernel
theorem dL_law_587 : decode cL_law 587 = .ok (.iaload, 1) := by decide +kernel
theorem dL_law_588 : decode cL_law 588 = .ok (.aload_n 0, 1) := by decide +kernel
theorem dL_law_589 : decode cL_law 589 = .ok (.iload_n 3, 1) := by decide +kernel
theorem dL_law_590 : decode cL_law 590 = .ok (.iconst 3, 1) := by decide +kernel
theorem dL_law_591 : decode cL_law 591 = .ok (.iadd, 1) := by decide +kernel
theorem dL_law_592 : decode cL_law 592 = .ok (.iaload, 1) := by decide +kernel
theorem dL_law_593 : decode cL_law 593 = .ok (.invokevirtual 60, 3) := by decide +kernel
theorem dL_law_596 : decode cL_law 596 = .ok (.if_icmp .eq 983, 3) := by decide +kernel
theorem dL_law_601 : decode cL_law 601 = .ok (.aload_n 1, 1) := by decide +kernel
theorem dL_law_602 : decode cL_law 602 = .ok (.aload_n 0, 1) := by decide +kernel
theorem dL_law_603 : decode cL_law 603 = .ok (.iload_n 3, 1) := by decide +kernel
theorem dL_law_604 : decode cL_law 604 = .ok (.iconst 1, 1) := by decide +kernel
theorem dL_law_605 : decode cL_law 605 = .ok (.iadd, 1) := by decide +kernel
theorem dL_law_606 : decode cL_law 606 = .ok (.iaload, 1) := by decide +kernel
theorem dL_law_607 : decode cL_law 607 = .ok (.aload_n 0, 1) := by decide +kernel
theorem dL_law_608 : decode cL_law 608 = .ok (.iload_n 3, 1) := by decide +kernel
theorem dL_law_609 : decode cL_law 609 = .ok (.iconst 2, 1) := by decide +kernel
theorem dL_law_610 : decode cL_law 610 = .ok (.iadd, 1) := by decide +kernel
theorem dL_law_611 : decode cL_law 611 = .ok (.iaload, 1) := by decide +kernel
theorem dL_law_612 : decode cL_law 612 = .ok (.aload_n 0, 1) := by decide +kernel
theorem dL_law_613 : decode cL_law 613 = .ok (.iload_n 3, 1) := by decide +kernel
theorem dL_law_614 : decode cL_law 614 = .ok (.iconst 3, 1) := by decide +kernel
theorem dL_law_615 : decode cL_law 615 = .ok (.iadd, 1) := by decide +kernel
theorem dL_law_616 : decode cL_law 616 = .ok (.iaload, 1) := by decide +kernel
theorem dL_law_617 : decode cL_law 617 = .ok (.invokevirtual 61, 3) := by decide +kernel
theorem dL_law_620 : decode cL_law 620 = .ok (.aload_n 2, 1) := by decide +kernel
theorem dL_law_621 : decode cL_law 621 = .ok (.aload_n 0, 1) := by decide +kernel
theorem dL_law_622 : decode cL_law 622 = .ok (.iload_n 3, 1) := by decide +kernel
theorem dL_law_623 : decode cL_law 623 = .ok (.iconst 1, 1) := by decide +kernel
theorem dL_law_624 : decode cL_law 624 = .ok (.iadd, 1) := by decide +kernel
theorem dL_law_625 : decode cL_law 625 = .ok (.iaload, 1) := by decide +kernel
theorem dL_law_626 : decode cL_law 626 = .ok (.aload_n 0, 1) := by decide +kernel
theorem dL_law_627 : decode cL_law 627 = .ok (.iload_n 3, 1) := by decide +kernel
theorem dL_law_628 : decode cL_law 628 = .ok (.iconst 2, 1) := by decide +kernel
theorem dL_law_629 : decode cL_law 629 = .ok (.iadd, 1) := by decide +kernel
theorem dL_law_630 : decode cL_law 630 = .ok (.iaload, 1) := by decide +kernel
theorem dL_law_631 : decode cL_law 631 = .ok (.aload_n 0, 1) := by decide +kernel
theorem dL_law_632 : decode cL_law 632 = .ok (.iload_n 3, 1) := by decide +kernel
theorem dL_law_633 : decode cL_law 633 = .ok (.iconst 3, 1) := by decide +kernel
theorem dL_law_634 : decode cL_law 634 = .ok (.iadd, 1) := by decide +kernel
theorem dL_law_635 : decode cL_law 635 = .ok (.iaload, 1) := by decide +kernel
theorem dL_law_636 : decode cL_law 636 = .ok (.invokevirtual 64, 3) := by decide +kernel
theorem dL_law_639 : decode cL_law 639 = .ok (.if_icmp .eq 940, 3) := by decide +kernel
theorem dL_law_644 : decode cL_law 644 = .ok (.aload_n 1, 1) := by decide +kernel
theorem dL_law_645 : decode cL_law 645 = .ok (.aload_n 0, 1) := by decide +kernel
theorem dL_law_646 : decode cL_law 646 = .ok (.iload_n 3, 1) := by decide +kernel
theorem dL_law_647 : decode cL_law 647 = .ok (.iconst 1, 1) := by decide +kernel
theorem dL_law_648 : decode cL_law 648 = .ok (.iadd, 1) := by decide +kernel
theorem dL_law_649 : decode cL_law 649 = .ok (.iaload, 1) := by decide +kernel
theorem dL_law_650 : decode cL_law 650 = .ok (.aload_n 0, 1) := by decide +kernel
theorem dL_law_651 : decode cL_law 651 = .ok (.iload_n 3, 1) := by decide +kernel
theorem dL_law_652 : decode cL_law 652 = .ok (.iconst 2, 1) := by decide +kernel
theorem dL_law_653 : decode cL_law 653 = .ok (.iadd, 1) := by decide +kernel
theorem dL_law_654 : decode cL_law 654 = .ok (.iaload, 1) := by decide +kernel
theorem dL_law_655 : decode cL_law 655 = .ok (.invokevirtual 65, 3) := by decide +kernel
theorem dL_law_658 : decode cL_law 658 = .ok (.aload_n 2, 1) := by decide +kernel
theorem dL_law_659 : decode cL_law 659 = .ok (.aload_n 0, 1) := by decide +kernel
theorem dL_law_660 : decode cL_law 660 = .ok (.iload_n 3, 1) := by decide +kernel
theorem dL_law_661 : decode cL_law 661 = .ok (.iconst 1, 1) := by decide +kernel
theorem dL_law_662 : decode cL_law 662 = .ok (.iadd, 1) := by decide +kernel
theorem dL_law_663 : decode cL_law 663 = .ok (.iaload, 1) := by decide +kernel
theorem dL_law_664 : decode cL_law 664 = .ok (.aload_n 0, 1) := by decide +kernel
theorem dL_law_665 : decode cL_law 665 = .ok (.iload_n 3, 1) := by decide +kernel
theorem dL_law_666 : decode cL_law 666 = .ok (.iconst 2, 1) := by decide +kernel
theorem dL_law_667 : decode cL_law 667 = .ok (.iadd, 1) := by decide +kernel
theorem dL_law_668 : decode cL_law 668 = .ok (.iaload, 1) := by decide +kernel
theorem dL_law_669 : decode cL_law 669 = .ok (.invokevirtual 68, 3) := by decide +kernel
theorem dL_law_672 : decode cL_law 672 = .ok (.if_icmp .eq 907, 3) := by decide +kernel
theorem dL_law_677 : decode cL_law 677 = .ok (.aload_n 1, 1) := by decide +kernel
theorem dL_law_678 : decode cL_law 678 = .ok (.aload_n 0, 1) := by decide +kernel
theorem dL_law_679 : decode cL_law 679 = .ok (.iload_n 3, 1) := by decide +kernel
theorem dL_law_680 : decode cL_law 680 = .ok (.iconst 1, 1) := by decide +kernel
theorem dL_law_681 : decode cL_law 681 = .ok (.iadd, 1) := by decide +kernel
theorem dL_law_682 : decode cL_law 682 = .ok (.iaload, 1) := by decide +kernel
theorem dL_law_683 : decode cL_law 683 = .ok (.aload_n 0, 1) := by decide +kernel
theorem dL_law_684 : decode cL_law 684 = .ok (.iload_n 3, 1) := by decide +kernel
theorem dL_law_685 : decode cL_law 685 = .ok (.iconst 2, 1) := by decide +kernel
theorem dL_law_686 : decode cL_law 686 = .ok (.iadd, 1) := by decide +kernel
theorem dL_law_687 : decode cL_law 687 = .ok (.iaload, 1) := by decide +kernel
theorem dL_law_688 : decode cL_law 688 = .ok (.aload_n 0, 1) := by decide +kernel
theorem dL_law_689 : decode cL_law 689 = .ok (.iload_n 3, 1) := by decide +kernel
theorem dL_law_690 : decode cL_law 690 = .ok (.iconst 3, 1) := by decide +kernel
theorem dL_law_691 : decode cL_law 691 = .ok (.iadd, 1) := by decide +kernel
theorem dL_law_692 : decode cL_law 692 = .ok (.iaload, 1) := by decide +kernel
theorem dL_law_693 : decode cL_law 693 = .ok (.invokevirtual 69, 3) := by decide +kernel
theorem dL_law_696 : decode cL_law 696 = .ok (.aload_n 2, 1) := by decide +kernel
theorem dL_law_697 : decode cL_law 697 = .ok (.aload_n 0, 1) := by decide +kernel
theorem dL_law_698 : decode cL_law 698 = .ok (.iload_n 3, 1) := by decide +kernel
theorem dL_law_699 : decode cL_law 699 = .ok (.iconst 1, 1) := by decide +kernel
theorem dL_law_700 : decode cL_law 700 = .ok (.iadd, 1) := by decide +kernel
theorem dL_law_701 : decode cL_law 701 = .ok (.iaload, 1) := by decide +kernel
theorem dL_law_702 : decode cL_law 702 = .ok (.aload_n 0, 1) := by decide +kernel
theorem dL_law_703 : decode cL_law 703 = .ok (.iload_n 3, 1) := by decide +kernel
theorem dL_law_704 : decode cL_law 704 = .ok (.iconst 2, 1) := by decide +kernel
theorem dL_law_705 : decode cL_law 705 = .ok (.iadd, 1) := by decide +kernel
theorem dL_law_706 : decode cL_law 706 = .ok (.iaload, 1) := by decide +kernel
theorem dL_law_707 : decode cL_law 707 = .ok (.aload_n 0, 1) := by decide +kernel
theorem dL_law_708 : decode cL_law 708 = .ok (.iload_n 3, 1) := by decide +kernel
theorem dL_law_709 : decode cL_law 709 = .ok (.iconst 3, 1) := by decide +kernel
theorem dL_law_710 : decode cL_law 710 = .ok (.iadd, 1) := by decide +kernel
theorem dL_law_711 : decode cL_law 711 = .ok (.iaload, 1) := by decide +kernel
theorem dL_law_712 : decode cL_law 712 = .ok (.invokevirtual 72, 3) := by decide +kernel
theorem dL_law_715 : decode cL_law 715 = .ok (.if_icmp .eq 864, 3) := by decide +kernel
theorem dL_law_720 : decode cL_law 720 = .ok (.aload_n 1, 1) := by decide +kernel
theorem dL_law_721 : decode cL_law 721 = .ok (.aload_n 0, 1) := by decide +kernel
theorem dL_law_722 : decode cL_law 722 = .ok (.iload_n 3, 1) := by decide +kernel
theorem dL_law_723 : decode cL_law 723 = .ok (.iconst 1, 1) := by decide +kernel
theorem dL_law_724 : decode cL_law 724 = .ok (.iadd, 1) := by decide +kernel
theorem dL_law_725 : decode cL_law 725 = .ok (.iaload, 1) := by decide +kernel
theorem dL_law_726 : decode cL_law 726 = .ok (.aload_n 0, 1) := by decide +kernel
theorem dL_law_727 : decode cL_law 727 = .ok (.iload_n 3, 1) := by decide +kernel
theorem dL_law_728 : decode cL_law 728 = .ok (.iconst 2, 1) := by decide +kernel
theorem dL_law_729 : decode cL_law 729 = .ok (.iadd, 1) := by decide +kernel
theorem dL_law_730 : decode cL_law 730 = .ok (.iaload, 1) := by decide +kernel
theorem dL_law_731 : decode cL_law 731 = .ok (.aload_n 0, 1) := by decide +kernel
theorem dL_law_732 : decode cL_law 732 = .ok (.iload_n 3, 1) := by decide +kernel
theorem dL_law_733 : decode cL_law 733 = .ok (.iconst 3, 1) := by decide +kernel
theorem dL_law_734 : decode cL_law 734 = .ok (.iadd, 1) := by decide +kernel
theorem dL_law_735 : decode cL_law 735 = .ok (.iaload, 1) := by decide +kernel
theorem dL_law_736 : decode cL_law 736 = .ok (.invokevirtual 73, 3) := by decide +kernel
theorem dL_law_739 : decode cL_law 739 = .ok (.aload_n 2, 1) := by decide +kernel
theorem dL_law_740 : decode cL_law 740 = .ok (.aload_n 0, 1) := by decide +kernel
theorem dL_law_741 : decode cL_law 741 = .ok (.iload_n 3, 1) := by decide +kernel
theorem dL_law_742 : decode cL_law 742 = .ok (.iconst 1, 1) := by decide +kernel
theorem dL_law_743 : decode cL_law 743 = .ok (.iadd, 1) := by decide +kernel
theorem dL_law_744 : decode cL_law 744 = .ok (.iaload, 1) := by decide +kernel
theorem dL_law_745 : decode cL_law 745 = .ok (.aload_n 0, 1) := by decide +kernel
theorem dL_law_746 : decode cL_law 746 = .ok (.iload_n 3, 1) := by decide +kernel
theorem dL_law_747 : decode cL_law 747 = .ok (.iconst 2, 1) := by decide +kernel
theorem dL_law_748 : decode cL_law 748 = .ok (.iadd, 1) := by decide +kernel
theorem dL_law_749 : decode cL_law 749 = .ok (.iaload, 1) := by decide +kernel
theorem dL_law_750 : decode cL_law 750 = .ok (.aload_n 0, 1) := by decide +kernel
theorem dL_law_751 : decode cL_law 751 = .ok (.iload_n 3, 1) := by decide +kernel
theorem dL_law_752 : decode cL_law 752 = .ok (.iconst 3, 1) := by decide +kernel
theorem dL_law_753 : decode cL_law 753 = .ok (.iadd, 1) := by decide +kernel
theorem dL_law_754 : decode cL_law 754 = .ok (.iaload, 1) := by decide +kernel
theorem dL_law_755 : decode cL_law 755 = .ok (.invokevirtual 76, 3) := by decide +kernel
theorem dL_law_758 : decode cL_law 758 = .ok (.if_icmp .eq 821, 3) := by decide +kernel
theorem dL_law_763 : decode cL_law 763 = .ok (.aload_n 1, 1) := by decide +kernel
theorem dL_law_764 : decode cL_law 764 = .ok (.aload_n 0, 1) := by decide +kernel
theorem dL_law_765 : decode cL_law 765 = .ok (.iload_n 3, 1) := by decide +kernel
theorem dL_law_766 : decode cL_law 766 = .ok (.iconst 1, 1) := by decide +kernel
theorem dL_law_767 : decode cL_law 767 = .ok (.iadd, 1) := by decide +kernel
theorem dL_law_768 : decode cL_law 768 = .ok (.iaload, 1) := by decide +kernel
theorem dL_law_769 : decode cL_law 769 = .ok (.aload_n 0, 1) := by decide +kernel
theorem dL_law_770 : decode cL_law 770 = .ok (.iload_n 3, 1) := by decide +kernel
theorem dL_law_771 : decode cL_law 771 = .ok (.iconst 2, 1) := by decide +kernel
theorem dL_law_772 : decode cL_law 772 = .ok (.iadd, 1) := by decide +kernel
theorem dL_law_773 : decode cL_law 773 = .ok (.iaload, 1) := by decide +kernel
theorem dL_law_774 : decode cL_law 774 = .ok (.aload_n 0, 1) := by decide +kernel
theorem dL_law_775 : decode cL_law 775 = .ok (.iload_n 3, 1) := by decide +kernel
theorem dL_law_776 : decode cL_law 776 = .ok (.iconst 3, 1) := by decide +kernel
theorem dL_law_777 : decode cL_law 777 = .ok (.iadd, 1) := by decide +kernel
theorem dL_law_778 : decode cL_law 778 = .ok (.iaload, 1) := by decide +kernel
theorem dL_law_779 : decode cL_law 779 = .ok (.invokevirtual 77, 3) := by decide +kernel
theorem dL_law_782 : decode cL_law 782 = .ok (.aload_n 2, 1) := by decide +kernel
theorem dL_law_783 : decode cL_law 783 = .ok (.aload_n 0, 1) := by decide +kernel
theorem dL_law_784 : decode cL_law 784 = .ok (.iload_n 3, 1) := by decide +kernel
theorem dL_law_785 : decode cL_law 785 = .ok (.iconst 1, 1) := by decide +kernel
theorem dL_law_786 : decode cL_law 786 = .ok (.iadd, 1) := by decide +kernel
theorem dL_law_787 : decode cL_law 787 = .ok (.iaload, 1) := by decide +kernel
theorem dL_law_788 : decode cL_law 788 = .ok (.aload_n 0, 1) := by decide +kernel
theorem dL_law_789 : decode cL_law 789 = .ok (.iload_n 3, 1) := by decide +kernel
theorem dL_law_790 : decode cL_law 790 = .ok (.iconst 2, 1) := by decide +kernel
theorem dL_law_791 : decode cL_law 791 = .ok (.iadd, 1) := by decide +kernel
theorem dL_law_792 : decode cL_law 792 = .ok (.iaload, 1) := by decide +kernel
theorem dL_law_793 : decode cL_law 793 = .ok (.aload_n 0, 1) := by decide +kernel
theorem dL_law_794 : decode cL_law 794 = .ok (.iload_n 3, 1) := by decide +kernel
theorem dL_law_795 : decode cL_law 795 = .ok (.iconst 3, 1) := by decide +kernel
theorem dL_law_796 : decode cL_law 796 = .ok (.iadd, 1) := by decide +kernel
theorem dL_law_797 : decode cL_law 797 = .ok (.iaload, 1) := by decide +kernel
theorem dL_law_798 : decode cL_law 798 = .ok (.invokevirtual 80, 3) := by decide +kernel
theorem dL_law_801 : decode cL_law 801 = .ok (.if_icmp .eq 778, 3) := by decide +kernel
theorem dL_law_806 : decode cL_law 806 = .ok (.aload_n 1, 1) := by decide +kernel
theorem dL_law_807 : decode cL_law 807 = .ok (.aload_n 0, 1) := by decide +kernel
theorem dL_law_808 : decode cL_law 808 = .ok (.iload_n 3, 1) := by decide +kernel
theorem dL_law_809 : decode cL_law 809 = .ok (.iconst 1, 1) := by decide +kernel
theorem dL_law_810 : decode cL_law 810 = .ok (.iadd, 1) := by decide +kernel
theorem dL_law_811 : decode cL_law 811 = .ok (.iaload, 1) := by decide +kernel
theorem dL_law_812 : decode cL_law 812 = .ok (.invokevirtual 81, 3) := by decide +kernel
theorem dL_law_815 : decode cL_law 815 = .ok (.aload_n 2, 1) := by decide +kernel
theorem dL_law_816 : decode cL_law 816 = .ok (.aload_n 0, 1) := by decide +kernel
theorem dL_law_817 : decode cL_law 817 = .ok (.iload_n 3, 1) := by decide +kernel
theorem dL_law_818 : decode cL_law 818 = .ok (.iconst 1, 1) := by decide +kernel
theorem dL_law_819 : decode cL_law 819 = .ok (.iadd, 1) := by decide +kernel
theorem dL_law_820 : decode cL_law 820 = .ok (.iaload, 1) := by decide +kernel
theorem dL_law_821 : decode cL_law 821 = .ok (.invokevirtual 84, 3) := by decide +kernel
theorem dL_law_824 : decode cL_law 824 = .ok (.if_icmp .eq 755, 3) := by decide +kernel
theorem dL_law_829 : decode cL_law 829 = .ok (.aload_n 1, 1) := by decide +kernel
theorem dL_law_830 : decode cL_law 830 = .ok (.aload_n 0, 1) := by decide +kernel
theorem dL_law_831 : decode cL_law 831 = .ok (.iload_n 3, 1) := by decide +kernel
theorem dL_law_832 : decode cL_law 832 = .ok (.iconst 1, 1) := by decide +kernel
theorem dL_law_833 : decode cL_law 833 = .ok (.iadd, 1) := by decide +kernel
theorem dL_law_834 : decode cL_law 834 = .ok (.iaload, 1) := by decide +kernel
theorem dL_law_835 : decode cL_law 835 = .ok (.aload_n 0, 1) := by decide +kernel
theorem dL_law_836 : decode cL_law 836 = .ok (.iload_n 3, 1) := by decide +kernel
theorem dL_law_837 : decode cL_law 837 = .ok (.iconst 2, 1) := by decide +kernel
theorem dL_law_838 : decode cL_law 838 = .ok (.iadd, 1) := by decide +kernel
theorem dL_law_839 : decode cL_law 839 = .ok (.iaload, 1) := by decide +kernel
theorem dL_law_840 : decode cL_law 840 = .ok (.aload_n 0, 1) := by decide +kernel
theorem dL_law_841 : decode cL_law 841 = .ok (.iload_n 3, 1) := by decide +kernel
theorem dL_law_842 : decode cL_law 842 = .ok (.iconst 3, 1) := by decide +kernel
theorem dL_law_843 : decode cL_law 843 = .ok (.iadd, 1) := by decide +kernel
theorem dL_law_844 : decode cL_law 844 = .ok (.iaload, 1) := by decide +kernel
theorem dL_law_845 : decode cL_law 845 = .ok (.invokevirtual 85, 3) := by decide +kernel
theorem dL_law_848 : decode cL_law 848 = .ok (.aload_n 2, 1) := by decide +kernel
theorem dL_law_849 : decode cL_law 849 = .ok (.aload_n 0, 1) := by decide +kernel
theorem dL_law_850 : decode cL_law 850 = .ok (.iload_n 3, 1) := by decide +kernel
theorem dL_law_851 : decode cL_law 851 = .ok (.iconst 1, 1) := by decide +kernel
theorem dL_law_852 : decode cL_law 852 = .ok (.iadd, 1) := by decide +kernel
theorem dL_law_853 : decode cL_law 853 = .ok (.iaload, 1) := by decide +kernel
theorem dL_law_854 : decode cL_law 854 = .ok (.aload_n 0, 1) := by decide +kernel
theorem dL_law_855 : decode cL_law 855 = .ok (.iload_n 3, 1) := by decide +kernel
theorem dL_law_856 : decode cL_law 856 = .ok (.iconst 2, 1) := by decide +kernel
theorem dL_law_857 : decode cL_law 857 = .ok (.iadd, 1) := by decide +kernel
theorem dL_law_858 : decode cL_law 858 = .ok (.iaload, 1) := by decide +kernel
theorem dL_law_859 : decode cL_law 859 = .ok (.aload_n 0, 1) := by decide +kernel
theorem dL_law_860 : decode cL_law 860 = .ok (.iload_n 3, 1) := by decide +kernel
theorem dL_law_861 : decode cL_law 861 = .ok (.iconst 3, 1) := by decide +kernel
theorem dL_law_862 : decode cL_law 862 = .ok (.iadd, 1) := by decide +kernel
theorem dL_law_863 : decode cL_law 863 = .ok (.iaload, 1) := by decide +kernel
theorem dL_law_864 : decode cL_law 864 = .ok (.invokevirtual 88, 3) := by decide +kernel
theorem dL_law_867 : decode cL_law 867 = .ok (.if_icmp .eq 712, 3) := by decide +kernel
theorem dL_law_872 : decode cL_law 872 = .ok (.aload_n 1, 1) := by decide +kernel
theorem dL_law_873 : decode cL_law 873 = .ok (.aload_n 0, 1) := by decide +kernel
theorem dL_law_874 : decode cL_law 874 = .ok (.iload_n 3, 1) := by decide +kernel
theorem dL_law_875 : decode cL_law 875 = .ok (.iconst 1, 1) := by decide +kernel
theorem dL_law_876 : decode cL_law 876 = .ok (.iadd, 1) := by decide +kernel
theorem dL_law_877 : decode cL_law 877 = .ok (.iaload, 1) := by decide +kernel
theorem dL_law_878 : decode cL_law 878 = .ok (.aload_n 0, 1) := by decide +kernel
theorem dL_law_879 : decode cL_law 879 = .ok (.iload_n 3, 1) := by decide +kernel
theorem dL_law_880 : decode cL_law 880 = .ok (.iconst 2, 1) := by decide +kernel
theorem dL_law_881 : decode cL_law 881 = .ok (.iadd, 1) := by decide +kernel
theorem dL_law_882 : decode cL_law 882 = .ok (.iaload, 1) := by decide +kernel
theorem dL_law_883 : decode cL_law 883 = .ok (.aload_n 0, 1) := by decide +kernel
theorem dL_law_884 : decode cL_law 884 = .ok (.iload_n 3, 1) := by decide +kernel
theorem dL_law_885 : decode cL_law 885 = .ok (.iconst 3, 1) := by decide +kernel
theorem dL_law_886 : decode cL_law 886 = .ok (.iadd, 1) := by decide +kernel
theorem dL_law_887 : decode cL_law 887 = .ok (.iaload, 1) := by decide +kernel
theorem dL_law_888 : decode cL_law 888 = .ok (.invokevirtual 89, 3) := by decide +kernel
theorem dL_law_891 : decode cL_law 891 = .ok (.aload_n 2, 1) := by decide +kernel
theorem dL_law_892 : decode cL_law 892 = .ok (.aload_n 0, 1) := by decide +kernel
theorem dL_law_893 : decode cL_law 893 = .ok (.iload_n 3, 1) := by decide +kernel
theorem dL_law_894 : decode cL_law 894 = .ok (.iconst 1, 1) := by decide +kernel
theorem dL_law_895 : decode cL_law 895 = .ok (.iadd, 1) := by decide +kernel
theorem dL_law_896 : decode cL_law 896 = .ok (.iaload, 1) := by decide +kernel
theorem dL_law_897 : decode cL_law 897 = .ok (.aload_n 0, 1) := by decide +kernel
theorem dL_law_898 : decode cL_law 898 = .ok (.iload_n 3, 1) := by decide +kernel
theorem dL_law_899 : decode cL_law 899 = .ok (.iconst 2, 1) := by decide +kernel
theorem dL_law_900 : decode cL_law 900 = .ok (.iadd, 1) := by decide +kernel
theorem dL_law_901 : decode cL_law 901 = .ok (.iaload, 1) := by decide +kernel
theorem dL_law_902 : decode cL_law 902 = .ok (.aload_n 0, 1) := by decide +kernel
theorem dL_law_903 : decode cL_law 903 = .ok (.iload_n 3, 1) := by decide +kernel
theorem dL_law_904 : decode cL_law 904 = .ok (.iconst 3, 1) := by decide +kernel
theorem dL_law_905 : decode cL_law 905 = .ok (.iadd, 1) := by decide +kernel
theorem dL_law_906 : decode cL_law 906 = .ok (.iaload, 1) := by decide +kernel
theorem dL_law_907 : decode cL_law 907 = .ok (.invokevirtual 92, 3) := by decide +kernel
theorem dL_law_910 : decode cL_law 910 = .ok (.if_icmp .eq 669, 3) := by decide +kernel
theorem dL_law_915 : decode cL_law 915 = .ok (.aload_n 1, 1) := by decide +kernel
theorem dL_law_916 : decode cL_law 916 = .ok (.aload_n 0, 1) := by decide +kernel
theorem dL_law_917 : decode cL_law 917 = .ok (.iload_n 3, 1) := by decide +kernel
theorem dL_law_918 : decode cL_law 918 = .ok (.iconst 1, 1) := by decide +kernel
theorem dL_law_919 : decode cL_law 919 = .ok (.iadd, 1) := by decide +kernel
theorem dL_law_920 : decode cL_law 920 = .ok (.iaload, 1) := by decide +kernel
theorem dL_law_921 : decode cL_law 921 = .ok (.aload_n 0, 1) := by decide +kernel
theorem dL_law_922 : decode cL_law 922 = .ok (.iload_n 3, 1) := by decide +kernel
theorem dL_law_923 : decode cL_law 923 = .ok (.iconst 2, 1) := by decide +kernel
theorem dL_law_924 : decode cL_law 924 = .ok (.iadd, 1) := by decide +kernel
theorem dL_law_925 : decode cL_law 925 = .ok (.iaload, 1) := by decide +kernel
theorem dL_law_926 : decode cL_law 926 = .ok (.aload_n 0, 1) := by decide +kernel
theorem dL_law_927 : decode cL_law 927 = .ok (.iload_n 3, 1) := by decide +kernel
theorem dL_law_928 : decode cL_law 928 = .ok (.iconst 3, 1) := by decide +kernel
theorem dL_law_929 : decode cL_law 929 = .ok (.iadd, 1) := by decide +kernel
theorem dL_law_930 : decode cL_law 930 = .ok (.iaload, 1) := by decide +kernel
theorem dL_law_931 : decode cL_law 931 = .ok (.invokevirtual 93, 3) := by decide +kernel
theorem dL_law_934 : decode cL_law 934 = .ok (.aload_n 2, 1) := by decide +kernel
theorem dL_law_935 : decode cL_law 935 = .ok (.aload_n 0, 1) := by decide +kernel
theorem dL_law_936 : decode cL_law 936 = .ok (.iload_n 3, 1) := by decide +kernel
theorem dL_law_937 : decode cL_law 937 = .ok (.iconst 1, 1) := by decide +kernel
theorem dL_law_938 : decode cL_law 938 = .ok (.iadd, 1) := by decide +kernel
theorem dL_law_939 : decode cL_law 939 = .ok (.iaload, 1) := by decide +kernel
theorem dL_law_940 : decode cL_law 940 = .ok (.aload_n 0, 1) := by decide +kernel
theorem dL_law_941 : decode cL_law 941 = .ok (.iload_n 3, 1) := by decide +kernel
theorem dL_law_942 : decode cL_law 942 = .ok (.iconst 2, 1) := by decide +kernel
theorem dL_law_943 : decode cL_law 943 = .ok (.iadd, 1) := by decide +kernel
theorem dL_law_944 : decode cL_law 944 = .ok (.iaload, 1) := by decide +kernel
theorem dL_law_945 : decode cL_law 945 = .ok (.aload_n 0, 1) := by decide +kernel
theorem dL_law_946 : decode cL_law 946 = .ok (.iload_n 3, 1) := by decide +kernel
theorem dL_law_947 : decode cL_law 947 = .ok (.iconst 3, 1) := by decide +kernel
theorem dL_law_948 : decode cL_law 948 = .ok (.iadd, 1) := by decide +kernel
theorem dL_law_949 : decode cL_law 949 = .ok (.iaload, 1) := by decide +kernel
theorem dL_law_950 : decode cL_law 950 = .ok (.invokevirtual 96, 3) := by decide +kernel
theorem dL_law_953 : decode cL_law 953 = .ok (.if_icmp .eq 626, 3) := by decide +kernel
theorem dL_law_958 : decode cL_law 958 = .ok (.aload_n 1, 1) := by decide +kernel
theorem dL_law_959 : decode cL_law 959 = .ok (.aload_n 0, 1) := by decide +kernel
theorem dL_law_960 : decode cL_law 960 = .ok (.iload_n 3, 1) := by decide +kernel
theorem dL_law_961 : decode cL_law 961 = .ok (.iconst 1, 1) := by decide +kernel
theorem dL_law_962 : decode cL_law 962 = .ok (.iadd, 1) := by decide +kernel
theorem dL_law_963 : decode cL_law 963 = .ok (.iaload, 1) := by decide +kernel
theorem dL_law_964 : decode cL_law 964 = .ok (.aload_n 0, 1) := by decide +kernel
theorem dL_law_965 : decode cL_law 965 = .ok (.iload_n 3, 1) := by decide +kernel
theorem dL_law_966 : decode cL_law 966 = .ok (.iconst 2, 1) := by decide +kernel
theorem dL_law_967 : decode cL_law 967 = .ok (.iadd, 1) := by decide +kernel
theorem dL_law_968 : decode cL_law 968 = .ok (.iaload, 1) := by decide +kernel
theorem dL_law_969 : decode cL_law 969 = .ok (.invokevirtual 97, 3) := by decide +kernel
theorem dL_law_972 : decode cL_law 972 = .ok (.aload_n 2, 1) := by decide +kernel
theorem dL_law_973 : decode cL_law 973 = .ok (.aload_n 0, 1) := by decide +kernel
theorem dL_law_974 : decode cL_law 974 = .ok (.iload_n 3, 1) := by decide +kernel
theorem dL_law_975 : decode cL_law 975 = .ok (.iconst 1, 1) := by decide +kernel
theorem dL_law_976 : decode cL_law 976 = .ok (.iadd, 1) := by decide +kernel
theorem dL_law_977 : decode cL_law 977 = .ok (.iaload, 1) := by decide +kernel
theorem dL_law_978 : decode cL_law 978 = .ok (.aload_n 0, 1) := by decide +kernel
theorem dL_law_979 : decode cL_law 979 = .ok (.iload_n 3, 1) := by decide +kernel
theorem dL_law_980 : decode cL_law 980 = .ok (.iconst 2, 1) := by decide +kernel
theorem dL_law_981 : decode cL_law 981 = .ok (.iadd, 1) := by decide +kernel
theorem dL_law_982 : decode cL_law 982 = .ok (.iaload, 1) := by decide +kernel
theorem dL_law_983 : decode cL_law 983 = .ok (.invokevirtual 100, 3) := by decide +kernel
theorem dL_law_986 : decode cL_law 986 = .ok (.if_icmp .eq 593, 3) := by decide +kernel
theorem dL_law_991 : decode cL_law 991 = .ok (.aload_n 1, 1) := by decide +kernel
theorem dL_law_992 : decode cL_law 992 = .ok (.aload_n 0, 1) := by decide +kernel
theorem dL_law_993 : decode cL_law 993 = .ok (.iload_n 3, 1) := by decide +kernel
theorem dL_law_994 : decode cL_law 994 = .ok (.iconst 1, 1) := by decide +kernel
theorem dL_law_995 : decode cL_law 995 = .ok (.iadd, 1) := by decide +kernel
theorem dL_law_996 : decode cL_law 996 = .ok (.iaload, 1) := by decide +kernel
theorem dL_law_997 : decode cL_law 997 = .ok (.aload_n 0, 1) := by decide +kernel
theorem dL_law_998 : decode cL_law 998 = .ok (.iload_n 3, 1) := by decide +kernel
theorem dL_law_999 : decode cL_law 999 = .ok (.iconst 2, 1) := by decide +kernel
theorem dL_law_1000 : decode cL_law 1000 = .ok (.iadd, 1) := by decide +kernel
theorem dL_law_1001 : decode cL_law 1001 = .ok (.iaload, 1) := by decide +kernel
theorem dL_law_1002 : decode cL_law 1002 = .ok (.aload_n 0, 1) := by decide +kernel
theorem dL_law_1003 : decode cL_law 1003 = .ok (.iload_n 3, 1) := by decide +kernel
theorem dL_law_1004 : decode cL_law 1004 = .ok (.iconst 3, 1) := by decide +kernel
theorem dL_law_1005 : decode cL_law 1005 = .ok (.iadd, 1) := by decide +kernel
theorem dL_law_1006 : decode cL_law 1006 = .ok (.iaload, 1) := by decide +kernel
theorem dL_law_1007 : decode cL_law 1007 = .ok (.aload_n 0, 1) := by decide +kernel
theorem dL_law_1008 : decode cL_law 1008 = .ok (.iload_n 3, 1) := by decide +kernel
theorem dL_law_1009 : decode cL_law 1009 = .ok (.iconst 4, 1) := by decide +kernel
theorem dL_law_1010 : decode cL_law 1010 = .ok (.iadd, 1) := by decide +kernel
theorem dL_law_1011 : decode cL_law 1011 = .ok (.iaload, 1) := by decide +kernel
theorem dL_law_1012 : decode cL_law 1012 = .ok (.invokevirtual 101, 3) := by decide +kernel
theorem dL_law_1015 : decode cL_law 1015 = .ok (.aload_n 2, 1) := by decide +kernel
theorem dL_law_1016 : decode cL_law 1016 = .ok (.aload_n 0, 1) := by decide +kernel
theorem dL_law_1017 : decode cL_law 1017 = .ok (.iload_n 3, 1) := by decide +kernel
theorem dL_law_1018 : decode cL_law 1018 = .ok (.iconst 1, 1) := by decide +kernel
theorem dL_law_1019 : decode cL_law 1019 = .ok (.iadd, 1) := by decide +kernel
theorem dL_law_1020 : decode cL_law 1020 = .ok (.iaload, 1) := by decide +kernel
theorem dL_law_1021 : decode cL_law 1021 = .ok (.aload_n 0, 1) := by decide +kernel
theorem dL_law_1022 : decode cL_law 1022 = .ok (.iload_n 3, 1) := by decide +kernel
theorem dL_law_1023 : decode cL_law 1023 = .ok (.iconst 2, 1) := by decide +kernel
theorem dL_law_1024 : decode cL_law 1024 = .ok (.iadd, 1) := by decide +kernel
theorem dL_law_1025 : decode cL_law 1025 = .ok (.iaload, 1) := by decide +kernel
theorem dL_law_1026 : decode cL_law 1026 = .ok (.aload_n 0, 1) := by decide +kernel
theorem dL_law_1027 : decode cL_law 1027 = .ok (.iload_n 3, 1) := by decide +kernel
theorem dL_law_1028 : decode cL_law 1028 = .ok (.iconst 3, 1) := by decide +kernel
theorem dL_law_1029 : decode cL_law 1029 = .ok (.iadd, 1) := by decide +kernel
theorem dL_law_1030 : decode cL_law 1030 = .ok (.iaload, 1) := by decide +kernel
theorem dL_law_1031 : decode cL_law 1031 = .ok (.aload_n 0, 1) := by decide +kernel
theorem dL_law_1032 : decode cL_law 1032 = .ok (.iload_n 3, 1) := by decide +kernel
theorem dL_law_1033 : decode cL_law 1033 = .ok (.iconst 4, 1) := by decide +kernel
theorem dL_law_1034 : decode cL_law 1034 = .ok (.iadd, 1) := by decide +kernel
theorem dL_law_1035 : decode cL_law 1035 = .ok (.iaload, 1) := by decide +kernel
theorem dL_law_1036 : decode cL_law 1036 = .ok (.invokevirtual 105, 3) := by decide +kernel
theorem dL_law_1039 : decode cL_law 1039 = .ok (.if_icmp .eq 540, 3) := by decide +kernel
theorem dL_law_1044 : decode cL_law 1044 = .ok (.aload_n 1, 1) := by decide +kernel
theorem dL_law_1045 : decode cL_law 1045 = .ok (.aload_n 0, 1) := by decide +kernel
theorem dL_law_1046 : decode cL_law 1046 = .ok (.iload_n 3, 1) := by decide +kernel
theorem dL_law_1047 : decode cL_law 1047 = .ok (.iconst 1, 1) := by decide +kernel
theorem dL_law_1048 : decode cL_law 1048 = .ok (.iadd, 1) := by decide +kernel
theorem dL_law_1049 : decode cL_law 1049 = .ok (.iaload, 1) := by decide +kernel
theorem dL_law_1050 : decode cL_law 1050 = .ok (.invokevirtual 106, 3) := by decide +kernel
theorem dL_law_1053 : decode cL_law 1053 = .ok (.aload_n 2, 1) := by decide +kernel
theorem dL_law_1054 : decode cL_law 1054 = .ok (.aload_n 0, 1) := by decide +kernel
theorem dL_law_1055 : decode cL_law 1055 = .ok (.iload_n 3, 1) := by decide +kernel
theorem dL_law_1056 : decode cL_law 1056 = .ok (.iconst 1, 1) := by decide +kernel
theorem dL_law_1057 : decode cL_law 1057 = .ok (.iadd, 1) := by decide +kernel
theorem dL_law_1058 : decode cL_law 1058 = .ok (.iaload, 1) := by decide +kernel
theorem dL_law_1059 : decode cL_law 1059 = .ok (.invokevirtual 109, 3) := by decide +kernel
theorem dL_law_1062 : decode cL_law 1062 = .ok (.if_icmp .eq 517, 3) := by decide +kernel
theorem dL_law_1067 : decode cL_law 1067 = .ok (.aload_n 1, 1) := by decide +kernel
theorem dL_law_1068 : decode cL_law 1068 = .ok (.aload_n 0, 1) := by decide +kernel
theorem dL_law_1069 : decode cL_law 1069 = .ok (.iload_n 3, 1) := by decide +kernel
theorem dL_law_1070 : decode cL_law 1070 = .ok (.iconst 1, 1) := by decide +kernel
theorem dL_law_1071 : decode cL_law 1071 = .ok (.iadd, 1) := by decide +kernel
theorem dL_law_1072 : decode cL_law 1072 = .ok (.iaload, 1) := by decide +kernel
theorem dL_law_1073 : decode cL_law 1073 = .ok (.aload_n 0, 1) := by decide +kernel
theorem dL_law_1074 : decode cL_law 1074 = .ok (.iload_n 3, 1) := by decide +kernel
theorem dL_law_1075 : decode cL_law 1075 = .ok (.iconst 2, 1) := by decide +kernel
theorem dL_law_1076 : decode cL_law 1076 = .ok (.iadd, 1) := by decide +kernel
theorem dL_law_1077 : decode cL_law 1077 = .ok (.iaload, 1) := by decide +kernel
theorem dL_law_1078 : decode cL_law 1078 = .ok (.invokevirtual 110, 3) := by decide +kernel
theorem dL_law_1081 : decode cL_law 1081 = .ok (.aload_n 2, 1) := by decide +kernel
theorem dL_law_1082 : decode cL_law 1082 = .ok (.aload_n 0, 1) := by decide +kernel
theorem dL_law_1083 : decode cL_law 1083 = .ok (.iload_n 3, 1) := by decide +kernel
theorem dL_law_1084 : decode cL_law 1084 = .ok (.iconst 1, 1) := by decide +kernel
theorem dL_law_1085 : decode cL_law 1085 = .ok (.iadd, 1) := by decide +kernel
theorem dL_law_1086 : decode cL_law 1086 = .ok (.iaload, 1) := by decide +kernel
theorem dL_law_1087 : decode cL_law 1087 = .ok (.aload_n 0, 1) := by decide +kernel
theorem dL_law_1088 : decode cL_law 1088 = .ok (.iload_n 3, 1) := by decide +kernel
theorem dL_law_1089 : decode cL_law 1089 = .ok (.iconst 2, 1) := by decide +kernel
theorem dL_law_1090 : decode cL_law 1090 = .ok (.iadd, 1) := by decide +kernel
theorem dL_law_1091 : decode cL_law 1091 = .ok (.iaload, 1) := by decide +kernel
theorem dL_law_1092 : decode cL_law 1092 = .ok (.invokevirtual 113, 3) := by decide +kernel
theorem dL_law_1095 : decode cL_law 1095 = .ok (.if_icmp .eq 484, 3) := by decide +kernel
theorem dL_law_1100 : decode cL_law 1100 = .ok (.aload_n 1, 1) := by decide +kernel
theorem dL_law_1101 : decode cL_law 1101 = .ok (.invokevirtual 114, 3) := by decide +kernel
theorem dL_law_1104 : decode cL_law 1104 = .ok (.aload_n 2, 1) := by decide +kernel
theorem dL_law_1105 : decode cL_law 1105 = .ok (.invokevirtual 117, 3) := by decide +kernel
theorem dL_law_1108 : decode cL_law 1108 = .ok (.if_icmp .eq 471, 3) := by decide +kernel
theorem dL_law_1113 : decode cL_law 1113 = .ok (.aload_n 1, 1) := by decide +kernel
theorem dL_law_1114 : decode cL_law 1114 = .ok (.aload_n 0, 1) := by decide +kernel
theorem dL_law_1115 : decode cL_law 1115 = .ok (.iload_n 3, 1) := by decide +kernel
theorem dL_law_1116 : decode cL_law 1116 = .ok (.iconst 1, 1) := by decide +kernel
theorem dL_law_1117 : decode cL_law 1117 = .ok (.iadd, 1) := by decide +kernel
theorem dL_law_1118 : decode cL_law 1118 = .ok (.iaload, 1) := by decide +kernel
theorem dL_law_1119 : decode cL_law 1119 = .ok (.invokevirtual 118, 3) := by decide +kernel
theorem dL_law_1122 : decode cL_law 1122 = .ok (.aload_n 2, 1) := by decide +kernel
theorem dL_law_1123 : decode cL_law 1123 = .ok (.aload_n 0, 1) := by decide +kernel
theorem dL_law_1124 : decode cL_law 1124 = .ok (.iload_n 3, 1) := by decide +kernel
theorem dL_law_1125 : decode cL_law 1125 = .ok (.iconst 1, 1) := by decide +kernel
theorem dL_law_1126 : decode cL_law 1126 = .ok (.iadd, 1) := by decide +kernel
theorem dL_law_1127 : decode cL_law 1127 = .ok (.iaload, 1) := by decide +kernel
theorem dL_law_1128 : decode cL_law 1128 = .ok (.invokevirtual 121, 3) := by decide +kernel
theorem dL_law_1131 : decode cL_law 1131 = .ok (.if_icmp .eq 448, 3) := by decide +kernel
theorem dL_law_1136 : decode cL_law 1136 = .ok (.aload_n 1, 1) := by decide +kernel
theorem dL_law_1137 : decode cL_law 1137 = .ok (.invokevirtual 122, 3) := by decide +kernel
theorem dL_law_1140 : decode cL_law 1140 = .ok (.aload_n 2, 1) := by decide +kernel
theorem dL_law_1141 : decode cL_law 1141 = .ok (.invokevirtual 125, 3) := by decide +kernel
theorem dL_law_1144 : decode cL_law 1144 = .ok (.if_icmp .eq 435, 3) := by decide +kernel
theorem dL_law_1149 : decode cL_law 1149 = .ok (.aload_n 1, 1) := by decide +kernel
theorem dL_law_1150 : decode cL_law 1150 = .ok (.invokevirtual 126, 3) := by decide +kernel
theorem dL_law_1153 : decode cL_law 1153 = .ok (.aload_n 2, 1) := by decide +kernel
theorem dL_law_1154 : decode cL_law 1154 = .ok (.invokevirtual 129, 3) := by decide +kernel
theorem dL_law_1157 : decode cL_law 1157 = .ok (.if_icmp .eq 422, 3) := by decide +kernel
theorem dL_law_1162 : decode cL_law 1162 = .ok (.aload_n 1, 1) := by decide +kernel
theorem dL_law_1163 : decode cL_law 1163 = .ok (.invokevirtual 130, 3) := by decide +kernel
theorem dL_law_1166 : decode cL_law 1166 = .ok (.aload_n 2, 1) := by decide +kernel
theorem dL_law_1167 : decode cL_law 1167 = .ok (.invokevirtual 133, 3) := by decide +kernel
theorem dL_law_1170 : decode cL_law 1170 = .ok (.if_icmp .eq 409, 3) := by decide +kernel
theorem dL_law_1175 : decode cL_law 1175 = .ok (.aload_n 1, 1) := by decide +kernel
theorem dL_law_1176 : decode cL_law 1176 = .ok (.invokevirtual 134, 3) := by decide +kernel
theorem dL_law_1179 : decode cL_law 1179 = .ok (.aload_n 2, 1) := by decide +kernel
theorem dL_law_1180 : decode cL_law 1180 = .ok (.invokevirtual 137, 3) := by decide +kernel
theorem dL_law_1183 : decode cL_law 1183 = .ok (.if_icmp .eq 396, 3) := by decide +kernel
theorem dL_law_1188 : decode cL_law 1188 = .ok (.aload_n 1, 1) := by decide +kernel
theorem dL_law_1189 : decode cL_law 1189 = .ok (.aload_n 0, 1) := by decide +kernel
theorem dL_law_1190 : decode cL_law 1190 = .ok (.iload_n 3, 1) := by decide +kernel
theorem dL_law_1191 : decode cL_law 1191 = .ok (.iconst 1, 1) := by decide +kernel
theorem dL_law_1192 : decode cL_law 1192 = .ok (.iadd, 1) := by decide +kernel
theorem dL_law_1193 : decode cL_law 1193 = .ok (.iaload, 1) := by decide +kernel
theorem dL_law_1194 : decode cL_law 1194 = .ok (.invokevirtual 138, 3) := by decide +kernel
theorem dL_law_1197 : decode cL_law 1197 = .ok (.aload_n 2, 1) := by decide +kernel
theorem dL_law_1198 : decode cL_law 1198 = .ok (.aload_n 0, 1) := by decide +kernel
theorem dL_law_1199 : decode cL_law 1199 = .ok (.iload_n 3, 1) := by decide +kernel
theorem dL_law_1200 : decode cL_law 1200 = .ok (.iconst 1, 1) := by decide +kernel
theorem dL_law_1201 : decode cL_law 1201 = .ok (.iadd, 1) := by decide +kernel
theorem dL_law_1202 : decode cL_law 1202 = .ok (.iaload, 1) := by decide +kernel
theorem dL_law_1203 : decode cL_law 1203 = .ok (.invokevirtual 141, 3) := by decide +kernel
theorem dL_law_1206 : decode cL_law 1206 = .ok (.if_icmp .eq 373, 3) := by decide +kernel
theorem dL_law_1211 : decode cL_law 1211 = .ok (.aload_n 1, 1) := by decide +kernel
theorem dL_law_1212 : decode cL_law 1212 = .ok (.aload_n 0, 1) := by decide +kernel
theorem dL_law_1213 : decode cL_law 1213 = .ok (.iload_n 3, 1) := by decide +kernel
theorem dL_law_1214 : decode cL_law 1214 = .ok (.iconst 1, 1) := by decide +kernel
theorem dL_law_1215 : decode cL_law 1215 = .ok (.iadd, 1) := by decide +kernel
theorem dL_law_1216 : decode cL_law 1216 = .ok (.iaload, 1) := by decide +kernel
theorem dL_law_1217 : decode cL_law 1217 = .ok (.aload_n 0, 1) := by decide +kernel
theorem dL_law_1218 : decode cL_law 1218 = .ok (.iload_n 3, 1) := by decide +kernel
theorem dL_law_1219 : decode cL_law 1219 = .ok (.iconst 2, 1) := by decide +kernel
theorem dL_law_1220 : decode cL_law 1220 = .ok (.iadd, 1) := by decide +kernel
theorem dL_law_1221 : decode cL_law 1221 = .ok (.iaload, 1) := by decide +kernel
theorem dL_law_1222 : decode cL_law 1222 = .ok (.aload_n 0, 1) := by decide +kernel
theorem dL_law_1223 : decode cL_law 1223 = .ok (.iload_n 3, 1) := by decide +kernel
theorem dL_law_1224 : decode cL_law 1224 = .ok (.iconst 3, 1) := by decide +kernel
theorem dL_law_1225 : decode cL_law 1225 = .ok (.iadd, 1) := by decide +kernel
theorem dL_law_1226 : decode cL_law 1226 = .ok (.iaload, 1) := by decide +kernel
theorem dL_law_1227 : decode cL_law 1227 = .ok (.invokevirtual 142, 3) := by decide +kernel
theorem dL_law_1230 : decode cL_law 1230 = .ok (.aload_n 2, 1) := by decide +kernel
theorem dL_law_1231 : decode cL_law 1231 = .ok (.aload_n 0, 1) := by decide +kernel
theorem dL_law_1232 : decode cL_law 1232 = .ok (.iload_n 3, 1) := by decide +kernel
theorem dL_law_1233 : decode cL_law 1233 = .ok (.iconst 1, 1) := by decide +kernel
theorem dL_law_1234 : decode cL_law 1234 = .ok (.iadd, 1) := by decide +kernel
theorem dL_law_1235 : decode cL_law 1235 = .ok (.iaload, 1) := by decide +kernel
theorem dL_law_1236 : decode cL_law 1236 = .ok (.aload_n 0, 1) := by decide +kernel
theorem dL_law_1237 : decode cL_law 1237 = .ok (.iload_n 3, 1) := by decide +kernel
theorem dL_law_1238 : decode cL_law 1238 = .ok (.iconst 2, 1) := by decide +kernel
theorem dL_law_1239 : decode cL_law 1239 = .ok (.iadd, 1) := by decide +kernel
theorem dL_law_1240 : decode cL_law 1240 = .ok (.iaload, 1) := by decide +kernel
theorem dL_law_1241 : decode cL_law 1241 = .ok (.aload_n 0, 1) := by decide +kernel
theorem dL_law_1242 : decode cL_law 1242 = .ok (.iload_n 3, 1) := by decide +kernel
theorem dL_law_1243 : decode cL_law 1243 = .ok (.iconst 3, 1) := by decide +kernel
theorem dL_law_1244 : decode cL_law 1244 = .ok (.iadd, 1) := by decide +kernel
theorem dL_law_1245 : decode cL_law 1245 = .ok (.iaload, 1) := by decide +kernel
theorem dL_law_1246 : decode cL_law 1246 = .ok (.invokevirtual 145, 3) := by decide +kernel
theorem dL_law_1249 : decode cL_law 1249 = .ok (.if_icmp .eq 330, 3) := by decide +kernel
theorem dL_law_1254 : decode cL_law 1254 = .ok (.aload_n 1, 1) := by decide +kernel
theorem dL_law_1255 : decode cL_law 1255 = .ok (.aload_n 0, 1) := by decide +kernel
theorem dL_law_1256 : decode cL_law 1256 = .ok (.iload_n 3, 1) := by decide +kernel
theorem dL_law_1257 : decode cL_law 1257 = .ok (.iconst 1, 1) := by decide +kernel
theorem dL_law_1258 : decode cL_law 1258 = .ok (.iadd, 1) := by decide +kernel
theorem dL_law_1259 : decode cL_law 1259 = .ok (.iaload, 1) := by decide +kernel
theorem dL_law_1260 : decode cL_law 1260 = .ok (.invokevirtual 146, 3) := by decide +kernel
theorem dL_law_1263 : decode cL_law 1263 = .ok (.aload_n 2, 1) := by decide +kernel
theorem dL_law_1264 : decode cL_law 1264 = .ok (.aload_n 0, 1) := by decide +kernel
theorem dL_law_1265 : decode cL_law 1265 = .ok (.iload_n 3, 1) := by decide +kernel
theorem dL_law_1266 : decode cL_law 1266 = .ok (.iconst 1, 1) := by decide +kernel
theorem dL_law_1267 : decode cL_law 1267 = .ok (.iadd, 1) := by decide +kernel
theorem dL_law_1268 : decode cL_law 1268 = .ok (.iaload, 1) := by decide +kernel
theorem dL_law_1269 : decode cL_law 1269 = .ok (.invokevirtual 149, 3) := by decide +kernel
theorem dL_law_1272 : decode cL_law 1272 = .ok (.if_icmp .eq 307, 3) := by decide +kernel
theorem dL_law_1277 : decode cL_law 1277 = .ok (.aload_n 1, 1) := by decide +kernel
theorem dL_law_1278 : decode cL_law 1278 = .ok (.aload_n 0, 1) := by decide +kernel
theorem dL_law_1279 : decode cL_law 1279 = .ok (.iload_n 3, 1) := by decide +kernel
theorem dL_law_1280 : decode cL_law 1280 = .ok (.iconst 1, 1) := by decide +kernel
theorem dL_law_1281 : decode cL_law 1281 = .ok (.iadd, 1) := by decide +kernel
theorem dL_law_1282 : decode cL_law 1282 = .ok (.iaload, 1) := by decide +kernel
theorem dL_law_1283 : decode cL_law 1283 = .ok (.aload_n 0, 1) := by decide +kernel
theorem dL_law_1284 : decode cL_law 1284 = .ok (.iload_n 3, 1) := by decide +kernel
theorem dL_law_1285 : decode cL_law 1285 = .ok (.iconst 2, 1) := by decide +kernel
theorem dL_law_1286 : decode cL_law 1286 = .ok (.iadd, 1) := by decide +kernel
theorem dL_law_1287 : decode cL_law 1287 = .ok (.iaload, 1) := by decide +kernel
theorem dL_law_1288 : decode cL_law 1288 = .ok (.invokevirtual 150, 3) := by decide +kernel
theorem dL_law_1291 : decode cL_law 1291 = .ok (.aload_n 2, 1) := by decide +kernel
theorem dL_law_1292 : decode cL_law 1292 = .ok (.aload_n 0, 1) := by decide +kernel
theorem dL_law_1293 : decode cL_law 1293 = .ok (.iload_n 3, 1) := by decide +kernel
theorem dL_law_1294 : decode cL_law 1294 = .ok (.iconst 1, 1) := by decide +kernel
theorem dL_law_1295 : decode cL_law 1295 = .ok (.iadd, 1) := by decide +kernel
theorem dL_law_1296 : decode cL_law 1296 = .ok (.iaload, 1) := by decide +kernel
theorem dL_law_1297 : decode cL_law 1297 = .ok (.aload_n 0, 1) := by decide +kernel
theorem dL_law_1298 : decode cL_law 1298 = .ok (.iload_n 3, 1) := by decide +kernel
theorem dL_law_1299 : decode cL_law 1299 = .ok (.iconst 2, 1) := by decide +kernel
theorem dL_law_1300 : decode cL_law 1300 = .ok (.iadd, 1) := by decide +kernel
theorem dL_law_1301 : decode cL_law 1301 = .ok (.iaload, 1) := by decide +kernel
theorem dL_law_1302 : decode cL_law 1302 = .ok (.invokevirtual 153, 3) := by decide +kernel
theorem dL_law_1305 : decode cL_law 1305 = .ok (.if_icmp .eq 274, 3) := by decide +kernel
theorem dL_law_1310 : decode cL_law 1310 = .ok (.aload_n 1, 1) := by decide +kernel
theorem dL_law_1311 : decode cL_law 1311 = .ok (.aload_n 0, 1) := by decide +kernel
theorem dL_law_1312 : decode cL_law 1312 = .ok (.iload_n 3, 1) := by decide +kernel
theorem dL_law_1313 : decode cL_law 1313 = .ok (.iconst 1, 1) := by decide +kernel
theorem dL_law_1314 : decode cL_law 1314 = .ok (.iadd, 1) := by decide +kernel
theorem dL_law_1315 : decode cL_law 1315 = .ok (.iaload, 1) := by decide +kernel
theorem dL_law_1316 : decode cL_law 1316 = .ok (.aload_n 0, 1) := by decide +kernel
theorem dL_law_1317 : decode cL_law 1317 = .ok (.iload_n 3, 1) := by decide +kernel
theorem dL_law_1318 : decode cL_law 1318 = .ok (.iconst 2, 1) := by decide +kernel
theorem dL_law_1319 : decode cL_law 1319 = .ok (.iadd, 1) := by decide +kernel
theorem dL_law_1320 : decode cL_law 1320 = .ok (.iaload, 1) := by decide +kernel
theorem dL_law_1321 : decode cL_law 1321 = .ok (.aload_n 0, 1) := by decide +kernel
theorem dL_law_1322 : decode cL_law 1322 = .ok (.iload_n 3, 1) := by decide +kernel
theorem dL_law_1323 : decode cL_law 1323 = .ok (.iconst 3, 1) := by decide +kernel
theorem dL_law_1324 : decode cL_law 1324 = .ok (.iadd, 1) := by decide +kernel
theorem dL_law_1325 : decode cL_law 1325 = .ok (.iaload, 1) := by decide +kernel
theorem dL_law_1326 : decode cL_law 1326 = .ok (.invokevirtual 154, 3) := by decide +kernel
theorem dL_law_1329 : decode cL_law 1329 = .ok (.aload_n 2, 1) := by decide +kernel
theorem dL_law_1330 : decode cL_law 1330 = .ok (.aload_n 0, 1) := by decide +kernel
theorem dL_law_1331 : decode cL_law 1331 = .ok (.iload_n 3, 1) := by decide +kernel
theorem dL_law_1332 : decode cL_law 1332 = .ok (.iconst 1, 1) := by decide +kernel
theorem dL_law_1333 : decode cL_law 1333 = .ok (.iadd, 1) := by decide +kernel
theorem dL_law_1334 : decode cL_law 1334 = .ok (.iaload, 1) := by decide +kernel
theorem dL_law_1335 : decode cL_law 1335 = .ok (.aload_n 0, 1) := by decide +kernel
theorem dL_law_1336 : decode cL_law 1336 = .ok (.iload_n 3, 1) := by decide +kernel
theorem dL_law_1337 : decode cL_law 1337 = .ok (.iconst 2, 1) := by decide +kernel
theorem dL_law_1338 : decode cL_law 1338 = .ok (.iadd, 1) := by decide +kernel
theorem dL_law_1339 : decode cL_law 1339 = .ok (.iaload, 1) := by decide +kernel
theorem dL_law_1340 : decode cL_law 1340 = .ok (.aload_n 0, 1) := by decide +kernel
theorem dL_law_1341 : decode cL_law 1341 = .ok (.iload_n 3, 1) := by decide +kernel
theorem dL_law_1342 : decode cL_law 1342 = .ok (.iconst 3, 1) := by decide +kernel
theorem dL_law_1343 : decode cL_law 1343 = .ok (.iadd, 1) := by decide +kernel
theorem dL_law_1344 : decode cL_law 1344 = .ok (.iaload, 1) := by decide +kernel
theorem dL_law_1345 : decode cL_law 1345 = .ok (.invokevirtual 157, 3) := by decide +kernel
theorem dL_law_1348 : decode cL_law 1348 = .ok (.if_icmp .eq 231, 3) := by decide +kernel
theorem dL_law_1353 : decode cL_law 1353 = .ok (.aload_n 1, 1) := by decide +kernel
theorem dL_law_1354 : decode cL_law 1354 = .ok (.aload_n 0, 1) := by decide +kernel
theorem dL_law_1355 : decode cL_law 1355 = .ok (.iload_n 3, 1) := by decide +kernel
theorem dL_law_1356 : decode cL_law 1356 = .ok (.iconst 1, 1) := by decide +kernel
theorem dL_law_1357 : decode cL_law 1357 = .ok (.iadd, 1) := by decide +kernel
theorem dL_law_1358 : decode cL_law 1358 = .ok (.iaload, 1) := by decide +kernel
theorem dL_law_1359 : decode cL_law 1359 = .ok (.aload_n 0, 1) := by decide +kernel
theorem dL_law_1360 : decode cL_law 1360 = .ok (.iload_n 3, 1) := by decide +kernel
theorem dL_law_1361 : decode cL_law 1361 = .ok (.iconst 2, 1) := by decide +kernel
theorem dL_law_1362 : decode cL_law 1362 = .ok (.iadd, 1) := by decide +kernel
theorem dL_law_1363 : decode cL_law 1363 = .ok (.iaload, 1) := by decide +kernel
theorem dL_law_1364 : decode cL_law 1364 = .ok (.aload_n 0, 1) := by decide +kernel
theorem dL_law_1365 : decode cL_law 1365 = .ok (.iload_n 3, 1) := by decide +kernel
theorem dL_law_1366 : decode cL_law 1366 = .ok (.iconst 3, 1) := by decide +kernel
theorem dL_law_1367 : decode cL_law 1367 = .ok (.iadd, 1) := by decide +kernel
theorem dL_law_1368 : decode cL_law 1368 = .ok (.iaload, 1) := by decide +kernel
theorem dL_law_1369 : decode cL_law 1369 = .ok (.i2l, 1) := by decide +kernel
theorem dL_law_1370 : decode cL_law 1370 = .ok (.bipush 32, 2) := by decide +kernel
theorem dL_law_1372 : decode cL_law 1372 = .ok (.lshl, 1) := by decide +kernel
theorem dL_law_1373 : decode cL_law 1373 = .ok (.aload_n 0, 1) := by decide +kernel
theorem dL_law_1374 : decode cL_law 1374 = .ok (.iload_n 3, 1) := by decide +kernel
theorem dL_law_1375 : decode cL_law 1375 = .ok (.iconst 4, 1) := by decide +kernel
theorem dL_law_1376 : decode cL_law 1376 = .ok (.iadd, 1) := by decide +kernel
theorem dL_law_1377 : decode cL_law 1377 = .ok (.iaload, 1) := by decide +kernel
theorem dL_law_1378 : decode cL_law 1378 = .ok (.i2l, 1) := by decide +kernel
theorem dL_law_1379 : decode cL_law 1379 = .ok (.ldc2_w 158, 3) := by decide +kernel
theorem dL_law_1382 : decode cL_law 1382 = .ok (.land, 1) := by decide +kernel
theorem dL_law_1383 : decode cL_law 1383 = .ok (.lor, 1) := by decide +kernel
theorem dL_law_1384 : decode cL_law 1384 = .ok (.invokevirtual 160, 3) := by decide +kernel
theorem dL_law_1387 : decode cL_law 1387 = .ok (.aload_n 2, 1) := by decide +kernel
theorem dL_law_1388 : decode cL_law 1388 = .ok (.aload_n 0, 1) := by decide +kernel
theorem dL_law_1389 : decode cL_law 1389 = .ok (.iload_n 3, 1) := by decide +kernel
theorem dL_law_1390 : decode cL_law 1390 = .ok (.iconst 1, 1) := by decide +kernel
theorem dL_law_1391 : decode cL_law 1391 = .ok (.iadd, 1) := by decide +kernel
theorem dL_law_1392 : decode cL_law 1392 = .ok (.iaload, 1) := by decide +kernel
theorem dL_law_1393 : decode cL_law 1393 = .ok (.aload_n 0, 1) := by decide +kernel
theorem dL_law_1394 : decode cL_law 1394 = .ok (.iload_n 3, 1) := by decide +kernel
theorem dL_law_1395 : decode cL_law 1395 = .ok (.iconst 2, 1) := by decide +kernel
theorem dL_law_1396 : decode cL_law 1396 = .ok (.iadd, 1) := by decide +kernel
theorem dL_law_1397 : decode cL_law 1397 = .ok (.iaload, 1) := by decide +kernel
theorem dL_law_1398 : decode cL_law 1398 = .ok (.aload_n 0, 1) := by decide +kernel
theorem dL_law_1399 : decode cL_law 1399 = .ok (.iload_n 3, 1) := by decide +kernel
theorem dL_law_1400 : decode cL_law 1400 = .ok (.iconst 3, 1) := by decide +kernel
theorem dL_law_1401 : decode cL_law 1401 = .ok (.iadd, 1) := by decide +kernel
theorem dL_law_1402 : decode cL_law 1402 = .ok (.iaload, 1) := by decide +kernel
theorem dL_law_1403 : decode cL_law 1403 = .ok (.i2l, 1) := by decide +kernel
theorem dL_law_1404 : decode cL_law 1404 = .ok (.bipush 32, 2) := by decide +kernel
theorem dL_law_1406 : decode cL_law 1406 = .ok (.lshl, 1) := by decide +kernel
theorem dL_law_1407 : decode cL_law 1407 = .ok (.aload_n 0, 1) := by decide +kernel
theorem dL_law_1408 : decode cL_law 1408 = .ok (.iload_n 3, 1) := by decide +kernel
theorem dL_law_1409 : decode cL_law 1409 = .ok (.iconst 4, 1) := by decide +kernel
theorem dL_law_1410 : decode cL_law 1410 = .ok (.iadd, 1) := by decide +kernel
theorem dL_law_1411 : decode cL_law 1411 = .ok (.iaload, 1) := by decide +kernel
theorem dL_law_1412 : decode cL_law 1412 = .ok (.i2l, 1) := by decide +kernel
theorem dL_law_1413 : decode cL_law 1413 = .ok (.ldc2_w 158, 3) := by decide +kernel
theorem dL_law_1416 : decode cL_law 1416 = .ok (.land, 1) := by decide +kernel
theorem dL_law_1417 : decode cL_law 1417 = .ok (.lor, 1) := by decide +kernel
theorem dL_law_1418 : decode cL_law 1418 = .ok (.invokevirtual 164, 3) := by decide +kernel
theorem dL_law_1421 : decode cL_law 1421 = .ok (.if_icmp .eq 158, 3) := by decide +kernel
theorem dL_law_1426 : decode cL_law 1426 = .ok (.aload_n 1, 1) := by decide +kernel
theorem dL_law_1427 : decode cL_law 1427 = .ok (.aload_n 0, 1) := by decide +kernel
theorem dL_law_1428 : decode cL_law 1428 = .ok (.iload_n 3, 1) := by decide +kernel
theorem dL_law_1429 : decode cL_law 1429 = .ok (.iconst 1, 1) := by decide +kernel
theorem dL_law_1430 : decode cL_law 1430 = .ok (.iadd, 1) := by decide +kernel
theorem dL_law_1431 : decode cL_law 1431 = .ok (.iaload, 1) := by decide +kernel
theorem dL_law_1432 : decode cL_law 1432 = .ok (.aload_n 0, 1) := by decide +kernel
theorem dL_law_1433 : decode cL_law 1433 = .ok (.iload_n 3, 1) := by decide +kernel
theorem dL_law_1434 : decode cL_law 1434 = .ok (.iconst 2, 1) := by decide +kernel
theorem dL_law_1435 : decode cL_law 1435 = .ok (.iadd, 1) := by decide +kernel
theorem dL_law_1436 : decode cL_law 1436 = .ok (.iaload, 1) := by decide +kernel
theorem dL_law_1437 : decode cL_law 1437 = .ok (.invokevirtual 165, 3) := by decide +kernel
theorem dL_law_1440 : decode cL_law 1440 = .ok (.aload_n 2, 1) := by decide +kernel
theorem dL_law_1441 : decode cL_law 1441 = .ok (.aload_n 0, 1) := by decide +kernel
theorem dL_law_1442 : decode cL_law 1442 = .ok (.iload_n 3, 1) := by decide +kernel
theorem dL_law_1443 : decode cL_law 1443 = .ok (.iconst 1, 1) := by decide +kernel
theorem dL_law_1444 : decode cL_law 1444 = .ok (.iadd, 1) := by decide +kernel
theorem dL_law_1445 : decode cL_law 1445 = .ok (.iaload, 1) := by decide +kernel
theorem dL_law_1446 : decode cL_law 1446 = .ok (.aload_n 0, 1) := by decide +kernel
theorem dL_law_1447 : decode cL_law 1447 = .ok (.iload_n 3, 1) := by decide +kernel
theorem dL_law_1448 : decode cL_law 1448 = .ok (.iconst 2, 1) := by decide +kernel
theorem dL_law_1449 : decode cL_law 1449 = .ok (.iadd, 1) := by decide +kernel
theorem dL_law_1450 : decode cL_law 1450 = .ok (.iaload, 1) := by decide +kernel
theorem dL_law_1451 : decode cL_law 1451 = .ok (.invokevirtual 169, 3) := by decide +kernel
theorem dL_law_1454 : decode cL_law 1454 = .ok (.lcmp, 1) := by decide +kernel
theorem dL_law_1455 : decode cL_law 1455 = .ok (.ifCond .eq 124, 3) := by decide +kernel
theorem dL_law_1460 : decode cL_law 1460 = .ok (.aload_n 1, 1) := by decide +kernel
theorem dL_law_1461 : decode cL_law 1461 = .ok (.aload_n 0, 1) := by decide +kernel
theorem dL_law_1462 : decode cL_law 1462 = .ok (.iload_n 3, 1) := by decide +kernel
theorem dL_law_1463 : decode cL_law 1463 = .ok (.iconst 1, 1) := by decide +kernel
theorem dL_law_1464 : decode cL_law 1464 = .ok (.iadd, 1) := by decide +kernel
theorem dL_law_1465 : decode cL_law 1465 = .ok (.iaload, 1) := by decide +kernel
theorem dL_law_1466 : decode cL_law 1466 = .ok (.aload_n 0, 1) := by decide +kernel
theorem dL_law_1467 : decode cL_law 1467 = .ok (.iload_n 3, 1) := by decide +kernel
theorem dL_law_1468 : decode cL_law 1468 = .ok (.iconst 2, 1) := by decide +kernel
theorem dL_law_1469 : decode cL_law 1469 = .ok (.iadd, 1) := by decide +kernel
theorem dL_law_1470 : decode cL_law 1470 = .ok (.iaload, 1) := by decide +kernel
theorem dL_law_1471 : decode cL_law 1471 = .ok (.aload_n 0, 1) := by decide +kernel
theorem dL_law_1472 : decode cL_law 1472 = .ok (.iload_n 3, 1) := by decide +kernel
theorem dL_law_1473 : decode cL_law 1473 = .ok (.iconst 3, 1) := by decide +kernel
theorem dL_law_1474 : decode cL_law 1474 = .ok (.iadd, 1) := by decide +kernel
theorem dL_law_1475 : decode cL_law 1475 = .ok (.iaload, 1) := by decide +kernel
theorem dL_law_1476 : decode cL_law 1476 = .ok (.aload_n 0, 1) := by decide +kernel
theorem dL_law_1477 : decode cL_law 1477 = .ok (.iload_n 3, 1) := by decide +kernel
theorem dL_law_1478 : decode cL_law 1478 = .ok (.iconst 4, 1) := by decide +kernel
theorem dL_law_1479 : decode cL_law 1479 = .ok (.iadd, 1) := by decide +kernel
theorem dL_law_1480 : decode cL_law 1480 = .ok (.iaload, 1) := by decide +kernel
theorem dL_law_1481 : decode cL_law 1481 = .ok (.aload_n 0, 1) := by decide +kernel
theorem dL_law_1482 : decode cL_law 1482 = .ok (.iload_n 3, 1) := by decide +kernel
theorem dL_law_1483 : decode cL_law 1483 = .ok (.iconst 5, 1) := by decide +kernel
theorem dL_law_1484 : decode cL_law 1484 = .ok (.iadd, 1) := by decide +kernel
theorem dL_law_1485 : decode cL_law 1485 = .ok (.iaload, 1) := by decide +kernel
theorem dL_law_1486 : decode cL_law 1486 = .ok (.invokevirtual 170, 3) := by decide +kernel
theorem dL_law_1489 : decode cL_law 1489 = .ok (.aload_n 2, 1) := by decide +kernel
theorem dL_law_1490 : decode cL_law 1490 = .ok (.aload_n 0, 1) := by decide +kernel
theorem dL_law_1491 : decode cL_law 1491 = .ok (.iload_n 3, 1) := by decide +kernel
theorem dL_law_1492 : decode cL_law 1492 = .ok (.iconst 1, 1) := by decide +kernel
theorem dL_law_1493 : decode cL_law 1493 = .ok (.iadd, 1) := by decide +kernel
theorem dL_law_1494 : decode cL_law 1494 = .ok (.iaload, 1) := by decide +kernel
theorem dL_law_1495 : decode cL_law 1495 = .ok (.aload_n 0, 1) := by decide +kernel
theorem dL_law_1496 : decode cL_law 1496 = .ok (.iload_n 3, 1) := by decide +kernel
theorem dL_law_1497 : decode cL_law 1497 = .ok (.iconst 2, 1) := by decide +kernel
theorem dL_law_1498 : decode cL_law 1498 = .ok (.iadd, 1) := by decide +kernel
theorem dL_law_1499 : decode cL_law 1499 = .ok (.iaload, 1) := by decide +kernel
theorem dL_law_1500 : decode cL_law 1500 = .ok (.aload_n 0, 1) := by decide +kernel
theorem dL_law_1501 : decode cL_law 1501 = .ok (.iload_n 3, 1) := by decide +kernel
theorem dL_law_1502 : decode cL_law 1502 = .ok (.iconst 3, 1) := by decide +kernel
theorem dL_law_1503 : decode cL_law 1503 = .ok (.iadd, 1) := by decide +kernel
theorem dL_law_1504 : decode cL_law 1504 = .ok (.iaload, 1) := by decide +kernel
theorem dL_law_1505 : decode cL_law 1505 = .ok (.aload_n 0, 1) := by decide +kernel
theorem dL_law_1506 : decode cL_law 1506 = .ok (.iload_n 3, 1) := by decide +kernel
theorem dL_law_1507 : decode cL_law 1507 = .ok (.iconst 4, 1) := by decide +kernel
theorem dL_law_1508 : decode cL_law 1508 = .ok (.iadd, 1) := by decide +kernel
theorem dL_law_1509 : decode cL_law 1509 = .ok (.iaload, 1) := by decide +kernel
theorem dL_law_1510 : decode cL_law 1510 = .ok (.aload_n 0, 1) := by decide +kernel
theorem dL_law_1511 : decode cL_law 1511 = .ok (.iload_n 3, 1) := by decide +kernel
theorem dL_law_1512 : decode cL_law 1512 = .ok (.iconst 5, 1) := by decide +kernel
theorem dL_law_1513 : decode cL_law 1513 = .ok (.iadd, 1) := by decide +kernel
theorem dL_law_1514 : decode cL_law 1514 = .ok (.iaload, 1) := by decide +kernel
theorem dL_law_1515 : decode cL_law 1515 = .ok (.invokevirtual 174, 3) := by decide +kernel
theorem dL_law_1518 : decode cL_law 1518 = .ok (.if_icmp .eq 61, 3) := by decide +kernel
theorem dL_law_1523 : decode cL_law 1523 = .ok (.aload_n 1, 1) := by decide +kernel
theorem dL_law_1524 : decode cL_law 1524 = .ok (.aload_n 0, 1) := by decide +kernel
theorem dL_law_1525 : decode cL_law 1525 = .ok (.iload_n 3, 1) := by decide +kernel
theorem dL_law_1526 : decode cL_law 1526 = .ok (.iconst 1, 1) := by decide +kernel
theorem dL_law_1527 : decode cL_law 1527 = .ok (.iadd, 1) := by decide +kernel
theorem dL_law_1528 : decode cL_law 1528 = .ok (.iaload, 1) := by decide +kernel
theorem dL_law_1529 : decode cL_law 1529 = .ok (.aload_n 0, 1) := by decide +kernel
theorem dL_law_1530 : decode cL_law 1530 = .ok (.iload_n 3, 1) := by decide +kernel
theorem dL_law_1531 : decode cL_law 1531 = .ok (.iconst 2, 1) := by decide +kernel
theorem dL_law_1532 : decode cL_law 1532 = .ok (.iadd, 1) := by decide +kernel
theorem dL_law_1533 : decode cL_law 1533 = .ok (.iaload, 1) := by decide +kernel
theorem dL_law_1534 : decode cL_law 1534 = .ok (.invokevirtual 175, 3) := by decide +kernel
theorem dL_law_1537 : decode cL_law 1537 = .ok (.aload_n 2, 1) := by decide +kernel
theorem dL_law_1538 : decode cL_law 1538 = .ok (.aload_n 0, 1) := by decide +kernel
theorem dL_law_1539 : decode cL_law 1539 = .ok (.iload_n 3, 1) := by decide +kernel
theorem dL_law_1540 : decode cL_law 1540 = .ok (.iconst 1, 1) := by decide +kernel
theorem dL_law_1541 : decode cL_law 1541 = .ok (.iadd, 1) := by decide +kernel
theorem dL_law_1542 : decode cL_law 1542 = .ok (.iaload, 1) := by decide +kernel
theorem dL_law_1543 : decode cL_law 1543 = .ok (.aload_n 0, 1) := by decide +kernel
theorem dL_law_1544 : decode cL_law 1544 = .ok (.iload_n 3, 1) := by decide +kernel
theorem dL_law_1545 : decode cL_law 1545 = .ok (.iconst 2, 1) := by decide +kernel
theorem dL_law_1546 : decode cL_law 1546 = .ok (.iadd, 1) := by decide +kernel
theorem dL_law_1547 : decode cL_law 1547 = .ok (.iaload, 1) := by decide +kernel
theorem dL_law_1548 : decode cL_law 1548 = .ok (.invokevirtual 178, 3) := by decide +kernel
theorem dL_law_1551 : decode cL_law 1551 = .ok (.if_icmp .eq 28, 3) := by decide +kernel
theorem dL_law_1556 : decode cL_law 1556 = .ok (.aload_n 1, 1) := by decide +kernel
theorem dL_law_1557 : decode cL_law 1557 = .ok (.aload_n 0, 1) := by decide +kernel
theorem dL_law_1558 : decode cL_law 1558 = .ok (.iload_n 3, 1) := by decide +kernel
theorem dL_law_1559 : decode cL_law 1559 = .ok (.iconst 1, 1) := by decide +kernel
theorem dL_law_1560 : decode cL_law 1560 = .ok (.iadd, 1) := by decide +kernel
theorem dL_law_1561 : decode cL_law 1561 = .ok (.iaload, 1) := by decide +kernel
theorem dL_law_1562 : decode cL_law 1562 = .ok (.invokevirtual 179, 3) := by decide +kernel
theorem dL_law_1565 : decode cL_law 1565 = .ok (.aload_n 2, 1) := by decide +kernel
theorem dL_law_1566 : decode cL_law 1566 = .ok (.aload_n 0, 1) := by decide +kernel
theorem dL_law_1567 : decode cL_law 1567 = .ok (.iload_n 3, 1) := by decide +kernel
theorem dL_law_1568 : decode cL_law 1568 = .ok (.iconst 1, 1) := by decide +kernel
theorem dL_law_1569 : decode cL_law 1569 = .ok (.iadd, 1) := by decide +kernel
theorem dL_law_1570 : decode cL_law 1570 = .ok (.iaload, 1) := by decide +kernel
theorem dL_law_1571 : decode cL_law 1571 = .ok (.invokevirtual 182, 3) := by decide +kernel
theorem dL_law_1574 : decode cL_law 1574 = .ok (.if_icmp .eq 5, 3) := by decide +kernel
theorem dL_law_1579 : decode cL_law 1579 = .ok (.iinc 3 6, 3) := by decide +kernel
theorem dL_law_1582 : decode cL_law 1582 = .ok (.goto (-1564), 3) := by decide +kernel
theorem dL_law_1585 : decode cL_law 1585 = .ok (.iconst 1, 1) := by decide +kernel
theorem dL_law_1586 : decode cL_law 1586 = .ok (.ireturn, 1) := by decide +kernel
abbrev vwCl : List vw_C := [(RX0, TX0, 5), (RX1, TX1, 5), (RX2, TX2, 6), (RX3, TX3, 6), (RX4, TX4, 11), (RX5, TX5, 10), (RX6, TX6, 3), (RX7, TX7, 4), (RX8, TX8, 13), (RX9, TX9, 3), (RX10, TX10, 4), (RX11, TX11, 10), (RX12, TX12, 55)]
end
section
def sgS : Nat → List Cond := fun k => match k with | 0 => k2_sels lw_privs | 1 => tables_1_1 | 2 => tables_1_2 | 3 => tables_1_3 | 4 => tables_1_4 | 5 => tables_1_5 | 6 => tables_1_6 | 7 => tables_1_7 | _ => []
theorem sgS_in : ∀ k : Nat, ∀ w ∈ sgS k, w ∈ lw_tbl := by
  intro k w hw
  unfold lw_tbl tables_1
  simp only [List.mem_append]
  match k, hw with
  | 0, hw => exact Or.inl hw
  | 1, hw => exact Or.inr (Or.inl hw)
  | 2, hw => exact Or.inr (Or.inr (Or.inl hw))
  | 3, hw => exact Or.inr (Or.inr (Or.inr (Or.inl hw)))
  | 4, hw => exact Or.inr (Or.inr (Or.inr (Or.inr (Or.inl hw))))
  | 5, hw => exact Or.inr (Or.inr (Or.inr (Or.inr (Or.inr (Or.inl hw)))))
  | 6, hw => exact Or.inr (Or.inr (Or.inr (Or.inr (Or.inr (Or.inr (Or.inl hw))))))
  | 7, hw => exact Or.inr (Or.inr (Or.inr (Or.inr (Or.inr (Or.inr (Or.inr (hw)))))))
  | k + 8, hw => exact absurd hw (by simp [sgS])
/-- the words: those of the tables that a contract may name -/
def gwL : List Cond := lw_tbl.filter goodWord
theorem gwL_in : ∀ w ∈ gwL, w ∈ lw_tbl := fun _ h => (List.mem_filter.mp h).1
theorem gw_good : ∀ w ∈ gwL, goodWord w = true := fun _ h => (List.mem_filter.mp h).2
theorem gw_at (k : Nat) {w : Cond} {z : List Cond} (hz : sgS k = z) (h : w ∈ z) (hg : goodWord w = true) : w ∈ gwL := List.mem_filter.mpr ⟨sgS_in k w (hz ▸ h), hg⟩
end
section
theorem gx_11 : ∀ w ∈ wsX110, w ∈ gwL := by
  intro w hw
  obtain ⟨k, hk, rfl⟩ := List.mem_map.mp hw
  have hk := List.mem_range.mp hk
  match k, hk with
  | 0, _ => exact gw_at 2 (z := tables_1_2) rfl (List.mem_of_getElem? (i := 129) rfl) rfl
  | 1, _ => exact gw_at 2 (z := tables_1_2) rfl (List.mem_of_getElem? (i := 131) rfl) rfl
  | 2, _ => exact gw_at 2 (z := tables_1_2) rfl (List.mem_of_getElem? (i := 133) rfl) rfl
  | 3, _ => exact gw_at 2 (z := tables_1_2) rfl (List.mem_of_getElem? (i := 135) rfl) rfl
  | 4, _ => exact gw_at 2 (z := tables_1_2) rfl (List.mem_of_getElem? (i := 137) rfl) rfl
  | 5, _ => exact gw_at 2 (z := tables_1_2) rfl (List.mem_of_getElem? (i := 139) rfl) rfl
  | 6, _ => exact gw_at 2 (z := tables_1_2) rfl (List.mem_of_getElem? (i := 141) rfl) rfl
  | 7, _ => exact gw_at 2 (z := tables_1_2) rfl (List.mem_of_getElem? (i := 143) rfl) rfl
  | 8, _ => exact gw_at 2 (z := tables_1_2) rfl (List.mem_of_getElem? (i := 145) rfl) rfl
  | 9, _ => exact gw_at 2 (z := tables_1_2) rfl (List.mem_of_getElem? (i := 147) rfl) rfl
  | k + 10, h => exact absurd h (by omega)
theorem inX11 : ∀ w ∈ wsX110, w ∈ lw_tbl := fun w h => gwL_in w (gx_11 w h)
end
section
theorem gx_12 : ∀ w ∈ wsX120, w ∈ gwL := by
  intro w hw
  obtain ⟨k, hk, rfl⟩ := List.mem_map.mp hw
  have hk := List.mem_range.mp hk
  match k, hk with
  | 0, _ => exact gw_at 5 (z := tables_1_5) rfl (List.mem_of_getElem? (i := 117) rfl) rfl
  | 1, _ => exact gw_at 5 (z := tables_1_5) rfl (List.mem_of_getElem? (i := 119) rfl) rfl
  | 2, _ => exact gw_at 5 (z := tables_1_5) rfl (List.mem_of_getElem? (i := 121) rfl) rfl
  | 3, _ => exact gw_at 5 (z := tables_1_5) rfl (List.mem_of_getElem? (i := 123) rfl) rfl
  | 4, _ => exact gw_at 5 (z := tables_1_5) rfl (List.mem_of_getElem? (i := 125) rfl) rfl
  | 5, _ => exact gw_at 5 (z := tables_1_5) rfl (List.mem_of_getElem? (i := 127) rfl) rfl
  | 6, _ => exact gw_at 5 (z := tables_1_5) rfl (List.mem_of_getElem? (i := 129) rfl) rfl
  | 7, _ => exact gw_at 5 (z := tables_1_5) rfl (List.mem_of_getElem? (i := 131) rfl) rfl
  | 8, _ => exact gw_at 5 (z := tables_1_5) rfl (List.mem_of_getElem? (i := 133) rfl) rfl
  | 9, _ => exact gw_at 5 (z := tables_1_5) rfl (List.mem_of_getElem? (i := 135) rfl) rfl
  | 10, _ => exact gw_at 5 (z := tables_1_5) rfl (List.mem_of_getElem? (i := 137) rfl) rfl
  | 11, _ => exact gw_at 5 (z := tables_1_5) rfl (List.mem_of_getElem? (i := 139) rfl) rfl
  | 12, _ => exact gw_at 5 (z := tables_1_5) rfl (List.mem_of_getElem? (i := 141) rfl) rfl
  | 13, _ => exact gw_at 5 (z := tables_1_5) rfl (List.mem_of_getElem? (i := 143) rfl) rfl
  | 14, _ => exact gw_at 5 (z := tables_1_5) rfl (List.mem_of_getElem? (i := 145) rfl) rfl
  | 15, _ => exact gw_at 5 (z := tables_1_5) rfl (List.mem_of_getElem? (i := 147) rfl) rfl
  | 16, _ => exact gw_at 5 (z := tables_1_5) rfl (List.mem_of_getElem? (i := 149) rfl) rfl
  | 17, _ => exact gw_at 5 (z := tables_1_5) rfl (List.mem_of_getElem? (i := 151) rfl) rfl
  | 18, _ => exact gw_at 5 (z := tables_1_5) rfl (List.mem_of_getElem? (i := 153) rfl) rfl
  | 19, _ => exact gw_at 5 (z := tables_1_5) rfl (List.mem_of_getElem? (i := 155) rfl) rfl
  | 20, _ => exact gw_at 5 (z := tables_1_5) rfl (List.mem_of_getElem? (i := 157) rfl) rfl
  | 21, _ => exact gw_at 5 (z := tables_1_5) rfl (List.mem_of_getElem? (i := 159) rfl) rfl
  | 22, _ => exact gw_at 5 (z := tables_1_5) rfl (List.mem_of_getElem? (i := 161) rfl) rfl
  | 23, _ => exact gw_at 5 (z := tables_1_5) rfl (List.mem_of_getElem? (i := 163) rfl) rfl
  | 24, _ => exact gw_at 5 (z := tables_1_5) rfl (List.mem_of_getElem? (i := 165) rfl) rfl
  | 25, _ => exact gw_at 5 (z := tables_1_5) rfl (List.mem_of_getElem? (i := 167) rfl) rfl
  | 26, _ => exact gw_at 5 (z := tables_1_5) rfl (List.mem_of_getElem? (i := 169) rfl) rfl
  | 27, _ => exact gw_at 5 (z := tables_1_5) rfl (List.mem_of_getElem? (i := 171) rfl) rfl
  | 28, _ => exact gw_at 5 (z := tables_1_5) rfl (List.mem_of_getElem? (i := 173) rfl) rfl
  | 29, _ => exact gw_at 5 (z := tables_1_5) rfl (List.mem_of_getElem? (i := 175) rfl) rfl
  | 30, _ => exact gw_at 5 (z := tables_1_5) rfl (List.mem_of_getElem? (i := 177) rfl) rfl
  | 31, _ => exact gw_at 5 (z := tables_1_5) rfl (List.mem_of_getElem? (i := 179) rfl) rfl
  | 32, _ => exact gw_at 5 (z := tables_1_5) rfl (List.mem_of_getElem? (i := 181) rfl) rfl
  | 33, _ => exact gw_at 5 (z := tables_1_5) rfl (List.mem_of_getElem? (i := 183) rfl) rfl
  | 34, _ => exact gw_at 5 (z := tables_1_5) rfl (List.mem_of_getElem? (i := 185) rfl) rfl
  | 35, _ => exact gw_at 5 (z := tables_1_5) rfl (List.mem_of_getElem? (i := 187) rfl) rfl
  | 36, _ => exact gw_at 5 (z := tables_1_5) rfl (List.mem_of_getElem? (i := 189) rfl) rfl
  | 37, _ => exact gw_at 5 (z := tables_1_5) rfl (List.mem_of_getElem? (i := 191) rfl) rfl
  | 38, _ => exact gw_at 5 (z := tables_1_5) rfl (List.mem_of_getElem? (i := 193) rfl) rfl
  | 39, _ => exact gw_at 5 (z := tables_1_5) rfl (List.mem_of_getElem? (i := 195) rfl) rfl
  | 40, _ => exact gw_at 5 (z := tables_1_5) rfl (List.mem_of_getElem? (i := 197) rfl) rfl
  | 41, _ => exact gw_at 5 (z := tables_1_5) rfl (List.mem_of_getElem? (i := 199) rfl) rfl
  | 42, _ => exact gw_at 5 (z := tables_1_5) rfl (List.mem_of_getElem? (i := 201) rfl) rfl
  | 43, _ => exact gw_at 5 (z := tables_1_5) rfl (List.mem_of_getElem? (i := 203) rfl) rfl
  | 44, _ => exact gw_at 5 (z := tables_1_5) rfl (List.mem_of_getElem? (i := 205) rfl) rfl
  | 45, _ => exact gw_at 5 (z := tables_1_5) rfl (List.mem_of_getElem? (i := 207) rfl) rfl
  | 46, _ => exact gw_at 5 (z := tables_1_5) rfl (List.mem_of_getElem? (i := 209) rfl) rfl
  | 47, _ => exact gw_at 5 (z := tables_1_5) rfl (List.mem_of_getElem? (i := 211) rfl) rfl
  | 48, _ => exact gw_at 5 (z := tables_1_5) rfl (List.mem_of_getElem? (i := 213) rfl) rfl
  | 49, _ => exact gw_at 5 (z := tables_1_5) rfl (List.mem_of_getElem? (i := 215) rfl) rfl
  | 50, _ => exact gw_at 5 (z := tables_1_5) rfl (List.mem_of_getElem? (i := 217) rfl) rfl
  | 51, _ => exact gw_at 5 (z := tables_1_5) rfl (List.mem_of_getElem? (i := 219) rfl) rfl
  | 52, _ => exact gw_at 5 (z := tables_1_5) rfl (List.mem_of_getElem? (i := 221) rfl) rfl
  | 53, _ => exact gw_at 5 (z := tables_1_5) rfl (List.mem_of_getElem? (i := 223) rfl) rfl
  | 54, _ => exact gw_at 5 (z := tables_1_5) rfl (List.mem_of_getElem? (i := 225) rfl) rfl
  | k + 55, h => exact absurd h (by omega)
theorem inX12 : ∀ w ∈ wsX120, w ∈ lw_tbl := fun w h => gwL_in w (gx_12 w h)
theorem gx_0 : ∀ w ∈ wsX00, w ∈ gwL := by
  intro w hw
  obtain ⟨k, hk, rfl⟩ := List.mem_map.mp hw
  have hk := List.mem_range.mp hk
  match k, hk with
  | 0, _ => exact gw_at 1 (z := tables_1_1) rfl (List.mem_of_getElem? (i := 86) rfl) rfl
  | 1, _ => exact gw_at 1 (z := tables_1_1) rfl (List.mem_of_getElem? (i := 88) rfl) rfl
  | 2, _ => exact gw_at 1 (z := tables_1_1) rfl (List.mem_of_getElem? (i := 90) rfl) rfl
  | 3, _ => exact gw_at 1 (z := tables_1_1) rfl (List.mem_of_getElem? (i := 92) rfl) rfl
  | 4, _ => exact gw_at 1 (z := tables_1_1) rfl (List.mem_of_getElem? (i := 94) rfl) rfl
  | k + 5, h => exact absurd h (by omega)
theorem inX0 : ∀ w ∈ wsX00, w ∈ lw_tbl := fun w h => gwL_in w (gx_0 w h)
theorem gx_10 : ∀ w ∈ wsX100, w ∈ gwL := by
  intro w hw
  obtain ⟨k, hk, rfl⟩ := List.mem_map.mp hw
  have hk := List.mem_range.mp hk
  match k, hk with
  | 0, _ => exact gw_at 1 (z := tables_1_1) rfl (List.mem_of_getElem? (i := 115) rfl) rfl
  | 1, _ => exact gw_at 1 (z := tables_1_1) rfl (List.mem_of_getElem? (i := 117) rfl) rfl
  | 2, _ => exact gw_at 1 (z := tables_1_1) rfl (List.mem_of_getElem? (i := 119) rfl) rfl
  | 3, _ => exact gw_at 1 (z := tables_1_1) rfl (List.mem_of_getElem? (i := 121) rfl) rfl
  | k + 4, h => exact absurd h (by omega)
theorem inX10 : ∀ w ∈ wsX100, w ∈ lw_tbl := fun w h => gwL_in w (gx_10 w h)
theorem gx_4 : ∀ w ∈ wsX40, w ∈ gwL := by
  intro w hw
  obtain ⟨k, hk, rfl⟩ := List.mem_map.mp hw
  have hk := List.mem_range.mp hk
  match k, hk with
  | 0, _ => exact gw_at 1 (z := tables_1_1) rfl (List.mem_of_getElem? (i := 147) rfl) rfl
  | 1, _ => exact gw_at 1 (z := tables_1_1) rfl (List.mem_of_getElem? (i := 149) rfl) rfl
  | 2, _ => exact gw_at 1 (z := tables_1_1) rfl (List.mem_of_getElem? (i := 151) rfl) rfl
  | 3, _ => exact gw_at 1 (z := tables_1_1) rfl (List.mem_of_getElem? (i := 153) rfl) rfl
  | 4, _ => exact gw_at 1 (z := tables_1_1) rfl (List.mem_of_getElem? (i := 155) rfl) rfl
  | 5, _ => exact gw_at 1 (z := tables_1_1) rfl (List.mem_of_getElem? (i := 157) rfl) rfl
  | 6, _ => exact gw_at 1 (z := tables_1_1) rfl (List.mem_of_getElem? (i := 159) rfl) rfl
  | 7, _ => exact gw_at 1 (z := tables_1_1) rfl (List.mem_of_getElem? (i := 161) rfl) rfl
  | 8, _ => exact gw_at 1 (z := tables_1_1) rfl (List.mem_of_getElem? (i := 163) rfl) rfl
  | 9, _ => exact gw_at 1 (z := tables_1_1) rfl (List.mem_of_getElem? (i := 165) rfl) rfl
  | 10, _ => exact gw_at 1 (z := tables_1_1) rfl (List.mem_of_getElem? (i := 167) rfl) rfl
  | k + 11, h => exact absurd h (by omega)
theorem inX4 : ∀ w ∈ wsX40, w ∈ lw_tbl := fun w h => gwL_in w (gx_4 w h)
theorem gx_8 : ∀ w ∈ wsX80, w ∈ gwL := by
  intro w hw
  obtain ⟨k, hk, rfl⟩ := List.mem_map.mp hw
  have hk := List.mem_range.mp hk
  match k, hk with
  | 0, _ => exact gw_at 1 (z := tables_1_1) rfl (List.mem_of_getElem? (i := 189) rfl) rfl
  | 1, _ => exact gw_at 1 (z := tables_1_1) rfl (List.mem_of_getElem? (i := 191) rfl) rfl
  | 2, _ => exact gw_at 1 (z := tables_1_1) rfl (List.mem_of_getElem? (i := 193) rfl) rfl
  | 3, _ => exact gw_at 1 (z := tables_1_1) rfl (List.mem_of_getElem? (i := 195) rfl) rfl
  | 4, _ => exact gw_at 1 (z := tables_1_1) rfl (List.mem_of_getElem? (i := 197) rfl) rfl
  | 5, _ => exact gw_at 1 (z := tables_1_1) rfl (List.mem_of_getElem? (i := 199) rfl) rfl
  | 6, _ => exact gw_at 1 (z := tables_1_1) rfl (List.mem_of_getElem? (i := 201) rfl) rfl
  | 7, _ => exact gw_at 1 (z := tables_1_1) rfl (List.mem_of_getElem? (i := 203) rfl) rfl
  | 8, _ => exact gw_at 1 (z := tables_1_1) rfl (List.mem_of_getElem? (i := 205) rfl) rfl
  | 9, _ => exact gw_at 1 (z := tables_1_1) rfl (List.mem_of_getElem? (i := 207) rfl) rfl
  | 10, _ => exact gw_at 1 (z := tables_1_1) rfl (List.mem_of_getElem? (i := 209) rfl) rfl
  | 11, _ => exact gw_at 1 (z := tables_1_1) rfl (List.mem_of_getElem? (i := 211) rfl) rfl
  | 12, _ => exact gw_at 1 (z := tables_1_1) rfl (List.mem_of_getElem? (i := 213) rfl) rfl
  | k + 13, h => exact absurd h (by omega)
theorem inX8 : ∀ w ∈ wsX80, w ∈ lw_tbl := fun w h => gwL_in w (gx_8 w h)
theorem gx_9 : ∀ w ∈ wsX90, w ∈ gwL := by
  intro w hw
  obtain ⟨k, hk, rfl⟩ := List.mem_map.mp hw
  have hk := List.mem_range.mp hk
  match k, hk with
  | 0, _ => exact gw_at 1 (z := tables_1_1) rfl (List.mem_of_getElem? (i := 226) rfl) rfl
  | 1, _ => exact gw_at 1 (z := tables_1_1) rfl (List.mem_of_getElem? (i := 228) rfl) rfl
  | 2, _ => exact gw_at 1 (z := tables_1_1) rfl (List.mem_of_getElem? (i := 230) rfl) rfl
  | k + 3, h => exact absurd h (by omega)
theorem inX9 : ∀ w ∈ wsX90, w ∈ lw_tbl := fun w h => gwL_in w (gx_9 w h)
theorem gx_6 : ∀ w ∈ wsX60, w ∈ gwL := by
  intro w hw
  obtain ⟨k, hk, rfl⟩ := List.mem_map.mp hw
  have hk := List.mem_range.mp hk
  match k, hk with
  | 0, _ => exact gw_at 2 (z := tables_1_2) rfl (List.mem_of_getElem? (i := 2) rfl) rfl
  | 1, _ => exact gw_at 2 (z := tables_1_2) rfl (List.mem_of_getElem? (i := 4) rfl) rfl
  | 2, _ => exact gw_at 2 (z := tables_1_2) rfl (List.mem_of_getElem? (i := 6) rfl) rfl
  | k + 3, h => exact absurd h (by omega)
theorem inX6 : ∀ w ∈ wsX60, w ∈ lw_tbl := fun w h => gwL_in w (gx_6 w h)
theorem gx_2 : ∀ w ∈ wsX20, w ∈ gwL := by
  intro w hw
  obtain ⟨k, hk, rfl⟩ := List.mem_map.mp hw
  have hk := List.mem_range.mp hk
  match k, hk with
  | 0, _ => exact gw_at 2 (z := tables_1_2) rfl (List.mem_of_getElem? (i := 22) rfl) rfl
  | 1, _ => exact gw_at 2 (z := tables_1_2) rfl (List.mem_of_getElem? (i := 24) rfl) rfl
  | 2, _ => exact gw_at 2 (z := tables_1_2) rfl (List.mem_of_getElem? (i := 26) rfl) rfl
  | 3, _ => exact gw_at 2 (z := tables_1_2) rfl (List.mem_of_getElem? (i := 28) rfl) rfl
  | 4, _ => exact gw_at 2 (z := tables_1_2) rfl (List.mem_of_getElem? (i := 30) rfl) rfl
  | 5, _ => exact gw_at 2 (z := tables_1_2) rfl (List.mem_of_getElem? (i := 32) rfl) rfl
  | k + 6, h => exact absurd h (by omega)
theorem inX2 : ∀ w ∈ wsX20, w ∈ lw_tbl := fun w h => gwL_in w (gx_2 w h)
theorem gx_1 : ∀ w ∈ wsX10, w ∈ gwL := by
  intro w hw
  obtain ⟨k, hk, rfl⟩ := List.mem_map.mp hw
  have hk := List.mem_range.mp hk
  match k, hk with
  | 0, _ => exact gw_at 2 (z := tables_1_2) rfl (List.mem_of_getElem? (i := 51) rfl) rfl
  | 1, _ => exact gw_at 2 (z := tables_1_2) rfl (List.mem_of_getElem? (i := 53) rfl) rfl
  | 2, _ => exact gw_at 2 (z := tables_1_2) rfl (List.mem_of_getElem? (i := 55) rfl) rfl
  | 3, _ => exact gw_at 2 (z := tables_1_2) rfl (List.mem_of_getElem? (i := 57) rfl) rfl
  | 4, _ => exact gw_at 2 (z := tables_1_2) rfl (List.mem_of_getElem? (i := 59) rfl) rfl
  | k + 5, h => exact absurd h (by omega)
theorem inX1 : ∀ w ∈ wsX10, w ∈ lw_tbl := fun w h => gwL_in w (gx_1 w h)
theorem gx_3 : ∀ w ∈ wsX30, w ∈ gwL := by
  intro w hw
  obtain ⟨k, hk, rfl⟩ := List.mem_map.mp hw
  have hk := List.mem_range.mp hk
  match k, hk with
  | 0, _ => exact gw_at 2 (z := tables_1_2) rfl (List.mem_of_getElem? (i := 77) rfl) rfl
  | 1, _ => exact gw_at 2 (z := tables_1_2) rfl (List.mem_of_getElem? (i := 79) rfl) rfl
  | 2, _ => exact gw_at 2 (z := tables_1_2) rfl (List.mem_of_getElem? (i := 81) rfl) rfl
  | 3, _ => exact gw_at 2 (z := tables_1_2) rfl (List.mem_of_getElem? (i := 83) rfl) rfl
  | 4, _ => exact gw_at 2 (z := tables_1_2) rfl (List.mem_of_getElem? (i := 85) rfl) rfl
  | 5, _ => exact gw_at 2 (z := tables_1_2) rfl (List.mem_of_getElem? (i := 87) rfl) rfl
  | k + 6, h => exact absurd h (by omega)
theorem inX3 : ∀ w ∈ wsX30, w ∈ lw_tbl := fun w h => gwL_in w (gx_3 w h)
theorem gx_7 : ∀ w ∈ wsX70, w ∈ gwL := by
  intro w hw
  obtain ⟨k, hk, rfl⟩ := List.mem_map.mp hw
  have hk := List.mem_range.mp hk
  match k, hk with
  | 0, _ => exact gw_at 2 (z := tables_1_2) rfl (List.mem_of_getElem? (i := 109) rfl) rfl
  | 1, _ => exact gw_at 2 (z := tables_1_2) rfl (List.mem_of_getElem? (i := 111) rfl) rfl
  | 2, _ => exact gw_at 2 (z := tables_1_2) rfl (List.mem_of_getElem? (i := 113) rfl) rfl
  | 3, _ => exact gw_at 2 (z := tables_1_2) rfl (List.mem_of_getElem? (i := 115) rfl) rfl
  | k + 4, h => exact absurd h (by omega)
theorem inX7 : ∀ w ∈ wsX70, w ∈ lw_tbl := fun w h => gwL_in w (gx_7 w h)
theorem gx_5 : ∀ w ∈ wsX50, w ∈ gwL := by
  intro w hw
  obtain ⟨k, hk, rfl⟩ := List.mem_map.mp hw
  have hk := List.mem_range.mp hk
  match k, hk with
  | 0, _ => exact gw_at 1 (z := tables_1_1) rfl (List.mem_of_getElem? (i := 49) rfl) rfl
  | 1, _ => exact gw_at 1 (z := tables_1_1) rfl (List.mem_of_getElem? (i := 51) rfl) rfl
  | 2, _ => exact gw_at 1 (z := tables_1_1) rfl (List.mem_of_getElem? (i := 53) rfl) rfl
  | 3, _ => exact gw_at 1 (z := tables_1_1) rfl (List.mem_of_getElem? (i := 55) rfl) rfl
  | 4, _ => exact gw_at 1 (z := tables_1_1) rfl (List.mem_of_getElem? (i := 57) rfl) rfl
  | 5, _ => exact gw_at 1 (z := tables_1_1) rfl (List.mem_of_getElem? (i := 59) rfl) rfl
  | 6, _ => exact gw_at 1 (z := tables_1_1) rfl (List.mem_of_getElem? (i := 61) rfl) rfl
  | 7, _ => exact gw_at 1 (z := tables_1_1) rfl (List.mem_of_getElem? (i := 63) rfl) rfl
  | 8, _ => exact gw_at 1 (z := tables_1_1) rfl (List.mem_of_getElem? (i := 65) rfl) rfl
  | 9, _ => exact gw_at 1 (z := tables_1_1) rfl (List.mem_of_getElem? (i := 67) rfl) rfl
  | k + 10, h => exact absurd h (by omega)
theorem inX5 : ∀ w ∈ wsX50, w ∈ lw_tbl := fun w h => gwL_in w (gx_5 w h)
/-! every method's words: its code, and all that the law's word list has -/
theorem gw_in {Ts : List Cond} {cz : Cond} (hT : ∀ w ∈ gwL, w ∈ Ts) (hc : cz ∈ gwL) : GoodIn Ts (cz :: gwL) := by
  intro w hw
  rcases List.mem_cons.mp hw with rfl | hw
  · exact ⟨hT _ hc, good_of_word (gw_good _ hc)⟩
  · exact ⟨hT _ hw, good_of_word (gw_good _ hw)⟩
theorem gw_V {Ts : List Cond} {own C : String} {idx : Nat} {y : MethodName} {cz : Cond} (hT : ∀ w ∈ gwL, w ∈ Ts) (h1 : Cond.methodLink own idx y ∈ gwL) (h2 : Cond.instanceMethod y ∈ gwL) (h3 : Cond.selects C y y ∈ gwL) (h4 : Cond.initialized C ∈ gwL) (hc : cz ∈ gwL) : GoodIn Ts (wsV own idx C y (cz :: gwL)) := by
  intro w hw
  unfold wsV at hw
  rcases List.mem_append.mp hw with hw | hw
  · simp only [List.mem_cons, List.not_mem_nil, or_false] at hw
    rcases hw with rfl | rfl | rfl | rfl
    · exact ⟨hT _ h1, good_of_word (gw_good _ h1)⟩
    · exact ⟨hT _ h2, good_of_word (gw_good _ h2)⟩
    · exact ⟨hT _ h3, good_of_word (gw_good _ h3)⟩
    · exact ⟨hT _ h4, good_of_word (gw_good _ h4)⟩
  · exact gw_in hT hc w hw
theorem gw_S {Ts : List Cond} {own : String} {idx : Nat} {y : MethodName} {cz : Cond} (hT : ∀ w ∈ gwL, w ∈ Ts) (h1 : Cond.methodLink own idx y ∈ gwL) (h2 : Cond.static y ∈ gwL) (h3 : Cond.initialized y.cls ∈ gwL) (hc : cz ∈ gwL) : GoodIn Ts (va_wsS own idx y (cz :: gwL)) := by
  intro w hw
  unfold va_wsS at hw
  rcases List.mem_append.mp hw with hw | hw
  · simp only [List.mem_cons, List.not_mem_nil, or_false] at hw
    rcases hw with rfl | rfl | rfl
    · exact ⟨hT _ h1, good_of_word (gw_good _ h1)⟩
    · exact ⟨hT _ h2, good_of_word (gw_good _ h2)⟩
    · exact ⟨hT _ h3, good_of_word (gw_good _ h3)⟩
  · exact gw_in hT hc w hw
end
section
theorem mw_0 : (.fieldLink RX11 314 "SetAgain" "MOST" "[I" : Cond) ∈ gwL := gw_at 2 (z := tables_1_2) rfl (List.mem_of_getElem? (i := 160) rfl) rfl
theorem mw_1 : (.fieldLink RX11 317 "SetAgain" "LEAST" "[I" : Cond) ∈ gwL := gw_at 2 (z := tables_1_2) rfl (List.mem_of_getElem? (i := 162) rfl) rfl
theorem mw_2 : (.fieldLink RX0 28 "SetAgain$Chair" "sitters" "I" : Cond) ∈ gwL := gw_at 1 (z := tables_1_1) rfl (List.mem_of_getElem? (i := 81) rfl) rfl
theorem mw_3 : (.fieldLink RX11 80 "SetAgain" "shelves" "[LSetAgain$Shelf;" : Cond) ∈ gwL := gw_at 2 (z := tables_1_2) rfl (List.mem_of_getElem? (i := 128) rfl) rfl
theorem mw_4 : (.fieldLink RX11 100 "SetAgain$Shelf" "sort" "I" : Cond) ∈ gwL := gw_at 2 (z := tables_1_2) rfl (List.mem_of_getElem? (i := 102) rfl) rfl
theorem mw_5 : (.code yX11_refusalOf cX11_refusalOf 2 (some .int) : Cond) ∈ gwL := gw_at 3 (z := tables_1_3) rfl (List.mem_of_getElem? (i := 110) rfl) rfl
theorem mw_6 : (.methodLink RX11 209 yX11_refusalOf : Cond) ∈ gwL := gw_at 3 (z := tables_1_3) rfl (List.mem_of_getElem? (i := 107) rfl) rfl
theorem mw_7 : (.instanceMethod yX11_refusalOf : Cond) ∈ gwL := gw_at 3 (z := tables_1_3) rfl (List.mem_of_getElem? (i := 109) rfl) rfl
theorem mw_8 : (.selects RX11 yX11_refusalOf yX11_refusalOf : Cond) ∈ gwL := gw_at 0 (z := (k2_sels lw_privs)) rfl (List.mem_of_getElem? (i := 18) rfl) rfl
theorem mw_9 : (.initialized RX11 : Cond) ∈ gwL := gw_at 1 (z := tables_1_1) rfl (List.mem_of_getElem? (i := 1) rfl) rfl
theorem mw_10 : (.fieldLink RX11 12 "SetAgain" "chair" "LSetAgain$Chair;" : Cond) ∈ gwL := gw_at 2 (z := tables_1_2) rfl (List.mem_of_getElem? (i := 119) rfl) rfl
theorem mw_11 : (.code yX0_has cX0_has 2 (some .boolean) : Cond) ∈ gwL := gw_at 3 (z := tables_1_3) rfl (List.mem_of_getElem? (i := 67) rfl) rfl
theorem mw_12 : (.methodLink RX11 146 yX0_has : Cond) ∈ gwL := gw_at 3 (z := tables_1_3) rfl (List.mem_of_getElem? (i := 64) rfl) rfl
theorem mw_13 : (.instanceMethod yX0_has : Cond) ∈ gwL := gw_at 3 (z := tables_1_3) rfl (List.mem_of_getElem? (i := 65) rfl) rfl
theorem mw_14 : (.selects RX0 yX0_has yX0_has : Cond) ∈ gwL := gw_at 3 (z := tables_1_3) rfl (List.mem_of_getElem? (i := 66) rfl) rfl
theorem mw_15 : (.initialized RX0 : Cond) ∈ gwL := gw_at 1 (z := tables_1_1) rfl (List.mem_of_getElem? (i := 2) rfl) rfl
theorem mw_16 : (.code yX11_isShelf cX11_isShelf 1 (some .boolean) : Cond) ∈ gwL := gw_at 2 (z := tables_1_2) rfl (List.mem_of_getElem? (i := 178) rfl) rfl
theorem mw_17 : (.methodLink RX11 97 yX11_isShelf : Cond) ∈ gwL := gw_at 2 (z := tables_1_2) rfl (List.mem_of_getElem? (i := 176) rfl) rfl
theorem mw_18 : (.static yX11_isShelf : Cond) ∈ gwL := gw_at 2 (z := tables_1_2) rfl (List.mem_of_getElem? (i := 177) rfl) rfl
theorem mw_19 : (.code yX11_isPart cX11_isPart 1 (some .boolean) : Cond) ∈ gwL := gw_at 2 (z := tables_1_2) rfl (List.mem_of_getElem? (i := 220) rfl) rfl
end
section
theorem mw_20 : (.methodLink RX11 123 yX11_isPart : Cond) ∈ gwL := gw_at 2 (z := tables_1_2) rfl (List.mem_of_getElem? (i := 218) rfl) rfl
theorem mw_21 : (.static yX11_isPart : Cond) ∈ gwL := gw_at 2 (z := tables_1_2) rfl (List.mem_of_getElem? (i := 219) rfl) rfl
theorem mw_22 : (.code yX11_isSetting cX11_isSetting 1 (some .boolean) : Cond) ∈ gwL := gw_at 2 (z := tables_1_2) rfl (List.mem_of_getElem? (i := 156) rfl) rfl
theorem mw_23 : (.methodLink RX11 85 yX11_isSetting : Cond) ∈ gwL := gw_at 2 (z := tables_1_2) rfl (List.mem_of_getElem? (i := 154) rfl) rfl
theorem mw_24 : (.static yX11_isSetting : Cond) ∈ gwL := gw_at 2 (z := tables_1_2) rfl (List.mem_of_getElem? (i := 155) rfl) rfl
theorem mw_25 : (.code yX11_readWeek cX11_readWeek 3 (some .int) : Cond) ∈ gwL := gw_at 3 (z := tables_1_3) rfl (List.mem_of_getElem? (i := 106) rfl) rfl
theorem mw_26 : (.methodLink RX11 153 yX11_readWeek : Cond) ∈ gwL := gw_at 3 (z := tables_1_3) rfl (List.mem_of_getElem? (i := 103) rfl) rfl
theorem mw_27 : (.instanceMethod yX11_readWeek : Cond) ∈ gwL := gw_at 3 (z := tables_1_3) rfl (List.mem_of_getElem? (i := 105) rfl) rfl
theorem mw_28 : (.selects RX11 yX11_readWeek yX11_readWeek : Cond) ∈ gwL := gw_at 0 (z := (k2_sels lw_privs)) rfl (List.mem_of_getElem? (i := 17) rfl) rfl
theorem mw_29 : (.constant RX11 205 (-2000000000) : Cond) ∈ gwL := gw_at 4 (z := tables_1_4) rfl (List.mem_of_getElem? (i := 81) rfl) rfl
theorem mw_30 : (.fieldLink RX0 25 "SetAgain$Chair" "lost" "[I" : Cond) ∈ gwL := gw_at 1 (z := tables_1_1) rfl (List.mem_of_getElem? (i := 85) rfl) rfl
theorem mw_31 : (.fieldLink RX0 11 "SetAgain$Chair" "told" "[I" : Cond) ∈ gwL := gw_at 1 (z := tables_1_1) rfl (List.mem_of_getElem? (i := 71) rfl) rfl
theorem mw_32 : (.code yX0_forget cX0_forget 4 none : Cond) ∈ gwL := gw_at 2 (z := tables_1_2) rfl (List.mem_of_getElem? (i := 171) rfl) rfl
theorem mw_33 : (.methodLink RX0 32 yX0_forget : Cond) ∈ gwL := gw_at 2 (z := tables_1_2) rfl (List.mem_of_getElem? (i := 168) rfl) rfl
theorem mw_34 : (.instanceMethod yX0_forget : Cond) ∈ gwL := gw_at 2 (z := tables_1_2) rfl (List.mem_of_getElem? (i := 170) rfl) rfl
theorem mw_35 : (.selects RX0 yX0_forget yX0_forget : Cond) ∈ gwL := gw_at 0 (z := (k2_sels lw_privs)) rfl (List.mem_of_getElem? (i := 0) rfl) rfl
theorem mw_36 : (.code yX11_fits cX11_fits 2 (some .boolean) : Cond) ∈ gwL := gw_at 2 (z := tables_1_2) rfl (List.mem_of_getElem? (i := 159) rfl) rfl
theorem mw_37 : (.methodLink RX11 89 yX11_fits : Cond) ∈ gwL := gw_at 2 (z := tables_1_2) rfl (List.mem_of_getElem? (i := 157) rfl) rfl
theorem mw_38 : (.static yX11_fits : Cond) ∈ gwL := gw_at 2 (z := tables_1_2) rfl (List.mem_of_getElem? (i := 158) rfl) rfl
theorem mw_39 : (.code yX0_comes cX0_comes 6 (some .int) : Cond) ∈ gwL := gw_at 2 (z := tables_1_2) rfl (List.mem_of_getElem? (i := 167) rfl) rfl
theorem mw_40 : (.methodLink RX11 93 yX0_comes : Cond) ∈ gwL := gw_at 2 (z := tables_1_2) rfl (List.mem_of_getElem? (i := 164) rfl) rfl
theorem mw_41 : (.instanceMethod yX0_comes : Cond) ∈ gwL := gw_at 2 (z := tables_1_2) rfl (List.mem_of_getElem? (i := 165) rfl) rfl
theorem mw_42 : (.selects RX0 yX0_comes yX0_comes : Cond) ∈ gwL := gw_at 2 (z := tables_1_2) rfl (List.mem_of_getElem? (i := 166) rfl) rfl
theorem mw_43 : (.fieldLink RX1 19 "SetAgain$Changes" "done" "I" : Cond) ∈ gwL := gw_at 2 (z := tables_1_2) rfl (List.mem_of_getElem? (i := 47) rfl) rfl
theorem mw_44 : (.fieldLink RX1 9 "SetAgain$Changes" "places" "[I" : Cond) ∈ gwL := gw_at 2 (z := tables_1_2) rfl (List.mem_of_getElem? (i := 41) rfl) rfl
theorem mw_45 : (.fieldLink RX1 13 "SetAgain$Changes" "before" "[I" : Cond) ∈ gwL := gw_at 2 (z := tables_1_2) rfl (List.mem_of_getElem? (i := 43) rfl) rfl
theorem mw_46 : (.fieldLink RX1 16 "SetAgain$Changes" "after" "[I" : Cond) ∈ gwL := gw_at 2 (z := tables_1_2) rfl (List.mem_of_getElem? (i := 45) rfl) rfl
theorem mw_47 : (.fieldLink RX1 26 "SetAgain$Changes" "kept" "I" : Cond) ∈ gwL := gw_at 2 (z := tables_1_2) rfl (List.mem_of_getElem? (i := 49) rfl) rfl
theorem mw_48 : (.code yX0_placeOf cX0_placeOf 3 (some .int) : Cond) ∈ gwL := gw_at 2 (z := tables_1_2) rfl (List.mem_of_getElem? (i := 198) rfl) rfl
theorem mw_49 : (.methodLink RX11 108 yX0_placeOf : Cond) ∈ gwL := gw_at 2 (z := tables_1_2) rfl (List.mem_of_getElem? (i := 195) rfl) rfl
theorem mw_50 : (.instanceMethod yX0_placeOf : Cond) ∈ gwL := gw_at 2 (z := tables_1_2) rfl (List.mem_of_getElem? (i := 196) rfl) rfl
theorem mw_51 : (.selects RX0 yX0_placeOf yX0_placeOf : Cond) ∈ gwL := gw_at 2 (z := tables_1_2) rfl (List.mem_of_getElem? (i := 197) rfl) rfl
theorem mw_52 : (.fieldLink RX11 112 "SetAgain$Chair" "told" "[I" : Cond) ∈ gwL := gw_at 1 (z := tables_1_1) rfl (List.mem_of_getElem? (i := 72) rfl) rfl
theorem mw_53 : (.fieldLink RX11 67 "SetAgain" "changes" "LSetAgain$Changes;" : Cond) ∈ gwL := gw_at 2 (z := tables_1_2) rfl (List.mem_of_getElem? (i := 126) rfl) rfl
theorem mw_54 : (.code yX1_comes cX1_comes 4 none : Cond) ∈ gwL := gw_at 2 (z := tables_1_2) rfl (List.mem_of_getElem? (i := 202) rfl) rfl
theorem mw_55 : (.methodLink RX11 116 yX1_comes : Cond) ∈ gwL := gw_at 2 (z := tables_1_2) rfl (List.mem_of_getElem? (i := 199) rfl) rfl
theorem mw_56 : (.instanceMethod yX1_comes : Cond) ∈ gwL := gw_at 2 (z := tables_1_2) rfl (List.mem_of_getElem? (i := 200) rfl) rfl
theorem mw_57 : (.selects RX1 yX1_comes yX1_comes : Cond) ∈ gwL := gw_at 2 (z := tables_1_2) rfl (List.mem_of_getElem? (i := 201) rfl) rfl
theorem mw_58 : (.initialized RX1 : Cond) ∈ gwL := gw_at 1 (z := tables_1_1) rfl (List.mem_of_getElem? (i := 10) rfl) rfl
theorem mw_59 : (.code yX0_becomes cX0_becomes 3 none : Cond) ∈ gwL := gw_at 2 (z := tables_1_2) rfl (List.mem_of_getElem? (i := 213) rfl) rfl
theorem mw_60 : (.methodLink RX11 119 yX0_becomes : Cond) ∈ gwL := gw_at 2 (z := tables_1_2) rfl (List.mem_of_getElem? (i := 210) rfl) rfl
theorem mw_61 : (.instanceMethod yX0_becomes : Cond) ∈ gwL := gw_at 2 (z := tables_1_2) rfl (List.mem_of_getElem? (i := 211) rfl) rfl
theorem mw_62 : (.selects RX0 yX0_becomes yX0_becomes : Cond) ∈ gwL := gw_at 2 (z := tables_1_2) rfl (List.mem_of_getElem? (i := 212) rfl) rfl
theorem mw_63 : (.fieldLink RX11 126 "SetAgain$Chair" "stands" "[I" : Cond) ∈ gwL := gw_at 1 (z := tables_1_1) rfl (List.mem_of_getElem? (i := 78) rfl) rfl
theorem mw_64 : (.fieldLink RX5 24 "SetAgain$Law" "length" "I" : Cond) ∈ gwL := gw_at 1 (z := tables_1_1) rfl (List.mem_of_getElem? (i := 38) rfl) rfl
theorem mw_65 : (.fieldLink RX5 11 "SetAgain$Law" "tape" "[I" : Cond) ∈ gwL := gw_at 1 (z := tables_1_1) rfl (List.mem_of_getElem? (i := 37) rfl) rfl
theorem mw_66 : (.fieldLink RX11 129 "SetAgain$Chair" "law" "LSetAgain$Law;" : Cond) ∈ gwL := gw_at 1 (z := tables_1_1) rfl (List.mem_of_getElem? (i := 80) rfl) rfl
theorem mw_67 : (.code yX5_takes cX5_takes 2 (some .int) : Cond) ∈ gwL := gw_at 2 (z := tables_1_2) rfl (List.mem_of_getElem? (i := 228) rfl) rfl
theorem mw_68 : (.methodLink RX11 133 yX5_takes : Cond) ∈ gwL := gw_at 2 (z := tables_1_2) rfl (List.mem_of_getElem? (i := 225) rfl) rfl
theorem mw_69 : (.instanceMethod yX5_takes : Cond) ∈ gwL := gw_at 2 (z := tables_1_2) rfl (List.mem_of_getElem? (i := 226) rfl) rfl
theorem mw_70 : (.selects RX5 yX5_takes yX5_takes : Cond) ∈ gwL := gw_at 2 (z := tables_1_2) rfl (List.mem_of_getElem? (i := 227) rfl) rfl
theorem mw_71 : (.initialized RX5 : Cond) ∈ gwL := gw_at 1 (z := tables_1_1) rfl (List.mem_of_getElem? (i := 3) rfl) rfl
theorem mw_72 : (.fieldLink RX5 31 "SetAgain$Law" "fault" "I" : Cond) ∈ gwL := gw_at 1 (z := tables_1_1) rfl (List.mem_of_getElem? (i := 46) rfl) rfl
theorem mw_73 : (.fieldLink RX5 28 "SetAgain$Law" "at" "I" : Cond) ∈ gwL := gw_at 1 (z := tables_1_1) rfl (List.mem_of_getElem? (i := 45) rfl) rfl
theorem mw_74 : (.code yX5_next cX5_next 1 (some .int) : Cond) ∈ gwL := gw_at 3 (z := tables_1_3) rfl (List.mem_of_getElem? (i := 32) rfl) rfl
theorem mw_75 : (.methodLink RX5 56 yX5_next : Cond) ∈ gwL := gw_at 3 (z := tables_1_3) rfl (List.mem_of_getElem? (i := 29) rfl) rfl
theorem mw_76 : (.instanceMethod yX5_next : Cond) ∈ gwL := gw_at 3 (z := tables_1_3) rfl (List.mem_of_getElem? (i := 31) rfl) rfl
theorem mw_77 : (.selects RX5 yX5_next yX5_next : Cond) ∈ gwL := gw_at 0 (z := (k2_sels lw_privs)) rfl (List.mem_of_getElem? (i := 12) rfl) rfl
theorem mw_78 : (.code yX5_isDigit cX5_isDigit 1 (some .boolean) : Cond) ∈ gwL := gw_at 3 (z := tables_1_3) rfl (List.mem_of_getElem? (i := 35) rfl) rfl
theorem mw_79 : (.methodLink RX5 85 yX5_isDigit : Cond) ∈ gwL := gw_at 3 (z := tables_1_3) rfl (List.mem_of_getElem? (i := 33) rfl) rfl
theorem mw_80 : (.static yX5_isDigit : Cond) ∈ gwL := gw_at 3 (z := tables_1_3) rfl (List.mem_of_getElem? (i := 34) rfl) rfl
theorem mw_81 : (.code yX5_isName cX5_isName 1 (some .boolean) : Cond) ∈ gwL := gw_at 3 (z := tables_1_3) rfl (List.mem_of_getElem? (i := 46) rfl) rfl
theorem mw_82 : (.methodLink RX5 92 yX5_isName : Cond) ∈ gwL := gw_at 3 (z := tables_1_3) rfl (List.mem_of_getElem? (i := 44) rfl) rfl
theorem mw_83 : (.static yX5_isName : Cond) ∈ gwL := gw_at 3 (z := tables_1_3) rfl (List.mem_of_getElem? (i := 45) rfl) rfl
theorem mw_84 : (.code yX5_fail cX5_fail 1 none : Cond) ∈ gwL := gw_at 3 (z := tables_1_3) rfl (List.mem_of_getElem? (i := 50) rfl) rfl
theorem mw_85 : (.methodLink RX5 60 yX5_fail : Cond) ∈ gwL := gw_at 3 (z := tables_1_3) rfl (List.mem_of_getElem? (i := 47) rfl) rfl
theorem mw_86 : (.instanceMethod yX5_fail : Cond) ∈ gwL := gw_at 3 (z := tables_1_3) rfl (List.mem_of_getElem? (i := 49) rfl) rfl
theorem mw_87 : (.selects RX5 yX5_fail yX5_fail : Cond) ∈ gwL := gw_at 0 (z := (k2_sels lw_privs)) rfl (List.mem_of_getElem? (i := 15) rfl) rfl
theorem mw_88 : (.code yX5_operand cX5_operand 3 none : Cond) ∈ gwL := gw_at 3 (z := tables_1_3) rfl (List.mem_of_getElem? (i := 28) rfl) rfl
theorem mw_89 : (.methodLink RX5 82 yX5_operand : Cond) ∈ gwL := gw_at 3 (z := tables_1_3) rfl (List.mem_of_getElem? (i := 25) rfl) rfl
theorem mw_90 : (.instanceMethod yX5_operand : Cond) ∈ gwL := gw_at 3 (z := tables_1_3) rfl (List.mem_of_getElem? (i := 27) rfl) rfl
theorem mw_91 : (.selects RX5 yX5_operand yX5_operand : Cond) ∈ gwL := gw_at 0 (z := (k2_sels lw_privs)) rfl (List.mem_of_getElem? (i := 11) rfl) rfl
theorem mw_92 : (.code yX5_product cX5_product 4 none : Cond) ∈ gwL := gw_at 3 (z := tables_1_3) rfl (List.mem_of_getElem? (i := 24) rfl) rfl
theorem mw_93 : (.methodLink RX5 79 yX5_product : Cond) ∈ gwL := gw_at 3 (z := tables_1_3) rfl (List.mem_of_getElem? (i := 21) rfl) rfl
theorem mw_94 : (.instanceMethod yX5_product : Cond) ∈ gwL := gw_at 3 (z := tables_1_3) rfl (List.mem_of_getElem? (i := 23) rfl) rfl
theorem mw_95 : (.selects RX5 yX5_product yX5_product : Cond) ∈ gwL := gw_at 0 (z := (k2_sels lw_privs)) rfl (List.mem_of_getElem? (i := 10) rfl) rfl
theorem mw_96 : (.code yX5_sum cX5_sum 4 none : Cond) ∈ gwL := gw_at 3 (z := tables_1_3) rfl (List.mem_of_getElem? (i := 20) rfl) rfl
theorem mw_97 : (.methodLink RX5 76 yX5_sum : Cond) ∈ gwL := gw_at 3 (z := tables_1_3) rfl (List.mem_of_getElem? (i := 17) rfl) rfl
theorem mw_98 : (.instanceMethod yX5_sum : Cond) ∈ gwL := gw_at 3 (z := tables_1_3) rfl (List.mem_of_getElem? (i := 19) rfl) rfl
theorem mw_99 : (.selects RX5 yX5_sum yX5_sum : Cond) ∈ gwL := gw_at 0 (z := (k2_sels lw_privs)) rfl (List.mem_of_getElem? (i := 9) rfl) rfl
end
section
theorem mw_100 : (.code yX5_compared cX5_compared 3 none : Cond) ∈ gwL := gw_at 3 (z := tables_1_3) rfl (List.mem_of_getElem? (i := 16) rfl) rfl
theorem mw_101 : (.methodLink RX5 73 yX5_compared : Cond) ∈ gwL := gw_at 3 (z := tables_1_3) rfl (List.mem_of_getElem? (i := 13) rfl) rfl
theorem mw_102 : (.instanceMethod yX5_compared : Cond) ∈ gwL := gw_at 3 (z := tables_1_3) rfl (List.mem_of_getElem? (i := 15) rfl) rfl
theorem mw_103 : (.selects RX5 yX5_compared yX5_compared : Cond) ∈ gwL := gw_at 0 (z := (k2_sels lw_privs)) rfl (List.mem_of_getElem? (i := 8) rfl) rfl
theorem mw_104 : (.code yX5_both cX5_both 3 none : Cond) ∈ gwL := gw_at 3 (z := tables_1_3) rfl (List.mem_of_getElem? (i := 12) rfl) rfl
theorem mw_105 : (.methodLink RX5 70 yX5_both : Cond) ∈ gwL := gw_at 3 (z := tables_1_3) rfl (List.mem_of_getElem? (i := 9) rfl) rfl
theorem mw_106 : (.instanceMethod yX5_both : Cond) ∈ gwL := gw_at 3 (z := tables_1_3) rfl (List.mem_of_getElem? (i := 11) rfl) rfl
theorem mw_107 : (.selects RX5 yX5_both yX5_both : Cond) ∈ gwL := gw_at 0 (z := (k2_sels lw_privs)) rfl (List.mem_of_getElem? (i := 7) rfl) rfl
theorem mw_108 : (.fieldLink RX5 34 "SetAgain$Law" "drafted" "I" : Cond) ∈ gwL := gw_at 1 (z := tables_1_1) rfl (List.mem_of_getElem? (i := 47) rfl) rfl
theorem mw_109 : (.fieldLink RX5 15 "SetAgain$Law" "draft" "[I" : Cond) ∈ gwL := gw_at 1 (z := tables_1_1) rfl (List.mem_of_getElem? (i := 42) rfl) rfl
theorem mw_110 : (.code yX5_either cX5_either 3 none : Cond) ∈ gwL := gw_at 3 (z := tables_1_3) rfl (List.mem_of_getElem? (i := 8) rfl) rfl
theorem mw_111 : (.methodLink RX5 63 yX5_either : Cond) ∈ gwL := gw_at 3 (z := tables_1_3) rfl (List.mem_of_getElem? (i := 5) rfl) rfl
theorem mw_112 : (.instanceMethod yX5_either : Cond) ∈ gwL := gw_at 3 (z := tables_1_3) rfl (List.mem_of_getElem? (i := 7) rfl) rfl
theorem mw_113 : (.selects RX5 yX5_either yX5_either : Cond) ∈ gwL := gw_at 0 (z := (k2_sels lw_privs)) rfl (List.mem_of_getElem? (i := 6) rfl) rfl
theorem mw_114 : (.code yX5_write cX5_write 2 none : Cond) ∈ gwL := gw_at 3 (z := tables_1_3) rfl (List.mem_of_getElem? (i := 43) rfl) rfl
theorem mw_115 : (.methodLink RX5 67 yX5_write : Cond) ∈ gwL := gw_at 3 (z := tables_1_3) rfl (List.mem_of_getElem? (i := 40) rfl) rfl
theorem mw_116 : (.instanceMethod yX5_write : Cond) ∈ gwL := gw_at 3 (z := tables_1_3) rfl (List.mem_of_getElem? (i := 42) rfl) rfl
theorem mw_117 : (.selects RX5 yX5_write yX5_write : Cond) ∈ gwL := gw_at 0 (z := (k2_sels lw_privs)) rfl (List.mem_of_getElem? (i := 14) rfl) rfl
theorem mw_118 : (.code yX5_line cX5_line 1 none : Cond) ∈ gwL := gw_at 3 (z := tables_1_3) rfl (List.mem_of_getElem? (i := 4) rfl) rfl
theorem mw_119 : (.methodLink RX5 53 yX5_line : Cond) ∈ gwL := gw_at 3 (z := tables_1_3) rfl (List.mem_of_getElem? (i := 1) rfl) rfl
theorem mw_120 : (.instanceMethod yX5_line : Cond) ∈ gwL := gw_at 3 (z := tables_1_3) rfl (List.mem_of_getElem? (i := 3) rfl) rfl
theorem mw_121 : (.selects RX5 yX5_line yX5_line : Cond) ∈ gwL := gw_at 0 (z := (k2_sels lw_privs)) rfl (List.mem_of_getElem? (i := 5) rfl) rfl
theorem mw_122 : (.code yX5_lines cX5_lines 2 none : Cond) ∈ gwL := gw_at 3 (z := tables_1_3) rfl (List.mem_of_getElem? (i := 0) rfl) rfl
theorem mw_123 : (.methodLink RX5 37 yX5_lines : Cond) ∈ gwL := gw_at 2 (z := tables_1_2) rfl (List.mem_of_getElem? (i := 237) rfl) rfl
theorem mw_124 : (.instanceMethod yX5_lines : Cond) ∈ gwL := gw_at 2 (z := tables_1_2) rfl (List.mem_of_getElem? (i := 239) rfl) rfl
theorem mw_125 : (.selects RX5 yX5_lines yX5_lines : Cond) ∈ gwL := gw_at 0 (z := (k2_sels lw_privs)) rfl (List.mem_of_getElem? (i := 4) rfl) rfl
theorem mw_126 : (.code yX5_isRead cX5_isRead 1 (some .int) : Cond) ∈ gwL := gw_at 2 (z := tables_1_2) rfl (List.mem_of_getElem? (i := 236) rfl) rfl
theorem mw_127 : (.methodLink RX11 139 yX5_isRead : Cond) ∈ gwL := gw_at 2 (z := tables_1_2) rfl (List.mem_of_getElem? (i := 233) rfl) rfl
theorem mw_128 : (.instanceMethod yX5_isRead : Cond) ∈ gwL := gw_at 2 (z := tables_1_2) rfl (List.mem_of_getElem? (i := 234) rfl) rfl
theorem mw_129 : (.selects RX5 yX5_isRead yX5_isRead : Cond) ∈ gwL := gw_at 2 (z := tables_1_2) rfl (List.mem_of_getElem? (i := 235) rfl) rfl
theorem mw_130 : (.fieldLink RX2 21 "SetAgain$Deed" "chair" "LSetAgain$Chair;" : Cond) ∈ gwL := gw_at 2 (z := tables_1_2) rfl (List.mem_of_getElem? (i := 15) rfl) rfl
theorem mw_131 : (.fieldLink RX2 41 "SetAgain$Chair" "stands" "[I" : Cond) ∈ gwL := gw_at 1 (z := tables_1_1) rfl (List.mem_of_getElem? (i := 75) rfl) rfl
theorem mw_132 : (.methodLink RX2 63 Lib.Math.abs.name : Cond) ∈ gwL := gw_at 4 (z := tables_1_4) rfl (List.mem_of_getElem? (i := 166) rfl) rfl
theorem mw_133 : (.static Lib.Math.abs.name : Cond) ∈ gwL := gw_at 3 (z := tables_1_3) rfl (List.mem_of_getElem? (i := 87) rfl) rfl
theorem mw_134 : (.initialized "java/lang/Math" : Cond) ∈ gwL := gw_at 1 (z := tables_1_1) rfl (List.mem_of_getElem? (i := 15) rfl) rfl
theorem mw_135 : (.code Lib.Math.abs.name Lib.Math.abs.code 1 (some .int) : Cond) ∈ gwL := gw_at 3 (z := tables_1_3) rfl (List.mem_of_getElem? (i := 88) rfl) rfl
theorem mw_136 : (.fieldLink RX2 11 "SetAgain$Deed" "told" "[I" : Cond) ∈ gwL := gw_at 2 (z := tables_1_2) rfl (List.mem_of_getElem? (i := 17) rfl) rfl
theorem mw_137 : (.fieldLink RX11 60 "SetAgain" "deed" "LSetAgain$Deed;" : Cond) ∈ gwL := gw_at 2 (z := tables_1_2) rfl (List.mem_of_getElem? (i := 125) rfl) rfl
theorem mw_138 : (.code yX2_turns cX2_turns 4 (some .int) : Cond) ∈ gwL := gw_at 4 (z := tables_1_4) rfl (List.mem_of_getElem? (i := 165) rfl) rfl
theorem mw_139 : (.methodLink RX11 225 yX2_turns : Cond) ∈ gwL := gw_at 4 (z := tables_1_4) rfl (List.mem_of_getElem? (i := 162) rfl) rfl
theorem mw_140 : (.instanceMethod yX2_turns : Cond) ∈ gwL := gw_at 4 (z := tables_1_4) rfl (List.mem_of_getElem? (i := 163) rfl) rfl
theorem mw_141 : (.selects RX2 yX2_turns yX2_turns : Cond) ∈ gwL := gw_at 4 (z := tables_1_4) rfl (List.mem_of_getElem? (i := 164) rfl) rfl
theorem mw_142 : (.initialized RX2 : Cond) ∈ gwL := gw_at 1 (z := tables_1_1) rfl (List.mem_of_getElem? (i := 9) rfl) rfl
theorem mw_143 : (.methodLink RX0 36 Lib.Math.max.name : Cond) ∈ gwL := gw_at 3 (z := tables_1_3) rfl (List.mem_of_getElem? (i := 96) rfl) rfl
theorem mw_144 : (.static Lib.Math.max.name : Cond) ∈ gwL := gw_at 3 (z := tables_1_3) rfl (List.mem_of_getElem? (i := 97) rfl) rfl
theorem mw_145 : (.code Lib.Math.max.name Lib.Math.max.code 2 (some .int) : Cond) ∈ gwL := gw_at 3 (z := tables_1_3) rfl (List.mem_of_getElem? (i := 98) rfl) rfl
theorem mw_146 : (.code yX0_slipped cX0_slipped 3 (some .int) : Cond) ∈ gwL := gw_at 3 (z := tables_1_3) rfl (List.mem_of_getElem? (i := 168) rfl) rfl
theorem mw_147 : (.methodLink RX2 69 yX0_slipped : Cond) ∈ gwL := gw_at 4 (z := tables_1_4) rfl (List.mem_of_getElem? (i := 175) rfl) rfl
theorem mw_148 : (.instanceMethod yX0_slipped : Cond) ∈ gwL := gw_at 3 (z := tables_1_3) rfl (List.mem_of_getElem? (i := 166) rfl) rfl
theorem mw_149 : (.selects RX0 yX0_slipped yX0_slipped : Cond) ∈ gwL := gw_at 3 (z := tables_1_3) rfl (List.mem_of_getElem? (i := 167) rfl) rfl
theorem mw_150 : (.code yX2_allSlip cX2_allSlip 4 (some .int) : Cond) ∈ gwL := gw_at 4 (z := tables_1_4) rfl (List.mem_of_getElem? (i := 174) rfl) rfl
theorem mw_151 : (.methodLink RX11 228 yX2_allSlip : Cond) ∈ gwL := gw_at 4 (z := tables_1_4) rfl (List.mem_of_getElem? (i := 171) rfl) rfl
theorem mw_152 : (.instanceMethod yX2_allSlip : Cond) ∈ gwL := gw_at 4 (z := tables_1_4) rfl (List.mem_of_getElem? (i := 172) rfl) rfl
theorem mw_153 : (.selects RX2 yX2_allSlip yX2_allSlip : Cond) ∈ gwL := gw_at 4 (z := tables_1_4) rfl (List.mem_of_getElem? (i := 173) rfl) rfl
theorem mw_154 : (.fieldLink RX11 231 "SetAgain$Deed" "told" "[I" : Cond) ∈ gwL := gw_at 2 (z := tables_1_2) rfl (List.mem_of_getElem? (i := 18) rfl) rfl
theorem mw_155 : (.fieldLink RX2 15 "SetAgain$Deed" "keptTold" "[I" : Cond) ∈ gwL := gw_at 2 (z := tables_1_2) rfl (List.mem_of_getElem? (i := 19) rfl) rfl
theorem mw_156 : (.methodLink RX2 46 arraycopyName : Cond) ∈ gwL := gw_at 4 (z := tables_1_4) rfl (List.mem_of_getElem? (i := 156) rfl) rfl
theorem mw_157 : (.native arraycopyName : Cond) ∈ gwL := gw_at 2 (z := tables_1_2) rfl (List.mem_of_getElem? (i := 209) rfl) rfl
theorem mw_158 : (.static arraycopyName : Cond) ∈ gwL := gw_at 2 (z := tables_1_2) rfl (List.mem_of_getElem? (i := 208) rfl) rfl
theorem mw_159 : (.initialized "java/lang/System" : Cond) ∈ gwL := gw_at 1 (z := tables_1_1) rfl (List.mem_of_getElem? (i := 14) rfl) rfl
theorem mw_160 : (.fieldLink RX2 18 "SetAgain$Deed" "keptStands" "[I" : Cond) ∈ gwL := gw_at 2 (z := tables_1_2) rfl (List.mem_of_getElem? (i := 20) rfl) rfl
theorem mw_161 : (.fieldLink RX2 73 "SetAgain$Deed" "kept" "Z" : Cond) ∈ gwL := gw_at 2 (z := tables_1_2) rfl (List.mem_of_getElem? (i := 21) rfl) rfl
theorem mw_162 : (.code yX2_keepImage cX2_keepImage 1 (some .int) : Cond) ∈ gwL := gw_at 4 (z := tables_1_4) rfl (List.mem_of_getElem? (i := 187) rfl) rfl
theorem mw_163 : (.methodLink RX11 232 yX2_keepImage : Cond) ∈ gwL := gw_at 4 (z := tables_1_4) rfl (List.mem_of_getElem? (i := 184) rfl) rfl
theorem mw_164 : (.instanceMethod yX2_keepImage : Cond) ∈ gwL := gw_at 4 (z := tables_1_4) rfl (List.mem_of_getElem? (i := 185) rfl) rfl
theorem mw_165 : (.selects RX2 yX2_keepImage yX2_keepImage : Cond) ∈ gwL := gw_at 4 (z := tables_1_4) rfl (List.mem_of_getElem? (i := 186) rfl) rfl
theorem mw_166 : (.code yX2_layBack cX2_layBack 1 (some .int) : Cond) ∈ gwL := gw_at 4 (z := tables_1_4) rfl (List.mem_of_getElem? (i := 195) rfl) rfl
theorem mw_167 : (.methodLink RX11 235 yX2_layBack : Cond) ∈ gwL := gw_at 4 (z := tables_1_4) rfl (List.mem_of_getElem? (i := 192) rfl) rfl
theorem mw_168 : (.instanceMethod yX2_layBack : Cond) ∈ gwL := gw_at 4 (z := tables_1_4) rfl (List.mem_of_getElem? (i := 193) rfl) rfl
theorem mw_169 : (.selects RX2 yX2_layBack yX2_layBack : Cond) ∈ gwL := gw_at 4 (z := tables_1_4) rfl (List.mem_of_getElem? (i := 194) rfl) rfl
theorem mw_170 : (.fieldLink RX11 238 "SetAgain$Changes" "done" "I" : Cond) ∈ gwL := gw_at 2 (z := tables_1_2) rfl (List.mem_of_getElem? (i := 48) rfl) rfl
theorem mw_171 : (.fieldLink RX11 247 "SetAgain$Changes" "kept" "I" : Cond) ∈ gwL := gw_at 2 (z := tables_1_2) rfl (List.mem_of_getElem? (i := 50) rfl) rfl
theorem mw_172 : (.fieldLink RX3 18 "SetAgain$Desks" "kept" "I" : Cond) ∈ gwL := gw_at 2 (z := tables_1_2) rfl (List.mem_of_getElem? (i := 71) rfl) rfl
theorem mw_173 : (.fieldLink RX3 9 "SetAgain$Desks" "kinds" "[I" : Cond) ∈ gwL := gw_at 2 (z := tables_1_2) rfl (List.mem_of_getElem? (i := 68) rfl) rfl
theorem mw_174 : (.code yX11_isKind cX11_isKind 1 (some .boolean) : Cond) ∈ gwL := gw_at 4 (z := tables_1_4) rfl (List.mem_of_getElem? (i := 210) rfl) rfl
theorem mw_175 : (.methodLink RX11 253 yX11_isKind : Cond) ∈ gwL := gw_at 4 (z := tables_1_4) rfl (List.mem_of_getElem? (i := 208) rfl) rfl
theorem mw_176 : (.static yX11_isKind : Cond) ∈ gwL := gw_at 4 (z := tables_1_4) rfl (List.mem_of_getElem? (i := 209) rfl) rfl
theorem mw_177 : (.fieldLink RX11 74 "SetAgain" "desks" "LSetAgain$Desks;" : Cond) ∈ gwL := gw_at 2 (z := tables_1_2) rfl (List.mem_of_getElem? (i := 127) rfl) rfl
theorem mw_178 : (.code yX3_comes cX3_comes 2 (some .int) : Cond) ∈ gwL := gw_at 4 (z := tables_1_4) rfl (List.mem_of_getElem? (i := 214) rfl) rfl
theorem mw_179 : (.methodLink RX11 256 yX3_comes : Cond) ∈ gwL := gw_at 4 (z := tables_1_4) rfl (List.mem_of_getElem? (i := 211) rfl) rfl
theorem mw_180 : (.instanceMethod yX3_comes : Cond) ∈ gwL := gw_at 4 (z := tables_1_4) rfl (List.mem_of_getElem? (i := 212) rfl) rfl
theorem mw_181 : (.selects RX3 yX3_comes yX3_comes : Cond) ∈ gwL := gw_at 4 (z := tables_1_4) rfl (List.mem_of_getElem? (i := 213) rfl) rfl
theorem mw_182 : (.initialized RX3 : Cond) ∈ gwL := gw_at 1 (z := tables_1_1) rfl (List.mem_of_getElem? (i := 11) rfl) rfl
theorem mw_183 : (.fieldLink RX3 25 "SetAgain$Desks" "ran" "I" : Cond) ∈ gwL := gw_at 2 (z := tables_1_2) rfl (List.mem_of_getElem? (i := 73) rfl) rfl
theorem mw_184 : (.code yX3_acts cX3_acts 4 (some .int) : Cond) ∈ gwL := gw_at 4 (z := tables_1_4) rfl (List.mem_of_getElem? (i := 222) rfl) rfl
theorem mw_185 : (.methodLink RX11 257 yX3_acts : Cond) ∈ gwL := gw_at 4 (z := tables_1_4) rfl (List.mem_of_getElem? (i := 219) rfl) rfl
theorem mw_186 : (.instanceMethod yX3_acts : Cond) ∈ gwL := gw_at 4 (z := tables_1_4) rfl (List.mem_of_getElem? (i := 220) rfl) rfl
theorem mw_187 : (.selects RX3 yX3_acts yX3_acts : Cond) ∈ gwL := gw_at 4 (z := tables_1_4) rfl (List.mem_of_getElem? (i := 221) rfl) rfl
theorem mw_188 : (.fieldLink RX11 260 "SetAgain$Desks" "ran" "I" : Cond) ∈ gwL := gw_at 2 (z := tables_1_2) rfl (List.mem_of_getElem? (i := 74) rfl) rfl
theorem mw_189 : (.methodLink RX11 263 Lib.Math.min.name : Cond) ∈ gwL := gw_at 4 (z := tables_1_4) rfl (List.mem_of_getElem? (i := 133) rfl) rfl
theorem mw_190 : (.static Lib.Math.min.name : Cond) ∈ gwL := gw_at 3 (z := tables_1_3) rfl (List.mem_of_getElem? (i := 94) rfl) rfl
theorem mw_191 : (.code Lib.Math.min.name Lib.Math.min.code 2 (some .int) : Cond) ∈ gwL := gw_at 3 (z := tables_1_3) rfl (List.mem_of_getElem? (i := 95) rfl) rfl
theorem mw_192 : (.fieldLink RX7 15 "SetAgain$Shelf" "sort" "I" : Cond) ∈ gwL := gw_at 2 (z := tables_1_2) rfl (List.mem_of_getElem? (i := 101) rfl) rfl
theorem mw_193 : (.fieldLink RX7 19 "SetAgain$Shelf" "desk" "I" : Cond) ∈ gwL := gw_at 2 (z := tables_1_2) rfl (List.mem_of_getElem? (i := 107) rfl) rfl
theorem mw_194 : (.fieldLink RX11 271 "SetAgain$Desks" "kept" "I" : Cond) ∈ gwL := gw_at 2 (z := tables_1_2) rfl (List.mem_of_getElem? (i := 72) rfl) rfl
theorem mw_195 : (.code yX7_takesDesk cX7_takesDesk 2 none : Cond) ∈ gwL := gw_at 5 (z := tables_1_5) rfl (List.mem_of_getElem? (i := 9) rfl) rfl
theorem mw_196 : (.methodLink RX11 272 yX7_takesDesk : Cond) ∈ gwL := gw_at 5 (z := tables_1_5) rfl (List.mem_of_getElem? (i := 6) rfl) rfl
theorem mw_197 : (.instanceMethod yX7_takesDesk : Cond) ∈ gwL := gw_at 5 (z := tables_1_5) rfl (List.mem_of_getElem? (i := 7) rfl) rfl
theorem mw_198 : (.selects RX7 yX7_takesDesk yX7_takesDesk : Cond) ∈ gwL := gw_at 5 (z := tables_1_5) rfl (List.mem_of_getElem? (i := 8) rfl) rfl
theorem mw_199 : (.initialized RX7 : Cond) ∈ gwL := gw_at 1 (z := tables_1_1) rfl (List.mem_of_getElem? (i := 12) rfl) rfl
theorem mw_200 : (.fieldLink RX7 22 "SetAgain$Shelf" "length" "I" : Cond) ∈ gwL := gw_at 2 (z := tables_1_2) rfl (List.mem_of_getElem? (i := 104) rfl) rfl
theorem mw_201 : (.fieldLink RX7 9 "SetAgain$Shelf" "elements" "[J" : Cond) ∈ gwL := gw_at 2 (z := tables_1_2) rfl (List.mem_of_getElem? (i := 97) rfl) rfl
theorem mw_202 : (.code yX7_takesRow cX7_takesRow 4 none : Cond) ∈ gwL := gw_at 5 (z := tables_1_5) rfl (List.mem_of_getElem? (i := 17) rfl) rfl
theorem mw_203 : (.methodLink RX11 275 yX7_takesRow : Cond) ∈ gwL := gw_at 5 (z := tables_1_5) rfl (List.mem_of_getElem? (i := 14) rfl) rfl
theorem mw_204 : (.instanceMethod yX7_takesRow : Cond) ∈ gwL := gw_at 5 (z := tables_1_5) rfl (List.mem_of_getElem? (i := 15) rfl) rfl
theorem mw_205 : (.selects RX7 yX7_takesRow yX7_takesRow : Cond) ∈ gwL := gw_at 5 (z := tables_1_5) rfl (List.mem_of_getElem? (i := 16) rfl) rfl
theorem mw_206 : (.code yX11_refusalAt cX11_refusalAt 4 (some .int) : Cond) ∈ gwL := gw_at 5 (z := tables_1_5) rfl (List.mem_of_getElem? (i := 25) rfl) rfl
theorem mw_207 : (.methodLink RX11 278 yX11_refusalAt : Cond) ∈ gwL := gw_at 5 (z := tables_1_5) rfl (List.mem_of_getElem? (i := 22) rfl) rfl
theorem mw_208 : (.instanceMethod yX11_refusalAt : Cond) ∈ gwL := gw_at 5 (z := tables_1_5) rfl (List.mem_of_getElem? (i := 24) rfl) rfl
theorem mw_209 : (.selects RX11 yX11_refusalAt yX11_refusalAt : Cond) ∈ gwL := gw_at 0 (z := (k2_sels lw_privs)) rfl (List.mem_of_getElem? (i := 45) rfl) rfl
theorem mw_210 : (.constantLong RX11 289 (-9223372036854775808) : Cond) ∈ gwL := gw_at 5 (z := tables_1_5) rfl (List.mem_of_getElem? (i := 38) rfl) rfl
theorem mw_211 : (.fieldLink RX11 310 "SetAgain$Chair" "sitters" "I" : Cond) ∈ gwL := gw_at 1 (z := tables_1_1) rfl (List.mem_of_getElem? (i := 84) rfl) rfl
theorem mw_212 : (.fieldLink RX11 313 "SetAgain$Law" "length" "I" : Cond) ∈ gwL := gw_at 1 (z := tables_1_1) rfl (List.mem_of_getElem? (i := 39) rfl) rfl
theorem mw_213 : (.constantLong RX12 113 (2) : Cond) ∈ gwL := gw_at 6 (z := tables_1_6) rfl (List.mem_of_getElem? (i := 38) rfl) rfl
theorem mw_214 : (.code yX12_within cX12_within 6 (some .boolean) : Cond) ∈ gwL := gw_at 6 (z := tables_1_6) rfl (List.mem_of_getElem? (i := 6) rfl) rfl
theorem mw_215 : (.methodLink RX12 109 yX12_within : Cond) ∈ gwL := gw_at 6 (z := tables_1_6) rfl (List.mem_of_getElem? (i := 4) rfl) rfl
theorem mw_216 : (.static yX12_within : Cond) ∈ gwL := gw_at 6 (z := tables_1_6) rfl (List.mem_of_getElem? (i := 5) rfl) rfl
theorem mw_217 : (.initialized RX12 : Cond) ∈ gwL := gw_at 1 (z := tables_1_1) rfl (List.mem_of_getElem? (i := 13) rfl) rfl
theorem mw_218 : (.constantLong RX12 115 (60) : Cond) ∈ gwL := gw_at 6 (z := tables_1_6) rfl (List.mem_of_getElem? (i := 3) rfl) rfl
theorem mw_219 : (.constantLong RX12 385 (5) : Cond) ∈ gwL := gw_at 6 (z := tables_1_6) rfl (List.mem_of_getElem? (i := 19) rfl) rfl
theorem mw_220 : (.fieldLink RX12 106 "SetAgainModel" "sitters" "I" : Cond) ∈ gwL := gw_at 5 (z := tables_1_5) rfl (List.mem_of_getElem? (i := 68) rfl) rfl
theorem mw_221 : (.fieldLink RX12 355 "SetAgainModel" "bodies" "I" : Cond) ∈ gwL := gw_at 5 (z := tables_1_5) rfl (List.mem_of_getElem? (i := 107) rfl) rfl
theorem mw_222 : (.code yX12_isShelf cX12_isShelf 1 (some .boolean) : Cond) ∈ gwL := gw_at 6 (z := tables_1_6) rfl (List.mem_of_getElem? (i := 18) rfl) rfl
theorem mw_223 : (.methodLink RX12 127 yX12_isShelf : Cond) ∈ gwL := gw_at 6 (z := tables_1_6) rfl (List.mem_of_getElem? (i := 16) rfl) rfl
theorem mw_224 : (.static yX12_isShelf : Cond) ∈ gwL := gw_at 6 (z := tables_1_6) rfl (List.mem_of_getElem? (i := 17) rfl) rfl
theorem mw_225 : (.fieldLink RX12 74 "SetAgainModel" "shelf" "[I" : Cond) ∈ gwL := gw_at 5 (z := tables_1_5) rfl (List.mem_of_getElem? (i := 113) rfl) rfl
theorem mw_226 : (.code yX12_isSitter cX12_isSitter 3 (some .boolean) : Cond) ∈ gwL := gw_at 6 (z := tables_1_6) rfl (List.mem_of_getElem? (i := 33) rfl) rfl
theorem mw_227 : (.methodLink RX12 135 yX12_isSitter : Cond) ∈ gwL := gw_at 6 (z := tables_1_6) rfl (List.mem_of_getElem? (i := 30) rfl) rfl
theorem mw_228 : (.instanceMethod yX12_isSitter : Cond) ∈ gwL := gw_at 6 (z := tables_1_6) rfl (List.mem_of_getElem? (i := 32) rfl) rfl
theorem mw_229 : (.selects RX12 yX12_isSitter yX12_isSitter : Cond) ∈ gwL := gw_at 0 (z := (k2_sels lw_privs)) rfl (List.mem_of_getElem? (i := 48) rfl) rfl
theorem mw_230 : (.code yX12_bytesIs cX12_bytesIs 2 (some .int) : Cond) ∈ gwL := gw_at 6 (z := tables_1_6) rfl (List.mem_of_getElem? (i := 124) rfl) rfl
theorem mw_231 : (.methodLink RX12 224 yX12_bytesIs : Cond) ∈ gwL := gw_at 6 (z := tables_1_6) rfl (List.mem_of_getElem? (i := 121) rfl) rfl
theorem mw_232 : (.instanceMethod yX12_bytesIs : Cond) ∈ gwL := gw_at 6 (z := tables_1_6) rfl (List.mem_of_getElem? (i := 123) rfl) rfl
theorem mw_233 : (.selects RX12 yX12_bytesIs yX12_bytesIs : Cond) ∈ gwL := gw_at 0 (z := (k2_sels lw_privs)) rfl (List.mem_of_getElem? (i := 62) rfl) rfl
theorem mw_234 : (.code yX12_isPart cX12_isPart 1 (some .boolean) : Cond) ∈ gwL := gw_at 6 (z := tables_1_6) rfl (List.mem_of_getElem? (i := 37) rfl) rfl
theorem mw_235 : (.methodLink RX12 140 yX12_isPart : Cond) ∈ gwL := gw_at 6 (z := tables_1_6) rfl (List.mem_of_getElem? (i := 35) rfl) rfl
theorem mw_236 : (.static yX12_isPart : Cond) ∈ gwL := gw_at 6 (z := tables_1_6) rfl (List.mem_of_getElem? (i := 36) rfl) rfl
theorem mw_237 : (.code yX12_isSetting cX12_isSetting 2 (some .boolean) : Cond) ∈ gwL := gw_at 6 (z := tables_1_6) rfl (List.mem_of_getElem? (i := 2) rfl) rfl
theorem mw_238 : (.methodLink RX12 117 yX12_isSetting : Cond) ∈ gwL := gw_at 6 (z := tables_1_6) rfl (List.mem_of_getElem? (i := 0) rfl) rfl
theorem mw_239 : (.static yX12_isSetting : Cond) ∈ gwL := gw_at 6 (z := tables_1_6) rfl (List.mem_of_getElem? (i := 1) rfl) rfl
theorem mw_240 : (.constantLong RX12 230 (3) : Cond) ∈ gwL := gw_at 6 (z := tables_1_6) rfl (List.mem_of_getElem? (i := 141) rfl) rfl
theorem mw_241 : (.constant RX12 308 (-2000000000) : Cond) ∈ gwL := gw_at 7 (z := tables_1_7) rfl (List.mem_of_getElem? (i := 0) rfl) rfl
theorem mw_242 : (.constantLong RX12 323 (11) : Cond) ∈ gwL := gw_at 7 (z := tables_1_7) rfl (List.mem_of_getElem? (i := 21) rfl) rfl
theorem mw_243 : (.constantLong RX12 334 (20) : Cond) ∈ gwL := gw_at 7 (z := tables_1_7) rfl (List.mem_of_getElem? (i := 43) rfl) rfl
theorem mw_244 : (.fieldLink RX12 9 "SetAgainModel" "may" "[I" : Cond) ∈ gwL := gw_at 5 (z := tables_1_5) rfl (List.mem_of_getElem? (i := 62) rfl) rfl
theorem mw_245 : (.constantLong RX12 121 (12) : Cond) ∈ gwL := gw_at 6 (z := tables_1_6) rfl (List.mem_of_getElem? (i := 7) rfl) rfl
theorem mw_246 : (.code yX12_adds cX12_adds 6 none : Cond) ∈ gwL := gw_at 6 (z := tables_1_6) rfl (List.mem_of_getElem? (i := 11) rfl) rfl
theorem mw_247 : (.methodLink RX12 123 yX12_adds : Cond) ∈ gwL := gw_at 6 (z := tables_1_6) rfl (List.mem_of_getElem? (i := 8) rfl) rfl
theorem mw_248 : (.instanceMethod yX12_adds : Cond) ∈ gwL := gw_at 6 (z := tables_1_6) rfl (List.mem_of_getElem? (i := 10) rfl) rfl
theorem mw_249 : (.selects RX12 yX12_adds yX12_adds : Cond) ∈ gwL := gw_at 0 (z := (k2_sels lw_privs)) rfl (List.mem_of_getElem? (i := 46) rfl) rfl
theorem mw_250 : (.constantLong RX12 131 (8) : Cond) ∈ gwL := gw_at 6 (z := tables_1_6) rfl (List.mem_of_getElem? (i := 20) rfl) rfl
theorem mw_251 : (.constantLong RX12 133 (7) : Cond) ∈ gwL := gw_at 6 (z := tables_1_6) rfl (List.mem_of_getElem? (i := 29) rfl) rfl
theorem mw_252 : (.constantLong RX12 138 (9) : Cond) ∈ gwL := gw_at 6 (z := tables_1_6) rfl (List.mem_of_getElem? (i := 34) rfl) rfl
theorem mw_253 : (.fieldLink RX12 100 "SetAgainModel" "done" "I" : Cond) ∈ gwL := gw_at 5 (z := tables_1_5) rfl (List.mem_of_getElem? (i := 67) rfl) rfl
theorem mw_254 : (.fieldLink RX12 13 "SetAgainModel" "changeAt" "[I" : Cond) ∈ gwL := gw_at 5 (z := tables_1_5) rfl (List.mem_of_getElem? (i := 63) rfl) rfl
theorem mw_255 : (.fieldLink RX12 16 "SetAgainModel" "changeWas" "[I" : Cond) ∈ gwL := gw_at 5 (z := tables_1_5) rfl (List.mem_of_getElem? (i := 64) rfl) rfl
theorem mw_256 : (.fieldLink RX12 19 "SetAgainModel" "changeIs" "[I" : Cond) ∈ gwL := gw_at 5 (z := tables_1_5) rfl (List.mem_of_getElem? (i := 65) rfl) rfl
theorem mw_257 : (.fieldLink RX12 103 "SetAgainModel" "keptMany" "I" : Cond) ∈ gwL := gw_at 5 (z := tables_1_5) rfl (List.mem_of_getElem? (i := 66) rfl) rfl
theorem mw_258 : (.code yX12_placeOf cX12_placeOf 3 (some .int) : Cond) ∈ gwL := gw_at 6 (z := tables_1_6) rfl (List.mem_of_getElem? (i := 28) rfl) rfl
theorem mw_259 : (.methodLink RX12 143 yX12_placeOf : Cond) ∈ gwL := gw_at 6 (z := tables_1_6) rfl (List.mem_of_getElem? (i := 25) rfl) rfl
theorem mw_260 : (.instanceMethod yX12_placeOf : Cond) ∈ gwL := gw_at 6 (z := tables_1_6) rfl (List.mem_of_getElem? (i := 27) rfl) rfl
theorem mw_261 : (.selects RX12 yX12_placeOf yX12_placeOf : Cond) ∈ gwL := gw_at 0 (z := (k2_sels lw_privs)) rfl (List.mem_of_getElem? (i := 47) rfl) rfl
theorem mw_262 : (.code yX12_mostOf cX12_mostOf 1 (some .int) : Cond) ∈ gwL := gw_at 6 (z := tables_1_6) rfl (List.mem_of_getElem? (i := 41) rfl) rfl
theorem mw_263 : (.methodLink RX12 147 yX12_mostOf : Cond) ∈ gwL := gw_at 6 (z := tables_1_6) rfl (List.mem_of_getElem? (i := 39) rfl) rfl
theorem mw_264 : (.static yX12_mostOf : Cond) ∈ gwL := gw_at 6 (z := tables_1_6) rfl (List.mem_of_getElem? (i := 40) rfl) rfl
theorem mw_265 : (.code yX12_becomes cX12_becomes 5 (some .int) : Cond) ∈ gwL := gw_at 6 (z := tables_1_6) rfl (List.mem_of_getElem? (i := 45) rfl) rfl
theorem mw_266 : (.methodLink RX12 151 yX12_becomes : Cond) ∈ gwL := gw_at 6 (z := tables_1_6) rfl (List.mem_of_getElem? (i := 42) rfl) rfl
theorem mw_267 : (.instanceMethod yX12_becomes : Cond) ∈ gwL := gw_at 6 (z := tables_1_6) rfl (List.mem_of_getElem? (i := 44) rfl) rfl
theorem mw_268 : (.selects RX12 yX12_becomes yX12_becomes : Cond) ∈ gwL := gw_at 0 (z := (k2_sels lw_privs)) rfl (List.mem_of_getElem? (i := 49) rfl) rfl
theorem mw_269 : (.fieldLink RX12 22 "SetAgainModel" "stands" "[I" : Cond) ∈ gwL := gw_at 5 (z := tables_1_5) rfl (List.mem_of_getElem? (i := 69) rfl) rfl
theorem mw_270 : (.constantLong RX12 154 (255) : Cond) ∈ gwL := gw_at 6 (z := tables_1_6) rfl (List.mem_of_getElem? (i := 54) rfl) rfl
theorem mw_271 : (.fieldLink RX12 156 "SetAgainModel" "tapeMany" "I" : Cond) ∈ gwL := gw_at 5 (z := tables_1_5) rfl (List.mem_of_getElem? (i := 71) rfl) rfl
theorem mw_272 : (.fieldLink RX12 25 "SetAgainModel" "tape" "[I" : Cond) ∈ gwL := gw_at 5 (z := tables_1_5) rfl (List.mem_of_getElem? (i := 70) rfl) rfl
theorem mw_273 : (.fieldLink RX12 159 "SetAgainModel" "at" "I" : Cond) ∈ gwL := gw_at 5 (z := tables_1_5) rfl (List.mem_of_getElem? (i := 75) rfl) rfl
theorem mw_274 : (.fieldLink RX12 162 "SetAgainModel" "ends" "I" : Cond) ∈ gwL := gw_at 5 (z := tables_1_5) rfl (List.mem_of_getElem? (i := 76) rfl) rfl
theorem mw_275 : (.fieldLink RX12 168 "SetAgainModel" "fault" "I" : Cond) ∈ gwL := gw_at 5 (z := tables_1_5) rfl (List.mem_of_getElem? (i := 77) rfl) rfl
theorem mw_276 : (.code yX12_byteAt cX12_byteAt 1 (some .int) : Cond) ∈ gwL := gw_at 6 (z := tables_1_6) rfl (List.mem_of_getElem? (i := 90) rfl) rfl
theorem mw_277 : (.methodLink RX12 171 yX12_byteAt : Cond) ∈ gwL := gw_at 6 (z := tables_1_6) rfl (List.mem_of_getElem? (i := 87) rfl) rfl
theorem mw_278 : (.instanceMethod yX12_byteAt : Cond) ∈ gwL := gw_at 6 (z := tables_1_6) rfl (List.mem_of_getElem? (i := 89) rfl) rfl
theorem mw_279 : (.selects RX12 yX12_byteAt yX12_byteAt : Cond) ∈ gwL := gw_at 0 (z := (k2_sels lw_privs)) rfl (List.mem_of_getElem? (i := 57) rfl) rfl
theorem mw_280 : (.code yX12_nameOf cX12_nameOf 1 (some .int) : Cond) ∈ gwL := gw_at 6 (z := tables_1_6) rfl (List.mem_of_getElem? (i := 101) rfl) rfl
theorem mw_281 : (.methodLink RX12 202 yX12_nameOf : Cond) ∈ gwL := gw_at 6 (z := tables_1_6) rfl (List.mem_of_getElem? (i := 99) rfl) rfl
theorem mw_282 : (.static yX12_nameOf : Cond) ∈ gwL := gw_at 6 (z := tables_1_6) rfl (List.mem_of_getElem? (i := 100) rfl) rfl
theorem mw_283 : (.code yX12_wrong cX12_wrong 1 (some .int) : Cond) ∈ gwL := gw_at 6 (z := tables_1_6) rfl (List.mem_of_getElem? (i := 94) rfl) rfl
theorem mw_284 : (.methodLink RX12 196 yX12_wrong : Cond) ∈ gwL := gw_at 6 (z := tables_1_6) rfl (List.mem_of_getElem? (i := 91) rfl) rfl
theorem mw_285 : (.instanceMethod yX12_wrong : Cond) ∈ gwL := gw_at 6 (z := tables_1_6) rfl (List.mem_of_getElem? (i := 93) rfl) rfl
theorem mw_286 : (.selects RX12 yX12_wrong yX12_wrong : Cond) ∈ gwL := gw_at 0 (z := (k2_sels lw_privs)) rfl (List.mem_of_getElem? (i := 58) rfl) rfl
theorem mw_287 : (.code yX12_one cX12_one 5 (some .int) : Cond) ∈ gwL := gw_at 6 (z := tables_1_6) rfl (List.mem_of_getElem? (i := 86) rfl) rfl
theorem mw_288 : (.methodLink RX12 190 yX12_one : Cond) ∈ gwL := gw_at 6 (z := tables_1_6) rfl (List.mem_of_getElem? (i := 83) rfl) rfl
theorem mw_289 : (.instanceMethod yX12_one : Cond) ∈ gwL := gw_at 6 (z := tables_1_6) rfl (List.mem_of_getElem? (i := 85) rfl) rfl
theorem mw_290 : (.selects RX12 yX12_one yX12_one : Cond) ∈ gwL := gw_at 0 (z := (k2_sels lw_privs)) rfl (List.mem_of_getElem? (i := 56) rfl) rfl
theorem mw_291 : (.code yX12_product cX12_product 4 (some .int) : Cond) ∈ gwL := gw_at 6 (z := tables_1_6) rfl (List.mem_of_getElem? (i := 82) rfl) rfl
theorem mw_292 : (.methodLink RX12 187 yX12_product : Cond) ∈ gwL := gw_at 6 (z := tables_1_6) rfl (List.mem_of_getElem? (i := 79) rfl) rfl
theorem mw_293 : (.instanceMethod yX12_product : Cond) ∈ gwL := gw_at 6 (z := tables_1_6) rfl (List.mem_of_getElem? (i := 81) rfl) rfl
theorem mw_294 : (.selects RX12 yX12_product yX12_product : Cond) ∈ gwL := gw_at 0 (z := (k2_sels lw_privs)) rfl (List.mem_of_getElem? (i := 55) rfl) rfl
theorem mw_295 : (.code yX12_sums cX12_sums 4 (some .int) : Cond) ∈ gwL := gw_at 6 (z := tables_1_6) rfl (List.mem_of_getElem? (i := 78) rfl) rfl
theorem mw_296 : (.methodLink RX12 184 yX12_sums : Cond) ∈ gwL := gw_at 6 (z := tables_1_6) rfl (List.mem_of_getElem? (i := 75) rfl) rfl
theorem mw_297 : (.instanceMethod yX12_sums : Cond) ∈ gwL := gw_at 6 (z := tables_1_6) rfl (List.mem_of_getElem? (i := 77) rfl) rfl
theorem mw_298 : (.selects RX12 yX12_sums yX12_sums : Cond) ∈ gwL := gw_at 0 (z := (k2_sels lw_privs)) rfl (List.mem_of_getElem? (i := 54) rfl) rfl
theorem mw_299 : (.code yX12_compared cX12_compared 4 (some .int) : Cond) ∈ gwL := gw_at 6 (z := tables_1_6) rfl (List.mem_of_getElem? (i := 74) rfl) rfl
end
section
theorem mw_300 : (.methodLink RX12 181 yX12_compared : Cond) ∈ gwL := gw_at 6 (z := tables_1_6) rfl (List.mem_of_getElem? (i := 71) rfl) rfl
theorem mw_301 : (.instanceMethod yX12_compared : Cond) ∈ gwL := gw_at 6 (z := tables_1_6) rfl (List.mem_of_getElem? (i := 73) rfl) rfl
theorem mw_302 : (.selects RX12 yX12_compared yX12_compared : Cond) ∈ gwL := gw_at 0 (z := (k2_sels lw_privs)) rfl (List.mem_of_getElem? (i := 53) rfl) rfl
theorem mw_303 : (.code yX12_takes cX12_takes 2 (some .boolean) : Cond) ∈ gwL := gw_at 6 (z := tables_1_6) rfl (List.mem_of_getElem? (i := 98) rfl) rfl
theorem mw_304 : (.methodLink RX12 178 yX12_takes : Cond) ∈ gwL := gw_at 6 (z := tables_1_6) rfl (List.mem_of_getElem? (i := 95) rfl) rfl
theorem mw_305 : (.instanceMethod yX12_takes : Cond) ∈ gwL := gw_at 6 (z := tables_1_6) rfl (List.mem_of_getElem? (i := 97) rfl) rfl
theorem mw_306 : (.selects RX12 yX12_takes yX12_takes : Cond) ∈ gwL := gw_at 0 (z := (k2_sels lw_privs)) rfl (List.mem_of_getElem? (i := 59) rfl) rfl
theorem mw_307 : (.code yX12_both cX12_both 3 (some .int) : Cond) ∈ gwL := gw_at 6 (z := tables_1_6) rfl (List.mem_of_getElem? (i := 70) rfl) rfl
theorem mw_308 : (.methodLink RX12 175 yX12_both : Cond) ∈ gwL := gw_at 6 (z := tables_1_6) rfl (List.mem_of_getElem? (i := 67) rfl) rfl
theorem mw_309 : (.instanceMethod yX12_both : Cond) ∈ gwL := gw_at 6 (z := tables_1_6) rfl (List.mem_of_getElem? (i := 69) rfl) rfl
theorem mw_310 : (.selects RX12 yX12_both yX12_both : Cond) ∈ gwL := gw_at 0 (z := (k2_sels lw_privs)) rfl (List.mem_of_getElem? (i := 52) rfl) rfl
theorem mw_311 : (.fieldLink RX12 165 "SetAgainModel" "base" "I" : Cond) ∈ gwL := gw_at 5 (z := tables_1_5) rfl (List.mem_of_getElem? (i := 74) rfl) rfl
theorem mw_312 : (.fieldLink RX12 193 "SetAgainModel" "opened" "I" : Cond) ∈ gwL := gw_at 5 (z := tables_1_5) rfl (List.mem_of_getElem? (i := 78) rfl) rfl
theorem mw_313 : (.code yX12_either cX12_either 3 (some .int) : Cond) ∈ gwL := gw_at 6 (z := tables_1_6) rfl (List.mem_of_getElem? (i := 66) rfl) rfl
theorem mw_314 : (.methodLink RX12 199 yX12_either : Cond) ∈ gwL := gw_at 6 (z := tables_1_6) rfl (List.mem_of_getElem? (i := 63) rfl) rfl
theorem mw_315 : (.instanceMethod yX12_either : Cond) ∈ gwL := gw_at 6 (z := tables_1_6) rfl (List.mem_of_getElem? (i := 65) rfl) rfl
theorem mw_316 : (.selects RX12 yX12_either yX12_either : Cond) ∈ gwL := gw_at 0 (z := (k2_sels lw_privs)) rfl (List.mem_of_getElem? (i := 51) rfl) rfl
theorem mw_317 : (.code yX12_workOut cX12_workOut 8 (some .int) : Cond) ∈ gwL := gw_at 6 (z := tables_1_6) rfl (List.mem_of_getElem? (i := 62) rfl) rfl
theorem mw_318 : (.methodLink RX12 205 yX12_workOut : Cond) ∈ gwL := gw_at 6 (z := tables_1_6) rfl (List.mem_of_getElem? (i := 59) rfl) rfl
theorem mw_319 : (.instanceMethod yX12_workOut : Cond) ∈ gwL := gw_at 6 (z := tables_1_6) rfl (List.mem_of_getElem? (i := 61) rfl) rfl
theorem mw_320 : (.selects RX12 yX12_workOut yX12_workOut : Cond) ∈ gwL := gw_at 0 (z := (k2_sels lw_privs)) rfl (List.mem_of_getElem? (i := 50) rfl) rfl
theorem mw_321 : (.code yX12_sizeOf cX12_sizeOf 1 (some .int) : Cond) ∈ gwL := gw_at 6 (z := tables_1_6) rfl (List.mem_of_getElem? (i := 116) rfl) rfl
theorem mw_322 : (.methodLink RX12 211 yX12_sizeOf : Cond) ∈ gwL := gw_at 6 (z := tables_1_6) rfl (List.mem_of_getElem? (i := 114) rfl) rfl
theorem mw_323 : (.static yX12_sizeOf : Cond) ∈ gwL := gw_at 6 (z := tables_1_6) rfl (List.mem_of_getElem? (i := 115) rfl) rfl
theorem mw_324 : (.fieldLink RX12 340 "SetAgainModel" "ledTurns" "I" : Cond) ∈ gwL := gw_at 5 (z := tables_1_5) rfl (List.mem_of_getElem? (i := 101) rfl) rfl
theorem mw_325 : (.code yX12_slipped cX12_slipped 4 (some .int) : Cond) ∈ gwL := gw_at 6 (z := tables_1_6) rfl (List.mem_of_getElem? (i := 181) rfl) rfl
theorem mw_326 : (.methodLink RX12 248 yX12_slipped : Cond) ∈ gwL := gw_at 6 (z := tables_1_6) rfl (List.mem_of_getElem? (i := 178) rfl) rfl
theorem mw_327 : (.instanceMethod yX12_slipped : Cond) ∈ gwL := gw_at 6 (z := tables_1_6) rfl (List.mem_of_getElem? (i := 180) rfl) rfl
theorem mw_328 : (.selects RX12 yX12_slipped yX12_slipped : Cond) ∈ gwL := gw_at 0 (z := (k2_sels lw_privs)) rfl (List.mem_of_getElem? (i := 73) rfl) rfl
theorem mw_329 : (.fieldLink RX12 337 "SetAgainModel" "ledShifts" "I" : Cond) ∈ gwL := gw_at 5 (z := tables_1_5) rfl (List.mem_of_getElem? (i := 100) rfl) rfl
theorem mw_330 : (.fieldLink RX12 343 "SetAgainModel" "ledLosses" "I" : Cond) ∈ gwL := gw_at 5 (z := tables_1_5) rfl (List.mem_of_getElem? (i := 102) rfl) rfl
theorem mw_331 : (.fieldLink RX12 346 "SetAgainModel" "ledDearest" "I" : Cond) ∈ gwL := gw_at 5 (z := tables_1_5) rfl (List.mem_of_getElem? (i := 103) rfl) rfl
theorem mw_332 : (.fieldLink RX12 91 "SetAgainModel" "ledWho" "I" : Cond) ∈ gwL := gw_at 5 (z := tables_1_5) rfl (List.mem_of_getElem? (i := 104) rfl) rfl
theorem mw_333 : (.fieldLink RX12 349 "SetAgainModel" "isKept" "Z" : Cond) ∈ gwL := gw_at 5 (z := tables_1_5) rfl (List.mem_of_getElem? (i := 105) rfl) rfl
theorem mw_334 : (.fieldLink RX12 65 "SetAgainModel" "image" "[I" : Cond) ∈ gwL := gw_at 5 (z := tables_1_5) rfl (List.mem_of_getElem? (i := 106) rfl) rfl
theorem mw_335 : (.code yX12_led cX12_led 2 (some .int) : Cond) ∈ gwL := gw_at 7 (z := tables_1_7) rfl (List.mem_of_getElem? (i := 60) rfl) rfl
theorem mw_336 : (.methodLink RX12 352 yX12_led : Cond) ∈ gwL := gw_at 7 (z := tables_1_7) rfl (List.mem_of_getElem? (i := 65) rfl) rfl
theorem mw_337 : (.instanceMethod yX12_led : Cond) ∈ gwL := gw_at 7 (z := tables_1_7) rfl (List.mem_of_getElem? (i := 58) rfl) rfl
theorem mw_338 : (.selects RX12 yX12_led yX12_led : Cond) ∈ gwL := gw_at 7 (z := tables_1_7) rfl (List.mem_of_getElem? (i := 59) rfl) rfl
theorem mw_339 : (.fieldLink RX12 68 "SetAgainModel" "bodyKind" "[I" : Cond) ∈ gwL := gw_at 5 (z := tables_1_5) rfl (List.mem_of_getElem? (i := 108) rfl) rfl
theorem mw_340 : (.fieldLink RX12 358 "SetAgainModel" "ran" "I" : Cond) ∈ gwL := gw_at 5 (z := tables_1_5) rfl (List.mem_of_getElem? (i := 110) rfl) rfl
theorem mw_341 : (.code yX12_isBody cX12_isBody 2 (some .boolean) : Cond) ∈ gwL := gw_at 7 (z := tables_1_7) rfl (List.mem_of_getElem? (i := 81) rfl) rfl
theorem mw_342 : (.methodLink RX12 382 yX12_isBody : Cond) ∈ gwL := gw_at 7 (z := tables_1_7) rfl (List.mem_of_getElem? (i := 78) rfl) rfl
theorem mw_343 : (.instanceMethod yX12_isBody : Cond) ∈ gwL := gw_at 7 (z := tables_1_7) rfl (List.mem_of_getElem? (i := 80) rfl) rfl
theorem mw_344 : (.selects RX12 yX12_isBody yX12_isBody : Cond) ∈ gwL := gw_at 0 (z := (k2_sels lw_privs)) rfl (List.mem_of_getElem? (i := 86) rfl) rfl
theorem mw_345 : (.fieldLink RX12 77 "SetAgainModel" "many" "[I" : Cond) ∈ gwL := gw_at 5 (z := tables_1_5) rfl (List.mem_of_getElem? (i := 114) rfl) rfl
theorem mw_346 : (.constantLong RX12 387 (4) : Cond) ∈ gwL := gw_at 7 (z := tables_1_7) rfl (List.mem_of_getElem? (i := 114) rfl) rfl
theorem mw_347 : (.fieldLink RX12 80 "SetAgainModel" "items" "[J" : Cond) ∈ gwL := gw_at 5 (z := tables_1_5) rfl (List.mem_of_getElem? (i := 115) rfl) rfl
theorem mw_348 : (.code yX12_refusal cX12_refusal 3 (some .int) : Cond) ∈ gwL := gw_at 7 (z := tables_1_7) rfl (List.mem_of_getElem? (i := 122) rfl) rfl
theorem mw_349 : (.methodLink RX12 389 yX12_refusal : Cond) ∈ gwL := gw_at 7 (z := tables_1_7) rfl (List.mem_of_getElem? (i := 119) rfl) rfl
theorem mw_350 : (.instanceMethod yX12_refusal : Cond) ∈ gwL := gw_at 7 (z := tables_1_7) rfl (List.mem_of_getElem? (i := 121) rfl) rfl
theorem mw_351 : (.selects RX12 yX12_refusal yX12_refusal : Cond) ∈ gwL := gw_at 0 (z := (k2_sels lw_privs)) rfl (List.mem_of_getElem? (i := 92) rfl) rfl
theorem mw_352 : (.constantLong RX12 398 (-9223372036854775808) : Cond) ∈ gwL := gw_at 7 (z := tables_1_7) rfl (List.mem_of_getElem? (i := 130) rfl) rfl
theorem mw_353 : (.methodLink RX5 3 objectInit : Cond) ∈ gwL := gw_at 1 (z := tables_1_1) rfl (List.mem_of_getElem? (i := 36) rfl) rfl
theorem mw_354 : (.instanceMethod objectInit : Cond) ∈ gwL := gw_at 1 (z := tables_1_1) rfl (List.mem_of_getElem? (i := 23) rfl) rfl
theorem mw_355 : (.code objectInit ⟨#[0xb1]⟩ 1 none : Cond) ∈ gwL := gw_at 1 (z := tables_1_1) rfl (List.mem_of_getElem? (i := 24) rfl) rfl
theorem mw_356 : (.arrayClass .int : Cond) ∈ gwL := gw_at 1 (z := tables_1_1) rfl (List.mem_of_getElem? (i := 70) rfl) rfl
theorem mw_357 : (.fieldLink RX5 18 "SetAgain$Law" "code" "[I" : Cond) ∈ gwL := gw_at 1 (z := tables_1_1) rfl (List.mem_of_getElem? (i := 43) rfl) rfl
theorem mw_358 : (.fieldLink RX5 21 "SetAgain$Law" "stack" "[I" : Cond) ∈ gwL := gw_at 1 (z := tables_1_1) rfl (List.mem_of_getElem? (i := 44) rfl) rfl
theorem mw_359 : (.methodLink RX0 5 objectInit : Cond) ∈ gwL := gw_at 1 (z := tables_1_1) rfl (List.mem_of_getElem? (i := 30) rfl) rfl
theorem mw_360 : (.fieldLink RX0 15 "SetAgain$Chair" "stands" "[I" : Cond) ∈ gwL := gw_at 1 (z := tables_1_1) rfl (List.mem_of_getElem? (i := 73) rfl) rfl
theorem mw_361 : (.classLink RX0 18 RX5 : Cond) ∈ gwL := gw_at 1 (z := tables_1_1) rfl (List.mem_of_getElem? (i := 31) rfl) rfl
theorem mw_362 : (.instantiable RX5 10 : Cond) ∈ gwL := gw_at 1 (z := tables_1_1) rfl (List.mem_of_getElem? (i := 32) rfl) rfl
theorem mw_363 : (.code yX5_init cX5_init 1 none : Cond) ∈ gwL := gw_at 1 (z := tables_1_1) rfl (List.mem_of_getElem? (i := 35) rfl) rfl
theorem mw_364 : (.instanceMethod yX5_init : Cond) ∈ gwL := gw_at 1 (z := tables_1_1) rfl (List.mem_of_getElem? (i := 34) rfl) rfl
theorem mw_365 : (.fieldLink RX0 21 "SetAgain$Chair" "law" "LSetAgain$Law;" : Cond) ∈ gwL := gw_at 1 (z := tables_1_1) rfl (List.mem_of_getElem? (i := 79) rfl) rfl
theorem mw_366 : (.methodLink RX10 3 objectInit : Cond) ∈ gwL := gw_at 1 (z := tables_1_1) rfl (List.mem_of_getElem? (i := 102) rfl) rfl
theorem mw_367 : (.fieldLink RX10 9 "SetAgain$Week" "sitters" "[I" : Cond) ∈ gwL := gw_at 1 (z := tables_1_1) rfl (List.mem_of_getElem? (i := 103) rfl) rfl
theorem mw_368 : (.fieldLink RX10 15 "SetAgain$Week" "times" "[I" : Cond) ∈ gwL := gw_at 1 (z := tables_1_1) rfl (List.mem_of_getElem? (i := 107) rfl) rfl
theorem mw_369 : (.methodLink RX4 3 objectInit : Cond) ∈ gwL := gw_at 1 (z := tables_1_1) rfl (List.mem_of_getElem? (i := 129) rfl) rfl
theorem mw_370 : (.fieldLink RX4 9 "SetAgain$Habits" "stand" "[I" : Cond) ∈ gwL := gw_at 1 (z := tables_1_1) rfl (List.mem_of_getElem? (i := 132) rfl) rfl
theorem mw_371 : (.fieldLink RX4 15 "SetAgain$Habits" "turns" "[I" : Cond) ∈ gwL := gw_at 1 (z := tables_1_1) rfl (List.mem_of_getElem? (i := 135) rfl) rfl
theorem mw_372 : (.fieldLink RX4 18 "SetAgain$Habits" "spared" "[I" : Cond) ∈ gwL := gw_at 1 (z := tables_1_1) rfl (List.mem_of_getElem? (i := 136) rfl) rfl
theorem mw_373 : (.fieldLink RX4 21 "SetAgain$Habits" "tried" "I" : Cond) ∈ gwL := gw_at 1 (z := tables_1_1) rfl (List.mem_of_getElem? (i := 143) rfl) rfl
theorem mw_374 : (.fieldLink RX4 25 "SetAgain$Habits" "leaver" "I" : Cond) ∈ gwL := gw_at 1 (z := tables_1_1) rfl (List.mem_of_getElem? (i := 145) rfl) rfl
theorem mw_375 : (.fieldLink RX4 28 "SetAgain$Habits" "chair" "LSetAgain$Chair;" : Cond) ∈ gwL := gw_at 1 (z := tables_1_1) rfl (List.mem_of_getElem? (i := 130) rfl) rfl
theorem mw_376 : (.fieldLink RX4 32 "SetAgain$Habits" "week" "LSetAgain$Week;" : Cond) ∈ gwL := gw_at 1 (z := tables_1_1) rfl (List.mem_of_getElem? (i := 131) rfl) rfl
theorem mw_377 : (.methodLink RX8 3 objectInit : Cond) ∈ gwL := gw_at 1 (z := tables_1_1) rfl (List.mem_of_getElem? (i := 175) rfl) rfl
theorem mw_378 : (.fieldLink RX8 9 "SetAgain$Still" "weight" "[I" : Cond) ∈ gwL := gw_at 1 (z := tables_1_1) rfl (List.mem_of_getElem? (i := 178) rfl) rfl
theorem mw_379 : (.arrayClass .boolean : Cond) ∈ gwL := gw_at 1 (z := tables_1_1) rfl (List.mem_of_getElem? (i := 216) rfl) rfl
theorem mw_380 : (.fieldLink RX8 15 "SetAgain$Still" "wanted" "[Z" : Cond) ∈ gwL := gw_at 1 (z := tables_1_1) rfl (List.mem_of_getElem? (i := 179) rfl) rfl
theorem mw_381 : (.fieldLink RX8 19 "SetAgain$Still" "ones" "[I" : Cond) ∈ gwL := gw_at 1 (z := tables_1_1) rfl (List.mem_of_getElem? (i := 180) rfl) rfl
theorem mw_382 : (.fieldLink RX8 22 "SetAgain$Still" "sums" "[I" : Cond) ∈ gwL := gw_at 1 (z := tables_1_1) rfl (List.mem_of_getElem? (i := 181) rfl) rfl
theorem mw_383 : (.fieldLink RX8 25 "SetAgain$Still" "leasts" "[I" : Cond) ∈ gwL := gw_at 1 (z := tables_1_1) rfl (List.mem_of_getElem? (i := 182) rfl) rfl
theorem mw_384 : (.fieldLink RX8 28 "SetAgain$Still" "group" "[I" : Cond) ∈ gwL := gw_at 1 (z := tables_1_1) rfl (List.mem_of_getElem? (i := 183) rfl) rfl
theorem mw_385 : (.fieldLink RX8 31 "SetAgain$Still" "bestGroup" "[I" : Cond) ∈ gwL := gw_at 1 (z := tables_1_1) rfl (List.mem_of_getElem? (i := 184) rfl) rfl
theorem mw_386 : (.fieldLink RX8 34 "SetAgain$Still" "chair" "LSetAgain$Chair;" : Cond) ∈ gwL := gw_at 1 (z := tables_1_1) rfl (List.mem_of_getElem? (i := 176) rfl) rfl
theorem mw_387 : (.fieldLink RX8 38 "SetAgain$Still" "week" "LSetAgain$Week;" : Cond) ∈ gwL := gw_at 1 (z := tables_1_1) rfl (List.mem_of_getElem? (i := 177) rfl) rfl
theorem mw_388 : (.methodLink RX9 3 objectInit : Cond) ∈ gwL := gw_at 1 (z := tables_1_1) rfl (List.mem_of_getElem? (i := 222) rfl) rfl
theorem mw_389 : (.fieldLink RX9 9 "SetAgain$Turning" "ahead" "[I" : Cond) ∈ gwL := gw_at 1 (z := tables_1_1) rfl (List.mem_of_getElem? (i := 225) rfl) rfl
theorem mw_390 : (.fieldLink RX9 15 "SetAgain$Turning" "chair" "LSetAgain$Chair;" : Cond) ∈ gwL := gw_at 1 (z := tables_1_1) rfl (List.mem_of_getElem? (i := 223) rfl) rfl
theorem mw_391 : (.fieldLink RX9 19 "SetAgain$Turning" "week" "LSetAgain$Week;" : Cond) ∈ gwL := gw_at 1 (z := tables_1_1) rfl (List.mem_of_getElem? (i := 224) rfl) rfl
theorem mw_392 : (.methodLink RX6 3 objectInit : Cond) ∈ gwL := gw_at 1 (z := tables_1_1) rfl (List.mem_of_getElem? (i := 238) rfl) rfl
theorem mw_393 : (.fieldLink RX6 9 "SetAgain$Seen" "chair" "LSetAgain$Chair;" : Cond) ∈ gwL := gw_at 1 (z := tables_1_1) rfl (List.mem_of_getElem? (i := 239) rfl) rfl
theorem mw_394 : (.methodLink RX2 3 objectInit : Cond) ∈ gwL := gw_at 2 (z := tables_1_2) rfl (List.mem_of_getElem? (i := 14) rfl) rfl
theorem mw_395 : (.fieldLink RX2 25 "SetAgain$Deed" "habits" "LSetAgain$Habits;" : Cond) ∈ gwL := gw_at 2 (z := tables_1_2) rfl (List.mem_of_getElem? (i := 16) rfl) rfl
theorem mw_396 : (.methodLink RX1 1 objectInit : Cond) ∈ gwL := gw_at 2 (z := tables_1_2) rfl (List.mem_of_getElem? (i := 40) rfl) rfl
theorem mw_397 : (.methodLink RX3 3 objectInit : Cond) ∈ gwL := gw_at 2 (z := tables_1_2) rfl (List.mem_of_getElem? (i := 67) rfl) rfl
theorem mw_398 : (.fieldLink RX3 15 "SetAgain$Desks" "trace" "[I" : Cond) ∈ gwL := gw_at 2 (z := tables_1_2) rfl (List.mem_of_getElem? (i := 69) rfl) rfl
theorem mw_399 : (.methodLink RX7 3 objectInit : Cond) ∈ gwL := gw_at 2 (z := tables_1_2) rfl (List.mem_of_getElem? (i := 96) rfl) rfl
theorem mw_400 : (.arrayClass .long : Cond) ∈ gwL := gw_at 2 (z := tables_1_2) rfl (List.mem_of_getElem? (i := 118) rfl) rfl
theorem mw_401 : (.methodLink RX11 3 objectInit : Cond) ∈ gwL := gw_at 1 (z := tables_1_1) rfl (List.mem_of_getElem? (i := 22) rfl) rfl
theorem mw_402 : (.classLink RX11 9 RX0 : Cond) ∈ gwL := gw_at 1 (z := tables_1_1) rfl (List.mem_of_getElem? (i := 25) rfl) rfl
theorem mw_403 : (.instantiable RX0 5 : Cond) ∈ gwL := gw_at 1 (z := tables_1_1) rfl (List.mem_of_getElem? (i := 26) rfl) rfl
theorem mw_404 : (.code yX0_init cX0_init 2 none : Cond) ∈ gwL := gw_at 1 (z := tables_1_1) rfl (List.mem_of_getElem? (i := 29) rfl) rfl
theorem mw_405 : (.methodLink RX11 11 yX0_init : Cond) ∈ gwL := gw_at 1 (z := tables_1_1) rfl (List.mem_of_getElem? (i := 27) rfl) rfl
theorem mw_406 : (.instanceMethod yX0_init : Cond) ∈ gwL := gw_at 1 (z := tables_1_1) rfl (List.mem_of_getElem? (i := 28) rfl) rfl
theorem mw_407 : (.classLink RX11 16 RX10 : Cond) ∈ gwL := gw_at 1 (z := tables_1_1) rfl (List.mem_of_getElem? (i := 97) rfl) rfl
theorem mw_408 : (.instantiable RX10 4 : Cond) ∈ gwL := gw_at 1 (z := tables_1_1) rfl (List.mem_of_getElem? (i := 98) rfl) rfl
theorem mw_409 : (.initialized RX10 : Cond) ∈ gwL := gw_at 1 (z := tables_1_1) rfl (List.mem_of_getElem? (i := 4) rfl) rfl
theorem mw_410 : (.code yX10_init cX10_init 1 none : Cond) ∈ gwL := gw_at 1 (z := tables_1_1) rfl (List.mem_of_getElem? (i := 101) rfl) rfl
theorem mw_411 : (.instanceMethod yX10_init : Cond) ∈ gwL := gw_at 1 (z := tables_1_1) rfl (List.mem_of_getElem? (i := 100) rfl) rfl
theorem mw_412 : (.fieldLink RX11 19 "SetAgain" "week" "LSetAgain$Week;" : Cond) ∈ gwL := gw_at 2 (z := tables_1_2) rfl (List.mem_of_getElem? (i := 120) rfl) rfl
theorem mw_413 : (.classLink RX11 23 RX4 : Cond) ∈ gwL := gw_at 1 (z := tables_1_1) rfl (List.mem_of_getElem? (i := 124) rfl) rfl
theorem mw_414 : (.instantiable RX4 11 : Cond) ∈ gwL := gw_at 1 (z := tables_1_1) rfl (List.mem_of_getElem? (i := 125) rfl) rfl
theorem mw_415 : (.initialized RX4 : Cond) ∈ gwL := gw_at 1 (z := tables_1_1) rfl (List.mem_of_getElem? (i := 5) rfl) rfl
theorem mw_416 : (.code yX4_init cX4_init 3 none : Cond) ∈ gwL := gw_at 1 (z := tables_1_1) rfl (List.mem_of_getElem? (i := 128) rfl) rfl
theorem mw_417 : (.methodLink RX11 25 yX4_init : Cond) ∈ gwL := gw_at 1 (z := tables_1_1) rfl (List.mem_of_getElem? (i := 126) rfl) rfl
theorem mw_418 : (.instanceMethod yX4_init : Cond) ∈ gwL := gw_at 1 (z := tables_1_1) rfl (List.mem_of_getElem? (i := 127) rfl) rfl
theorem mw_419 : (.fieldLink RX11 28 "SetAgain" "habits" "LSetAgain$Habits;" : Cond) ∈ gwL := gw_at 2 (z := tables_1_2) rfl (List.mem_of_getElem? (i := 121) rfl) rfl
theorem mw_420 : (.classLink RX11 32 RX8 : Cond) ∈ gwL := gw_at 1 (z := tables_1_1) rfl (List.mem_of_getElem? (i := 170) rfl) rfl
theorem mw_421 : (.instantiable RX8 13 : Cond) ∈ gwL := gw_at 1 (z := tables_1_1) rfl (List.mem_of_getElem? (i := 171) rfl) rfl
theorem mw_422 : (.initialized RX8 : Cond) ∈ gwL := gw_at 1 (z := tables_1_1) rfl (List.mem_of_getElem? (i := 6) rfl) rfl
theorem mw_423 : (.code yX8_init cX8_init 3 none : Cond) ∈ gwL := gw_at 1 (z := tables_1_1) rfl (List.mem_of_getElem? (i := 174) rfl) rfl
theorem mw_424 : (.methodLink RX11 34 yX8_init : Cond) ∈ gwL := gw_at 1 (z := tables_1_1) rfl (List.mem_of_getElem? (i := 172) rfl) rfl
theorem mw_425 : (.instanceMethod yX8_init : Cond) ∈ gwL := gw_at 1 (z := tables_1_1) rfl (List.mem_of_getElem? (i := 173) rfl) rfl
theorem mw_426 : (.fieldLink RX11 35 "SetAgain" "still" "LSetAgain$Still;" : Cond) ∈ gwL := gw_at 2 (z := tables_1_2) rfl (List.mem_of_getElem? (i := 122) rfl) rfl
theorem mw_427 : (.classLink RX11 39 RX9 : Cond) ∈ gwL := gw_at 1 (z := tables_1_1) rfl (List.mem_of_getElem? (i := 217) rfl) rfl
theorem mw_428 : (.instantiable RX9 3 : Cond) ∈ gwL := gw_at 1 (z := tables_1_1) rfl (List.mem_of_getElem? (i := 218) rfl) rfl
theorem mw_429 : (.initialized RX9 : Cond) ∈ gwL := gw_at 1 (z := tables_1_1) rfl (List.mem_of_getElem? (i := 7) rfl) rfl
theorem mw_430 : (.code yX9_init cX9_init 3 none : Cond) ∈ gwL := gw_at 1 (z := tables_1_1) rfl (List.mem_of_getElem? (i := 221) rfl) rfl
theorem mw_431 : (.methodLink RX11 41 yX9_init : Cond) ∈ gwL := gw_at 1 (z := tables_1_1) rfl (List.mem_of_getElem? (i := 219) rfl) rfl
theorem mw_432 : (.instanceMethod yX9_init : Cond) ∈ gwL := gw_at 1 (z := tables_1_1) rfl (List.mem_of_getElem? (i := 220) rfl) rfl
theorem mw_433 : (.fieldLink RX11 42 "SetAgain" "turning" "LSetAgain$Turning;" : Cond) ∈ gwL := gw_at 2 (z := tables_1_2) rfl (List.mem_of_getElem? (i := 123) rfl) rfl
theorem mw_434 : (.classLink RX11 46 RX6 : Cond) ∈ gwL := gw_at 1 (z := tables_1_1) rfl (List.mem_of_getElem? (i := 233) rfl) rfl
theorem mw_435 : (.instantiable RX6 3 : Cond) ∈ gwL := gw_at 1 (z := tables_1_1) rfl (List.mem_of_getElem? (i := 234) rfl) rfl
theorem mw_436 : (.initialized RX6 : Cond) ∈ gwL := gw_at 1 (z := tables_1_1) rfl (List.mem_of_getElem? (i := 8) rfl) rfl
theorem mw_437 : (.code yX6_init cX6_init 2 none : Cond) ∈ gwL := gw_at 1 (z := tables_1_1) rfl (List.mem_of_getElem? (i := 237) rfl) rfl
theorem mw_438 : (.methodLink RX11 48 yX6_init : Cond) ∈ gwL := gw_at 1 (z := tables_1_1) rfl (List.mem_of_getElem? (i := 235) rfl) rfl
theorem mw_439 : (.instanceMethod yX6_init : Cond) ∈ gwL := gw_at 1 (z := tables_1_1) rfl (List.mem_of_getElem? (i := 236) rfl) rfl
theorem mw_440 : (.fieldLink RX11 51 "SetAgain" "seen" "LSetAgain$Seen;" : Cond) ∈ gwL := gw_at 2 (z := tables_1_2) rfl (List.mem_of_getElem? (i := 124) rfl) rfl
theorem mw_441 : (.classLink RX11 55 RX2 : Cond) ∈ gwL := gw_at 2 (z := tables_1_2) rfl (List.mem_of_getElem? (i := 9) rfl) rfl
theorem mw_442 : (.instantiable RX2 6 : Cond) ∈ gwL := gw_at 2 (z := tables_1_2) rfl (List.mem_of_getElem? (i := 10) rfl) rfl
theorem mw_443 : (.code yX2_init cX2_init 3 none : Cond) ∈ gwL := gw_at 2 (z := tables_1_2) rfl (List.mem_of_getElem? (i := 13) rfl) rfl
theorem mw_444 : (.methodLink RX11 57 yX2_init : Cond) ∈ gwL := gw_at 2 (z := tables_1_2) rfl (List.mem_of_getElem? (i := 11) rfl) rfl
theorem mw_445 : (.instanceMethod yX2_init : Cond) ∈ gwL := gw_at 2 (z := tables_1_2) rfl (List.mem_of_getElem? (i := 12) rfl) rfl
theorem mw_446 : (.classLink RX11 64 RX1 : Cond) ∈ gwL := gw_at 2 (z := tables_1_2) rfl (List.mem_of_getElem? (i := 35) rfl) rfl
theorem mw_447 : (.instantiable RX1 5 : Cond) ∈ gwL := gw_at 2 (z := tables_1_2) rfl (List.mem_of_getElem? (i := 36) rfl) rfl
theorem mw_448 : (.code yX1_init cX1_init 1 none : Cond) ∈ gwL := gw_at 2 (z := tables_1_2) rfl (List.mem_of_getElem? (i := 39) rfl) rfl
theorem mw_449 : (.instanceMethod yX1_init : Cond) ∈ gwL := gw_at 2 (z := tables_1_2) rfl (List.mem_of_getElem? (i := 38) rfl) rfl
theorem mw_450 : (.classLink RX11 71 RX3 : Cond) ∈ gwL := gw_at 2 (z := tables_1_2) rfl (List.mem_of_getElem? (i := 62) rfl) rfl
theorem mw_451 : (.instantiable RX3 6 : Cond) ∈ gwL := gw_at 2 (z := tables_1_2) rfl (List.mem_of_getElem? (i := 63) rfl) rfl
theorem mw_452 : (.code yX3_init cX3_init 1 none : Cond) ∈ gwL := gw_at 2 (z := tables_1_2) rfl (List.mem_of_getElem? (i := 66) rfl) rfl
theorem mw_453 : (.instanceMethod yX3_init : Cond) ∈ gwL := gw_at 2 (z := tables_1_2) rfl (List.mem_of_getElem? (i := 65) rfl) rfl
theorem mw_454 : (.classLink RX11 78 RX7 : Cond) ∈ gwL := gw_at 2 (z := tables_1_2) rfl (List.mem_of_getElem? (i := 90) rfl) rfl
theorem mw_455 : (.instantiable RX7 4 : Cond) ∈ gwL := gw_at 2 (z := tables_1_2) rfl (List.mem_of_getElem? (i := 92) rfl) rfl
theorem mw_456 : (.code yX7_init cX7_init 1 none : Cond) ∈ gwL := gw_at 2 (z := tables_1_2) rfl (List.mem_of_getElem? (i := 95) rfl) rfl
theorem mw_457 : (.instanceMethod yX7_init : Cond) ∈ gwL := gw_at 2 (z := tables_1_2) rfl (List.mem_of_getElem? (i := 94) rfl) rfl
theorem mw_458 : (.methodLink RX12 3 objectInit : Cond) ∈ gwL := gw_at 5 (z := tables_1_5) rfl (List.mem_of_getElem? (i := 61) rfl) rfl
theorem mw_459 : (.fieldLink RX12 28 "SetAgainModel" "text" "[I" : Cond) ∈ gwL := gw_at 5 (z := tables_1_5) rfl (List.mem_of_getElem? (i := 72) rfl) rfl
theorem mw_460 : (.fieldLink RX12 31 "SetAgainModel" "names" "[I" : Cond) ∈ gwL := gw_at 5 (z := tables_1_5) rfl (List.mem_of_getElem? (i := 79) rfl) rfl
theorem mw_461 : (.fieldLink RX12 34 "SetAgainModel" "lossIn" "[I" : Cond) ∈ gwL := gw_at 5 (z := tables_1_5) rfl (List.mem_of_getElem? (i := 80) rfl) rfl
theorem mw_462 : (.fieldLink RX12 37 "SetAgainModel" "leastFrom" "[I" : Cond) ∈ gwL := gw_at 5 (z := tables_1_5) rfl (List.mem_of_getElem? (i := 81) rfl) rfl
theorem mw_463 : (.fieldLink RX12 40 "SetAgainModel" "isIll" "[Z" : Cond) ∈ gwL := gw_at 5 (z := tables_1_5) rfl (List.mem_of_getElem? (i := 88) rfl) rfl
theorem mw_464 : (.fieldLink RX12 44 "SetAgainModel" "stand1" "[I" : Cond) ∈ gwL := gw_at 5 (z := tables_1_5) rfl (List.mem_of_getElem? (i := 89) rfl) rfl
theorem mw_465 : (.fieldLink RX12 47 "SetAgainModel" "standBehind" "[I" : Cond) ∈ gwL := gw_at 5 (z := tables_1_5) rfl (List.mem_of_getElem? (i := 90) rfl) rfl
theorem mw_466 : (.fieldLink RX12 50 "SetAgainModel" "lossAt" "[I" : Cond) ∈ gwL := gw_at 5 (z := tables_1_5) rfl (List.mem_of_getElem? (i := 94) rfl) rfl
theorem mw_467 : (.fieldLink RX12 53 "SetAgainModel" "chairOf" "[I" : Cond) ∈ gwL := gw_at 5 (z := tables_1_5) rfl (List.mem_of_getElem? (i := 95) rfl) rfl
theorem mw_468 : (.fieldLink RX12 56 "SetAgainModel" "bestChair" "[I" : Cond) ∈ gwL := gw_at 5 (z := tables_1_5) rfl (List.mem_of_getElem? (i := 96) rfl) rfl
theorem mw_469 : (.fieldLink RX12 59 "SetAgainModel" "canStand" "[Z" : Cond) ∈ gwL := gw_at 5 (z := tables_1_5) rfl (List.mem_of_getElem? (i := 98) rfl) rfl
theorem mw_470 : (.fieldLink RX12 62 "SetAgainModel" "canGoOn" "[Z" : Cond) ∈ gwL := gw_at 5 (z := tables_1_5) rfl (List.mem_of_getElem? (i := 99) rfl) rfl
theorem mw_471 : (.fieldLink RX12 71 "SetAgainModel" "trace" "[I" : Cond) ∈ gwL := gw_at 5 (z := tables_1_5) rfl (List.mem_of_getElem? (i := 109) rfl) rfl
theorem mw_472 : (.fieldLink RX12 84 "SetAgainModel" "carried" "[J" : Cond) ∈ gwL := gw_at 5 (z := tables_1_5) rfl (List.mem_of_getElem? (i := 116) rfl) rfl
theorem mw_473 : (.fieldLink RX12 87 "SetAgainModel" "textMany" "I" : Cond) ∈ gwL := gw_at 5 (z := tables_1_5) rfl (List.mem_of_getElem? (i := 73) rfl) rfl
theorem mw_474 : (.fieldLink RX12 94 "SetAgainModel" "nearOf" "I" : Cond) ∈ gwL := gw_at 5 (z := tables_1_5) rfl (List.mem_of_getElem? (i := 82) rfl) rfl
theorem mw_475 : (.fieldLink RX12 97 "SetAgainModel" "wilfulOf" "I" : Cond) ∈ gwL := gw_at 5 (z := tables_1_5) rfl (List.mem_of_getElem? (i := 86) rfl) rfl
theorem mw_476 : (.code yX11_sitter cX11_sitter 3 (some .int) : Cond) ∈ gwL := gw_at 2 (z := tables_1_2) rfl (List.mem_of_getElem? (i := 153) rfl) rfl
theorem mw_477 : (.methodLink RL 13 yX11_sitter : Cond) ∈ gwL := gw_at 2 (z := tables_1_2) rfl (List.mem_of_getElem? (i := 150) rfl) rfl
theorem mw_478 : (.instanceMethod yX11_sitter : Cond) ∈ gwL := gw_at 2 (z := tables_1_2) rfl (List.mem_of_getElem? (i := 151) rfl) rfl
theorem mw_479 : (.selects RX11 yX11_sitter yX11_sitter : Cond) ∈ gwL := gw_at 2 (z := tables_1_2) rfl (List.mem_of_getElem? (i := 152) rfl) rfl
theorem mw_480 : (.code yX12_sitter cX12_sitter 3 (some .int) : Cond) ∈ gwL := gw_at 5 (z := tables_1_5) rfl (List.mem_of_getElem? (i := 239) rfl) rfl
theorem mw_481 : (.methodLink RL 17 yX12_sitter : Cond) ∈ gwL := gw_at 5 (z := tables_1_5) rfl (List.mem_of_getElem? (i := 236) rfl) rfl
theorem mw_482 : (.instanceMethod yX12_sitter : Cond) ∈ gwL := gw_at 5 (z := tables_1_5) rfl (List.mem_of_getElem? (i := 237) rfl) rfl
theorem mw_483 : (.selects RX12 yX12_sitter yX12_sitter : Cond) ∈ gwL := gw_at 5 (z := tables_1_5) rfl (List.mem_of_getElem? (i := 238) rfl) rfl
theorem mw_484 : (.code yX11_sitters cX11_sitters 5 (some .int) : Cond) ∈ gwL := gw_at 2 (z := tables_1_2) rfl (List.mem_of_getElem? (i := 175) rfl) rfl
theorem mw_485 : (.methodLink RL 18 yX11_sitters : Cond) ∈ gwL := gw_at 2 (z := tables_1_2) rfl (List.mem_of_getElem? (i := 172) rfl) rfl
theorem mw_486 : (.instanceMethod yX11_sitters : Cond) ∈ gwL := gw_at 2 (z := tables_1_2) rfl (List.mem_of_getElem? (i := 173) rfl) rfl
theorem mw_487 : (.selects RX11 yX11_sitters yX11_sitters : Cond) ∈ gwL := gw_at 2 (z := tables_1_2) rfl (List.mem_of_getElem? (i := 174) rfl) rfl
theorem mw_488 : (.code yX12_sitters cX12_sitters 7 (some .int) : Cond) ∈ gwL := gw_at 6 (z := tables_1_6) rfl (List.mem_of_getElem? (i := 15) rfl) rfl
theorem mw_489 : (.methodLink RL 22 yX12_sitters : Cond) ∈ gwL := gw_at 6 (z := tables_1_6) rfl (List.mem_of_getElem? (i := 12) rfl) rfl
theorem mw_490 : (.instanceMethod yX12_sitters : Cond) ∈ gwL := gw_at 6 (z := tables_1_6) rfl (List.mem_of_getElem? (i := 13) rfl) rfl
theorem mw_491 : (.selects RX12 yX12_sitters yX12_sitters : Cond) ∈ gwL := gw_at 6 (z := tables_1_6) rfl (List.mem_of_getElem? (i := 14) rfl) rfl
theorem mw_492 : (.code yX11_mend cX11_mend 6 (some .int) : Cond) ∈ gwL := gw_at 2 (z := tables_1_2) rfl (List.mem_of_getElem? (i := 194) rfl) rfl
theorem mw_493 : (.methodLink RL 23 yX11_mend : Cond) ∈ gwL := gw_at 2 (z := tables_1_2) rfl (List.mem_of_getElem? (i := 191) rfl) rfl
theorem mw_494 : (.instanceMethod yX11_mend : Cond) ∈ gwL := gw_at 2 (z := tables_1_2) rfl (List.mem_of_getElem? (i := 192) rfl) rfl
theorem mw_495 : (.selects RX11 yX11_mend yX11_mend : Cond) ∈ gwL := gw_at 2 (z := tables_1_2) rfl (List.mem_of_getElem? (i := 193) rfl) rfl
theorem mw_496 : (.code yX12_mend cX12_mend 5 (some .int) : Cond) ∈ gwL := gw_at 6 (z := tables_1_6) rfl (List.mem_of_getElem? (i := 24) rfl) rfl
theorem mw_497 : (.methodLink RL 26 yX12_mend : Cond) ∈ gwL := gw_at 6 (z := tables_1_6) rfl (List.mem_of_getElem? (i := 21) rfl) rfl
theorem mw_498 : (.instanceMethod yX12_mend : Cond) ∈ gwL := gw_at 6 (z := tables_1_6) rfl (List.mem_of_getElem? (i := 22) rfl) rfl
theorem mw_499 : (.selects RX12 yX12_mend yX12_mend : Cond) ∈ gwL := gw_at 6 (z := tables_1_6) rfl (List.mem_of_getElem? (i := 23) rfl) rfl
theorem mw_500 : (.code yX11_of cX11_of 4 (some .int) : Cond) ∈ gwL := gw_at 2 (z := tables_1_2) rfl (List.mem_of_getElem? (i := 217) rfl) rfl
theorem mw_501 : (.methodLink RL 27 yX11_of : Cond) ∈ gwL := gw_at 2 (z := tables_1_2) rfl (List.mem_of_getElem? (i := 214) rfl) rfl
theorem mw_502 : (.instanceMethod yX11_of : Cond) ∈ gwL := gw_at 2 (z := tables_1_2) rfl (List.mem_of_getElem? (i := 215) rfl) rfl
theorem mw_503 : (.selects RX11 yX11_of yX11_of : Cond) ∈ gwL := gw_at 2 (z := tables_1_2) rfl (List.mem_of_getElem? (i := 216) rfl) rfl
theorem mw_504 : (.code yX12_of cX12_of 4 (some .int) : Cond) ∈ gwL := gw_at 6 (z := tables_1_6) rfl (List.mem_of_getElem? (i := 49) rfl) rfl
theorem mw_505 : (.methodLink RL 30 yX12_of : Cond) ∈ gwL := gw_at 6 (z := tables_1_6) rfl (List.mem_of_getElem? (i := 46) rfl) rfl
theorem mw_506 : (.instanceMethod yX12_of : Cond) ∈ gwL := gw_at 6 (z := tables_1_6) rfl (List.mem_of_getElem? (i := 47) rfl) rfl
theorem mw_507 : (.selects RX12 yX12_of yX12_of : Cond) ∈ gwL := gw_at 6 (z := tables_1_6) rfl (List.mem_of_getElem? (i := 48) rfl) rfl
theorem mw_508 : (.code yX11_feed cX11_feed 2 (some .int) : Cond) ∈ gwL := gw_at 2 (z := tables_1_2) rfl (List.mem_of_getElem? (i := 224) rfl) rfl
theorem mw_509 : (.methodLink RL 31 yX11_feed : Cond) ∈ gwL := gw_at 2 (z := tables_1_2) rfl (List.mem_of_getElem? (i := 221) rfl) rfl
theorem mw_510 : (.instanceMethod yX11_feed : Cond) ∈ gwL := gw_at 2 (z := tables_1_2) rfl (List.mem_of_getElem? (i := 222) rfl) rfl
theorem mw_511 : (.selects RX11 yX11_feed yX11_feed : Cond) ∈ gwL := gw_at 2 (z := tables_1_2) rfl (List.mem_of_getElem? (i := 223) rfl) rfl
theorem mw_512 : (.code yX12_feed cX12_feed 2 (some .int) : Cond) ∈ gwL := gw_at 6 (z := tables_1_6) rfl (List.mem_of_getElem? (i := 53) rfl) rfl
theorem mw_513 : (.methodLink RL 35 yX12_feed : Cond) ∈ gwL := gw_at 6 (z := tables_1_6) rfl (List.mem_of_getElem? (i := 50) rfl) rfl
theorem mw_514 : (.instanceMethod yX12_feed : Cond) ∈ gwL := gw_at 6 (z := tables_1_6) rfl (List.mem_of_getElem? (i := 51) rfl) rfl
theorem mw_515 : (.selects RX12 yX12_feed yX12_feed : Cond) ∈ gwL := gw_at 6 (z := tables_1_6) rfl (List.mem_of_getElem? (i := 52) rfl) rfl
theorem mw_516 : (.code yX11_law cX11_law 2 (some .int) : Cond) ∈ gwL := gw_at 2 (z := tables_1_2) rfl (List.mem_of_getElem? (i := 232) rfl) rfl
theorem mw_517 : (.methodLink RL 36 yX11_law : Cond) ∈ gwL := gw_at 2 (z := tables_1_2) rfl (List.mem_of_getElem? (i := 229) rfl) rfl
theorem mw_518 : (.instanceMethod yX11_law : Cond) ∈ gwL := gw_at 2 (z := tables_1_2) rfl (List.mem_of_getElem? (i := 230) rfl) rfl
theorem mw_519 : (.selects RX11 yX11_law yX11_law : Cond) ∈ gwL := gw_at 2 (z := tables_1_2) rfl (List.mem_of_getElem? (i := 231) rfl) rfl
theorem mw_520 : (.code yX12_law cX12_law 4 (some .int) : Cond) ∈ gwL := gw_at 6 (z := tables_1_6) rfl (List.mem_of_getElem? (i := 58) rfl) rfl
theorem mw_521 : (.methodLink RL 40 yX12_law : Cond) ∈ gwL := gw_at 6 (z := tables_1_6) rfl (List.mem_of_getElem? (i := 55) rfl) rfl
theorem mw_522 : (.instanceMethod yX12_law : Cond) ∈ gwL := gw_at 6 (z := tables_1_6) rfl (List.mem_of_getElem? (i := 56) rfl) rfl
theorem mw_523 : (.selects RX12 yX12_law yX12_law : Cond) ∈ gwL := gw_at 6 (z := tables_1_6) rfl (List.mem_of_getElem? (i := 57) rfl) rfl
theorem mw_524 : (.code yX11_loss cX11_loss 4 (some .int) : Cond) ∈ gwL := gw_at 3 (z := tables_1_3) rfl (List.mem_of_getElem? (i := 63) rfl) rfl
theorem mw_525 : (.methodLink RL 41 yX11_loss : Cond) ∈ gwL := gw_at 3 (z := tables_1_3) rfl (List.mem_of_getElem? (i := 60) rfl) rfl
theorem mw_526 : (.instanceMethod yX11_loss : Cond) ∈ gwL := gw_at 3 (z := tables_1_3) rfl (List.mem_of_getElem? (i := 61) rfl) rfl
theorem mw_527 : (.selects RX11 yX11_loss yX11_loss : Cond) ∈ gwL := gw_at 3 (z := tables_1_3) rfl (List.mem_of_getElem? (i := 62) rfl) rfl
theorem mw_528 : (.code yX12_loss cX12_loss 4 (some .int) : Cond) ∈ gwL := gw_at 6 (z := tables_1_6) rfl (List.mem_of_getElem? (i := 105) rfl) rfl
theorem mw_529 : (.methodLink RL 44 yX12_loss : Cond) ∈ gwL := gw_at 6 (z := tables_1_6) rfl (List.mem_of_getElem? (i := 102) rfl) rfl
theorem mw_530 : (.instanceMethod yX12_loss : Cond) ∈ gwL := gw_at 6 (z := tables_1_6) rfl (List.mem_of_getElem? (i := 103) rfl) rfl
theorem mw_531 : (.selects RX12 yX12_loss yX12_loss : Cond) ∈ gwL := gw_at 6 (z := tables_1_6) rfl (List.mem_of_getElem? (i := 104) rfl) rfl
theorem mw_532 : (.code yX11_never cX11_never 5 (some .int) : Cond) ∈ gwL := gw_at 3 (z := tables_1_3) rfl (List.mem_of_getElem? (i := 102) rfl) rfl
theorem mw_533 : (.methodLink RL 45 yX11_never : Cond) ∈ gwL := gw_at 3 (z := tables_1_3) rfl (List.mem_of_getElem? (i := 99) rfl) rfl
theorem mw_534 : (.instanceMethod yX11_never : Cond) ∈ gwL := gw_at 3 (z := tables_1_3) rfl (List.mem_of_getElem? (i := 100) rfl) rfl
theorem mw_535 : (.selects RX11 yX11_never yX11_never : Cond) ∈ gwL := gw_at 3 (z := tables_1_3) rfl (List.mem_of_getElem? (i := 101) rfl) rfl
theorem mw_536 : (.code yX12_never cX12_never 4 (some .int) : Cond) ∈ gwL := gw_at 6 (z := tables_1_6) rfl (List.mem_of_getElem? (i := 120) rfl) rfl
theorem mw_537 : (.methodLink RL 48 yX12_never : Cond) ∈ gwL := gw_at 6 (z := tables_1_6) rfl (List.mem_of_getElem? (i := 117) rfl) rfl
theorem mw_538 : (.instanceMethod yX12_never : Cond) ∈ gwL := gw_at 6 (z := tables_1_6) rfl (List.mem_of_getElem? (i := 118) rfl) rfl
theorem mw_539 : (.selects RX12 yX12_never yX12_never : Cond) ∈ gwL := gw_at 6 (z := tables_1_6) rfl (List.mem_of_getElem? (i := 119) rfl) rfl
theorem mw_540 : (.code yX11_best cX11_best 5 (some .int) : Cond) ∈ gwL := gw_at 3 (z := tables_1_3) rfl (List.mem_of_getElem? (i := 124) rfl) rfl
theorem mw_541 : (.methodLink RL 49 yX11_best : Cond) ∈ gwL := gw_at 3 (z := tables_1_3) rfl (List.mem_of_getElem? (i := 121) rfl) rfl
theorem mw_542 : (.instanceMethod yX11_best : Cond) ∈ gwL := gw_at 3 (z := tables_1_3) rfl (List.mem_of_getElem? (i := 122) rfl) rfl
theorem mw_543 : (.selects RX11 yX11_best yX11_best : Cond) ∈ gwL := gw_at 3 (z := tables_1_3) rfl (List.mem_of_getElem? (i := 123) rfl) rfl
theorem mw_544 : (.code yX12_best cX12_best 8 (some .int) : Cond) ∈ gwL := gw_at 6 (z := tables_1_6) rfl (List.mem_of_getElem? (i := 140) rfl) rfl
theorem mw_545 : (.methodLink RL 52 yX12_best : Cond) ∈ gwL := gw_at 6 (z := tables_1_6) rfl (List.mem_of_getElem? (i := 137) rfl) rfl
theorem mw_546 : (.instanceMethod yX12_best : Cond) ∈ gwL := gw_at 6 (z := tables_1_6) rfl (List.mem_of_getElem? (i := 138) rfl) rfl
theorem mw_547 : (.selects RX12 yX12_best yX12_best : Cond) ∈ gwL := gw_at 6 (z := tables_1_6) rfl (List.mem_of_getElem? (i := 139) rfl) rfl
theorem mw_548 : (.code yX11_middle cX11_middle 4 (some .int) : Cond) ∈ gwL := gw_at 3 (z := tables_1_3) rfl (List.mem_of_getElem? (i := 138) rfl) rfl
theorem mw_549 : (.methodLink RL 53 yX11_middle : Cond) ∈ gwL := gw_at 3 (z := tables_1_3) rfl (List.mem_of_getElem? (i := 135) rfl) rfl
theorem mw_550 : (.instanceMethod yX11_middle : Cond) ∈ gwL := gw_at 3 (z := tables_1_3) rfl (List.mem_of_getElem? (i := 136) rfl) rfl
theorem mw_551 : (.selects RX11 yX11_middle yX11_middle : Cond) ∈ gwL := gw_at 3 (z := tables_1_3) rfl (List.mem_of_getElem? (i := 137) rfl) rfl
theorem mw_552 : (.code yX12_middle cX12_middle 5 (some .int) : Cond) ∈ gwL := gw_at 6 (z := tables_1_6) rfl (List.mem_of_getElem? (i := 153) rfl) rfl
theorem mw_553 : (.methodLink RL 56 yX12_middle : Cond) ∈ gwL := gw_at 6 (z := tables_1_6) rfl (List.mem_of_getElem? (i := 150) rfl) rfl
theorem mw_554 : (.instanceMethod yX12_middle : Cond) ∈ gwL := gw_at 6 (z := tables_1_6) rfl (List.mem_of_getElem? (i := 151) rfl) rfl
theorem mw_555 : (.selects RX12 yX12_middle yX12_middle : Cond) ∈ gwL := gw_at 6 (z := tables_1_6) rfl (List.mem_of_getElem? (i := 152) rfl) rfl
theorem mw_556 : (.code yX11_shifts cX11_shifts 5 (some .int) : Cond) ∈ gwL := gw_at 3 (z := tables_1_3) rfl (List.mem_of_getElem? (i := 151) rfl) rfl
theorem mw_557 : (.methodLink RL 57 yX11_shifts : Cond) ∈ gwL := gw_at 3 (z := tables_1_3) rfl (List.mem_of_getElem? (i := 148) rfl) rfl
theorem mw_558 : (.instanceMethod yX11_shifts : Cond) ∈ gwL := gw_at 3 (z := tables_1_3) rfl (List.mem_of_getElem? (i := 149) rfl) rfl
theorem mw_559 : (.selects RX11 yX11_shifts yX11_shifts : Cond) ∈ gwL := gw_at 3 (z := tables_1_3) rfl (List.mem_of_getElem? (i := 150) rfl) rfl
theorem mw_560 : (.code yX12_shifts cX12_shifts 10 (some .int) : Cond) ∈ gwL := gw_at 6 (z := tables_1_6) rfl (List.mem_of_getElem? (i := 169) rfl) rfl
theorem mw_561 : (.methodLink RL 60 yX12_shifts : Cond) ∈ gwL := gw_at 6 (z := tables_1_6) rfl (List.mem_of_getElem? (i := 166) rfl) rfl
theorem mw_562 : (.instanceMethod yX12_shifts : Cond) ∈ gwL := gw_at 6 (z := tables_1_6) rfl (List.mem_of_getElem? (i := 167) rfl) rfl
theorem mw_563 : (.selects RX12 yX12_shifts yX12_shifts : Cond) ∈ gwL := gw_at 6 (z := tables_1_6) rfl (List.mem_of_getElem? (i := 168) rfl) rfl
theorem mw_564 : (.code yX11_once cX11_once 5 (some .int) : Cond) ∈ gwL := gw_at 3 (z := tables_1_3) rfl (List.mem_of_getElem? (i := 186) rfl) rfl
theorem mw_565 : (.methodLink RL 61 yX11_once : Cond) ∈ gwL := gw_at 3 (z := tables_1_3) rfl (List.mem_of_getElem? (i := 183) rfl) rfl
theorem mw_566 : (.instanceMethod yX11_once : Cond) ∈ gwL := gw_at 3 (z := tables_1_3) rfl (List.mem_of_getElem? (i := 184) rfl) rfl
theorem mw_567 : (.selects RX11 yX11_once yX11_once : Cond) ∈ gwL := gw_at 3 (z := tables_1_3) rfl (List.mem_of_getElem? (i := 185) rfl) rfl
theorem mw_568 : (.code yX12_once cX12_once 13 (some .int) : Cond) ∈ gwL := gw_at 6 (z := tables_1_6) rfl (List.mem_of_getElem? (i := 185) rfl) rfl
theorem mw_569 : (.methodLink RL 64 yX12_once : Cond) ∈ gwL := gw_at 6 (z := tables_1_6) rfl (List.mem_of_getElem? (i := 182) rfl) rfl
theorem mw_570 : (.instanceMethod yX12_once : Cond) ∈ gwL := gw_at 6 (z := tables_1_6) rfl (List.mem_of_getElem? (i := 183) rfl) rfl
theorem mw_571 : (.selects RX12 yX12_once yX12_once : Cond) ∈ gwL := gw_at 6 (z := tables_1_6) rfl (List.mem_of_getElem? (i := 184) rfl) rfl
theorem mw_572 : (.code yX11_week cX11_week 4 (some .int) : Cond) ∈ gwL := gw_at 3 (z := tables_1_3) rfl (List.mem_of_getElem? (i := 194) rfl) rfl
theorem mw_573 : (.methodLink RL 65 yX11_week : Cond) ∈ gwL := gw_at 3 (z := tables_1_3) rfl (List.mem_of_getElem? (i := 191) rfl) rfl
theorem mw_574 : (.instanceMethod yX11_week : Cond) ∈ gwL := gw_at 3 (z := tables_1_3) rfl (List.mem_of_getElem? (i := 192) rfl) rfl
theorem mw_575 : (.selects RX11 yX11_week yX11_week : Cond) ∈ gwL := gw_at 3 (z := tables_1_3) rfl (List.mem_of_getElem? (i := 193) rfl) rfl
theorem mw_576 : (.code yX12_week cX12_week 4 (some .int) : Cond) ∈ gwL := gw_at 6 (z := tables_1_6) rfl (List.mem_of_getElem? (i := 189) rfl) rfl
theorem mw_577 : (.methodLink RL 68 yX12_week : Cond) ∈ gwL := gw_at 6 (z := tables_1_6) rfl (List.mem_of_getElem? (i := 186) rfl) rfl
theorem mw_578 : (.instanceMethod yX12_week : Cond) ∈ gwL := gw_at 6 (z := tables_1_6) rfl (List.mem_of_getElem? (i := 187) rfl) rfl
theorem mw_579 : (.selects RX12 yX12_week yX12_week : Cond) ∈ gwL := gw_at 6 (z := tables_1_6) rfl (List.mem_of_getElem? (i := 188) rfl) rfl
theorem mw_580 : (.code yX11_stands cX11_stands 5 (some .int) : Cond) ∈ gwL := gw_at 4 (z := tables_1_4) rfl (List.mem_of_getElem? (i := 8) rfl) rfl
theorem mw_581 : (.methodLink RL 69 yX11_stands : Cond) ∈ gwL := gw_at 4 (z := tables_1_4) rfl (List.mem_of_getElem? (i := 5) rfl) rfl
theorem mw_582 : (.instanceMethod yX11_stands : Cond) ∈ gwL := gw_at 4 (z := tables_1_4) rfl (List.mem_of_getElem? (i := 6) rfl) rfl
theorem mw_583 : (.selects RX11 yX11_stands yX11_stands : Cond) ∈ gwL := gw_at 4 (z := tables_1_4) rfl (List.mem_of_getElem? (i := 7) rfl) rfl
theorem mw_584 : (.code yX12_stands cX12_stands 4 (some .int) : Cond) ∈ gwL := gw_at 6 (z := tables_1_6) rfl (List.mem_of_getElem? (i := 220) rfl) rfl
theorem mw_585 : (.methodLink RL 72 yX12_stands : Cond) ∈ gwL := gw_at 6 (z := tables_1_6) rfl (List.mem_of_getElem? (i := 217) rfl) rfl
theorem mw_586 : (.instanceMethod yX12_stands : Cond) ∈ gwL := gw_at 6 (z := tables_1_6) rfl (List.mem_of_getElem? (i := 218) rfl) rfl
theorem mw_587 : (.selects RX12 yX12_stands yX12_stands : Cond) ∈ gwL := gw_at 6 (z := tables_1_6) rfl (List.mem_of_getElem? (i := 219) rfl) rfl
theorem mw_588 : (.code yX11_pays cX11_pays 5 (some .int) : Cond) ∈ gwL := gw_at 4 (z := tables_1_4) rfl (List.mem_of_getElem? (i := 12) rfl) rfl
theorem mw_589 : (.methodLink RL 73 yX11_pays : Cond) ∈ gwL := gw_at 4 (z := tables_1_4) rfl (List.mem_of_getElem? (i := 9) rfl) rfl
theorem mw_590 : (.instanceMethod yX11_pays : Cond) ∈ gwL := gw_at 4 (z := tables_1_4) rfl (List.mem_of_getElem? (i := 10) rfl) rfl
theorem mw_591 : (.selects RX11 yX11_pays yX11_pays : Cond) ∈ gwL := gw_at 4 (z := tables_1_4) rfl (List.mem_of_getElem? (i := 11) rfl) rfl
theorem mw_592 : (.code yX12_pays cX12_pays 7 (some .int) : Cond) ∈ gwL := gw_at 6 (z := tables_1_6) rfl (List.mem_of_getElem? (i := 224) rfl) rfl
theorem mw_593 : (.methodLink RL 76 yX12_pays : Cond) ∈ gwL := gw_at 6 (z := tables_1_6) rfl (List.mem_of_getElem? (i := 221) rfl) rfl
theorem mw_594 : (.instanceMethod yX12_pays : Cond) ∈ gwL := gw_at 6 (z := tables_1_6) rfl (List.mem_of_getElem? (i := 222) rfl) rfl
theorem mw_595 : (.selects RX12 yX12_pays yX12_pays : Cond) ∈ gwL := gw_at 6 (z := tables_1_6) rfl (List.mem_of_getElem? (i := 223) rfl) rfl
theorem mw_596 : (.code yX11_memories cX11_memories 5 (some .int) : Cond) ∈ gwL := gw_at 4 (z := tables_1_4) rfl (List.mem_of_getElem? (i := 21) rfl) rfl
theorem mw_597 : (.methodLink RL 77 yX11_memories : Cond) ∈ gwL := gw_at 4 (z := tables_1_4) rfl (List.mem_of_getElem? (i := 18) rfl) rfl
theorem mw_598 : (.instanceMethod yX11_memories : Cond) ∈ gwL := gw_at 4 (z := tables_1_4) rfl (List.mem_of_getElem? (i := 19) rfl) rfl
theorem mw_599 : (.selects RX11 yX11_memories yX11_memories : Cond) ∈ gwL := gw_at 4 (z := tables_1_4) rfl (List.mem_of_getElem? (i := 20) rfl) rfl
theorem mw_600 : (.code yX12_memories cX12_memories 8 (some .int) : Cond) ∈ gwL := gw_at 6 (z := tables_1_6) rfl (List.mem_of_getElem? (i := 228) rfl) rfl
theorem mw_601 : (.methodLink RL 80 yX12_memories : Cond) ∈ gwL := gw_at 6 (z := tables_1_6) rfl (List.mem_of_getElem? (i := 225) rfl) rfl
theorem mw_602 : (.instanceMethod yX12_memories : Cond) ∈ gwL := gw_at 6 (z := tables_1_6) rfl (List.mem_of_getElem? (i := 226) rfl) rfl
theorem mw_603 : (.selects RX12 yX12_memories yX12_memories : Cond) ∈ gwL := gw_at 6 (z := tables_1_6) rfl (List.mem_of_getElem? (i := 227) rfl) rfl
theorem mw_604 : (.code yX11_marked cX11_marked 3 (some .int) : Cond) ∈ gwL := gw_at 4 (z := tables_1_4) rfl (List.mem_of_getElem? (i := 39) rfl) rfl
theorem mw_605 : (.methodLink RL 81 yX11_marked : Cond) ∈ gwL := gw_at 4 (z := tables_1_4) rfl (List.mem_of_getElem? (i := 36) rfl) rfl
theorem mw_606 : (.instanceMethod yX11_marked : Cond) ∈ gwL := gw_at 4 (z := tables_1_4) rfl (List.mem_of_getElem? (i := 37) rfl) rfl
theorem mw_607 : (.selects RX11 yX11_marked yX11_marked : Cond) ∈ gwL := gw_at 4 (z := tables_1_4) rfl (List.mem_of_getElem? (i := 38) rfl) rfl
theorem mw_608 : (.code yX12_marked cX12_marked 4 (some .int) : Cond) ∈ gwL := gw_at 6 (z := tables_1_6) rfl (List.mem_of_getElem? (i := 235) rfl) rfl
theorem mw_609 : (.methodLink RL 84 yX12_marked : Cond) ∈ gwL := gw_at 6 (z := tables_1_6) rfl (List.mem_of_getElem? (i := 232) rfl) rfl
theorem mw_610 : (.instanceMethod yX12_marked : Cond) ∈ gwL := gw_at 6 (z := tables_1_6) rfl (List.mem_of_getElem? (i := 233) rfl) rfl
theorem mw_611 : (.selects RX12 yX12_marked yX12_marked : Cond) ∈ gwL := gw_at 6 (z := tables_1_6) rfl (List.mem_of_getElem? (i := 234) rfl) rfl
theorem mw_612 : (.code yX11_chairs cX11_chairs 6 (some .int) : Cond) ∈ gwL := gw_at 4 (z := tables_1_4) rfl (List.mem_of_getElem? (i := 47) rfl) rfl
theorem mw_613 : (.methodLink RL 85 yX11_chairs : Cond) ∈ gwL := gw_at 4 (z := tables_1_4) rfl (List.mem_of_getElem? (i := 44) rfl) rfl
theorem mw_614 : (.instanceMethod yX11_chairs : Cond) ∈ gwL := gw_at 4 (z := tables_1_4) rfl (List.mem_of_getElem? (i := 45) rfl) rfl
theorem mw_615 : (.selects RX11 yX11_chairs yX11_chairs : Cond) ∈ gwL := gw_at 4 (z := tables_1_4) rfl (List.mem_of_getElem? (i := 46) rfl) rfl
theorem mw_616 : (.code yX12_chairs cX12_chairs 7 (some .int) : Cond) ∈ gwL := gw_at 7 (z := tables_1_7) rfl (List.mem_of_getElem? (i := 4) rfl) rfl
theorem mw_617 : (.methodLink RL 88 yX12_chairs : Cond) ∈ gwL := gw_at 7 (z := tables_1_7) rfl (List.mem_of_getElem? (i := 1) rfl) rfl
theorem mw_618 : (.instanceMethod yX12_chairs : Cond) ∈ gwL := gw_at 7 (z := tables_1_7) rfl (List.mem_of_getElem? (i := 2) rfl) rfl
theorem mw_619 : (.selects RX12 yX12_chairs yX12_chairs : Cond) ∈ gwL := gw_at 7 (z := tables_1_7) rfl (List.mem_of_getElem? (i := 3) rfl) rfl
theorem mw_620 : (.code yX11_wilful cX11_wilful 4 (some .int) : Cond) ∈ gwL := gw_at 4 (z := tables_1_4) rfl (List.mem_of_getElem? (i := 80) rfl) rfl
theorem mw_621 : (.methodLink RL 89 yX11_wilful : Cond) ∈ gwL := gw_at 4 (z := tables_1_4) rfl (List.mem_of_getElem? (i := 77) rfl) rfl
theorem mw_622 : (.instanceMethod yX11_wilful : Cond) ∈ gwL := gw_at 4 (z := tables_1_4) rfl (List.mem_of_getElem? (i := 78) rfl) rfl
theorem mw_623 : (.selects RX11 yX11_wilful yX11_wilful : Cond) ∈ gwL := gw_at 4 (z := tables_1_4) rfl (List.mem_of_getElem? (i := 79) rfl) rfl
theorem mw_624 : (.code yX12_wilful cX12_wilful 6 (some .int) : Cond) ∈ gwL := gw_at 6 (z := tables_1_6) rfl (List.mem_of_getElem? (i := 239) rfl) rfl
theorem mw_625 : (.methodLink RL 92 yX12_wilful : Cond) ∈ gwL := gw_at 6 (z := tables_1_6) rfl (List.mem_of_getElem? (i := 236) rfl) rfl
theorem mw_626 : (.instanceMethod yX12_wilful : Cond) ∈ gwL := gw_at 6 (z := tables_1_6) rfl (List.mem_of_getElem? (i := 237) rfl) rfl
theorem mw_627 : (.selects RX12 yX12_wilful yX12_wilful : Cond) ∈ gwL := gw_at 6 (z := tables_1_6) rfl (List.mem_of_getElem? (i := 238) rfl) rfl
theorem mw_628 : (.code yX11_who cX11_who 5 (some .int) : Cond) ∈ gwL := gw_at 4 (z := tables_1_4) rfl (List.mem_of_getElem? (i := 89) rfl) rfl
theorem mw_629 : (.methodLink RL 93 yX11_who : Cond) ∈ gwL := gw_at 4 (z := tables_1_4) rfl (List.mem_of_getElem? (i := 86) rfl) rfl
theorem mw_630 : (.instanceMethod yX11_who : Cond) ∈ gwL := gw_at 4 (z := tables_1_4) rfl (List.mem_of_getElem? (i := 87) rfl) rfl
theorem mw_631 : (.selects RX11 yX11_who yX11_who : Cond) ∈ gwL := gw_at 4 (z := tables_1_4) rfl (List.mem_of_getElem? (i := 88) rfl) rfl
theorem mw_632 : (.code yX12_who cX12_who 10 (some .int) : Cond) ∈ gwL := gw_at 7 (z := tables_1_7) rfl (List.mem_of_getElem? (i := 20) rfl) rfl
theorem mw_633 : (.methodLink RL 96 yX12_who : Cond) ∈ gwL := gw_at 7 (z := tables_1_7) rfl (List.mem_of_getElem? (i := 17) rfl) rfl
theorem mw_634 : (.instanceMethod yX12_who : Cond) ∈ gwL := gw_at 7 (z := tables_1_7) rfl (List.mem_of_getElem? (i := 18) rfl) rfl
theorem mw_635 : (.selects RX12 yX12_who yX12_who : Cond) ∈ gwL := gw_at 7 (z := tables_1_7) rfl (List.mem_of_getElem? (i := 19) rfl) rfl
theorem mw_636 : (.code yX11_judge cX11_judge 7 (some .int) : Cond) ∈ gwL := gw_at 4 (z := tables_1_4) rfl (List.mem_of_getElem? (i := 128) rfl) rfl
theorem mw_637 : (.methodLink RL 97 yX11_judge : Cond) ∈ gwL := gw_at 4 (z := tables_1_4) rfl (List.mem_of_getElem? (i := 125) rfl) rfl
theorem mw_638 : (.instanceMethod yX11_judge : Cond) ∈ gwL := gw_at 4 (z := tables_1_4) rfl (List.mem_of_getElem? (i := 126) rfl) rfl
theorem mw_639 : (.selects RX11 yX11_judge yX11_judge : Cond) ∈ gwL := gw_at 4 (z := tables_1_4) rfl (List.mem_of_getElem? (i := 127) rfl) rfl
theorem mw_640 : (.code yX12_judge cX12_judge 4 (some .int) : Cond) ∈ gwL := gw_at 7 (z := tables_1_7) rfl (List.mem_of_getElem? (i := 38) rfl) rfl
theorem mw_641 : (.methodLink RL 100 yX12_judge : Cond) ∈ gwL := gw_at 7 (z := tables_1_7) rfl (List.mem_of_getElem? (i := 35) rfl) rfl
theorem mw_642 : (.instanceMethod yX12_judge : Cond) ∈ gwL := gw_at 7 (z := tables_1_7) rfl (List.mem_of_getElem? (i := 36) rfl) rfl
theorem mw_643 : (.selects RX12 yX12_judge yX12_judge : Cond) ∈ gwL := gw_at 7 (z := tables_1_7) rfl (List.mem_of_getElem? (i := 37) rfl) rfl
theorem mw_644 : (.code yX11_drawn cX11_drawn 7 (some .int) : Cond) ∈ gwL := gw_at 4 (z := tables_1_4) rfl (List.mem_of_getElem? (i := 140) rfl) rfl
theorem mw_645 : (.methodLink RL 101 yX11_drawn : Cond) ∈ gwL := gw_at 4 (z := tables_1_4) rfl (List.mem_of_getElem? (i := 137) rfl) rfl
theorem mw_646 : (.instanceMethod yX11_drawn : Cond) ∈ gwL := gw_at 4 (z := tables_1_4) rfl (List.mem_of_getElem? (i := 138) rfl) rfl
theorem mw_647 : (.selects RX11 yX11_drawn yX11_drawn : Cond) ∈ gwL := gw_at 4 (z := tables_1_4) rfl (List.mem_of_getElem? (i := 139) rfl) rfl
theorem mw_648 : (.code yX12_drawn cX12_drawn 11 (some .int) : Cond) ∈ gwL := gw_at 7 (z := tables_1_7) rfl (List.mem_of_getElem? (i := 42) rfl) rfl
theorem mw_649 : (.methodLink RL 105 yX12_drawn : Cond) ∈ gwL := gw_at 7 (z := tables_1_7) rfl (List.mem_of_getElem? (i := 39) rfl) rfl
theorem mw_650 : (.instanceMethod yX12_drawn : Cond) ∈ gwL := gw_at 7 (z := tables_1_7) rfl (List.mem_of_getElem? (i := 40) rfl) rfl
theorem mw_651 : (.selects RX12 yX12_drawn yX12_drawn : Cond) ∈ gwL := gw_at 7 (z := tables_1_7) rfl (List.mem_of_getElem? (i := 41) rfl) rfl
theorem mw_652 : (.code yX11_sit cX11_sit 2 (some .int) : Cond) ∈ gwL := gw_at 4 (z := tables_1_4) rfl (List.mem_of_getElem? (i := 149) rfl) rfl
theorem mw_653 : (.methodLink RL 106 yX11_sit : Cond) ∈ gwL := gw_at 4 (z := tables_1_4) rfl (List.mem_of_getElem? (i := 146) rfl) rfl
theorem mw_654 : (.instanceMethod yX11_sit : Cond) ∈ gwL := gw_at 4 (z := tables_1_4) rfl (List.mem_of_getElem? (i := 147) rfl) rfl
theorem mw_655 : (.selects RX11 yX11_sit yX11_sit : Cond) ∈ gwL := gw_at 4 (z := tables_1_4) rfl (List.mem_of_getElem? (i := 148) rfl) rfl
theorem mw_656 : (.code yX12_sit cX12_sit 3 (some .int) : Cond) ∈ gwL := gw_at 7 (z := tables_1_7) rfl (List.mem_of_getElem? (i := 48) rfl) rfl
theorem mw_657 : (.methodLink RL 109 yX12_sit : Cond) ∈ gwL := gw_at 7 (z := tables_1_7) rfl (List.mem_of_getElem? (i := 45) rfl) rfl
theorem mw_658 : (.instanceMethod yX12_sit : Cond) ∈ gwL := gw_at 7 (z := tables_1_7) rfl (List.mem_of_getElem? (i := 46) rfl) rfl
theorem mw_659 : (.selects RX12 yX12_sit yX12_sit : Cond) ∈ gwL := gw_at 7 (z := tables_1_7) rfl (List.mem_of_getElem? (i := 47) rfl) rfl
theorem mw_660 : (.code yX11_set cX11_set 3 (some .int) : Cond) ∈ gwL := gw_at 4 (z := tables_1_4) rfl (List.mem_of_getElem? (i := 161) rfl) rfl
theorem mw_661 : (.methodLink RL 110 yX11_set : Cond) ∈ gwL := gw_at 4 (z := tables_1_4) rfl (List.mem_of_getElem? (i := 158) rfl) rfl
theorem mw_662 : (.instanceMethod yX11_set : Cond) ∈ gwL := gw_at 4 (z := tables_1_4) rfl (List.mem_of_getElem? (i := 159) rfl) rfl
theorem mw_663 : (.selects RX11 yX11_set yX11_set : Cond) ∈ gwL := gw_at 4 (z := tables_1_4) rfl (List.mem_of_getElem? (i := 160) rfl) rfl
theorem mw_664 : (.code yX12_set cX12_set 4 (some .int) : Cond) ∈ gwL := gw_at 7 (z := tables_1_7) rfl (List.mem_of_getElem? (i := 52) rfl) rfl
theorem mw_665 : (.methodLink RL 113 yX12_set : Cond) ∈ gwL := gw_at 7 (z := tables_1_7) rfl (List.mem_of_getElem? (i := 49) rfl) rfl
theorem mw_666 : (.instanceMethod yX12_set : Cond) ∈ gwL := gw_at 7 (z := tables_1_7) rfl (List.mem_of_getElem? (i := 50) rfl) rfl
theorem mw_667 : (.selects RX12 yX12_set yX12_set : Cond) ∈ gwL := gw_at 7 (z := tables_1_7) rfl (List.mem_of_getElem? (i := 51) rfl) rfl
theorem mw_668 : (.code yX11_night cX11_night 1 (some .int) : Cond) ∈ gwL := gw_at 4 (z := tables_1_4) rfl (List.mem_of_getElem? (i := 170) rfl) rfl
theorem mw_669 : (.methodLink RL 114 yX11_night : Cond) ∈ gwL := gw_at 4 (z := tables_1_4) rfl (List.mem_of_getElem? (i := 167) rfl) rfl
theorem mw_670 : (.instanceMethod yX11_night : Cond) ∈ gwL := gw_at 4 (z := tables_1_4) rfl (List.mem_of_getElem? (i := 168) rfl) rfl
theorem mw_671 : (.selects RX11 yX11_night yX11_night : Cond) ∈ gwL := gw_at 4 (z := tables_1_4) rfl (List.mem_of_getElem? (i := 169) rfl) rfl
theorem mw_672 : (.code yX12_night cX12_night 4 (some .int) : Cond) ∈ gwL := gw_at 7 (z := tables_1_7) rfl (List.mem_of_getElem? (i := 56) rfl) rfl
theorem mw_673 : (.methodLink RL 117 yX12_night : Cond) ∈ gwL := gw_at 7 (z := tables_1_7) rfl (List.mem_of_getElem? (i := 53) rfl) rfl
theorem mw_674 : (.instanceMethod yX12_night : Cond) ∈ gwL := gw_at 7 (z := tables_1_7) rfl (List.mem_of_getElem? (i := 54) rfl) rfl
theorem mw_675 : (.selects RX12 yX12_night yX12_night : Cond) ∈ gwL := gw_at 7 (z := tables_1_7) rfl (List.mem_of_getElem? (i := 55) rfl) rfl
theorem mw_676 : (.code yX11_led cX11_led 2 (some .int) : Cond) ∈ gwL := gw_at 4 (z := tables_1_4) rfl (List.mem_of_getElem? (i := 179) rfl) rfl
theorem mw_677 : (.methodLink RL 118 yX11_led : Cond) ∈ gwL := gw_at 4 (z := tables_1_4) rfl (List.mem_of_getElem? (i := 176) rfl) rfl
theorem mw_678 : (.instanceMethod yX11_led : Cond) ∈ gwL := gw_at 4 (z := tables_1_4) rfl (List.mem_of_getElem? (i := 177) rfl) rfl
theorem mw_679 : (.selects RX11 yX11_led yX11_led : Cond) ∈ gwL := gw_at 4 (z := tables_1_4) rfl (List.mem_of_getElem? (i := 178) rfl) rfl
theorem mw_680 : (.methodLink RL 121 yX12_led : Cond) ∈ gwL := gw_at 7 (z := tables_1_7) rfl (List.mem_of_getElem? (i := 57) rfl) rfl
theorem mw_681 : (.code yX11_image cX11_image 1 (some .int) : Cond) ∈ gwL := gw_at 4 (z := tables_1_4) rfl (List.mem_of_getElem? (i := 183) rfl) rfl
theorem mw_682 : (.methodLink RL 122 yX11_image : Cond) ∈ gwL := gw_at 4 (z := tables_1_4) rfl (List.mem_of_getElem? (i := 180) rfl) rfl
theorem mw_683 : (.instanceMethod yX11_image : Cond) ∈ gwL := gw_at 4 (z := tables_1_4) rfl (List.mem_of_getElem? (i := 181) rfl) rfl
theorem mw_684 : (.selects RX11 yX11_image yX11_image : Cond) ∈ gwL := gw_at 4 (z := tables_1_4) rfl (List.mem_of_getElem? (i := 182) rfl) rfl
theorem mw_685 : (.code yX12_image cX12_image 2 (some .int) : Cond) ∈ gwL := gw_at 7 (z := tables_1_7) rfl (List.mem_of_getElem? (i := 64) rfl) rfl
theorem mw_686 : (.methodLink RL 125 yX12_image : Cond) ∈ gwL := gw_at 7 (z := tables_1_7) rfl (List.mem_of_getElem? (i := 61) rfl) rfl
theorem mw_687 : (.instanceMethod yX12_image : Cond) ∈ gwL := gw_at 7 (z := tables_1_7) rfl (List.mem_of_getElem? (i := 62) rfl) rfl
theorem mw_688 : (.selects RX12 yX12_image yX12_image : Cond) ∈ gwL := gw_at 7 (z := tables_1_7) rfl (List.mem_of_getElem? (i := 63) rfl) rfl
theorem mw_689 : (.code yX11_back cX11_back 1 (some .int) : Cond) ∈ gwL := gw_at 4 (z := tables_1_4) rfl (List.mem_of_getElem? (i := 191) rfl) rfl
theorem mw_690 : (.methodLink RL 126 yX11_back : Cond) ∈ gwL := gw_at 4 (z := tables_1_4) rfl (List.mem_of_getElem? (i := 188) rfl) rfl
theorem mw_691 : (.instanceMethod yX11_back : Cond) ∈ gwL := gw_at 4 (z := tables_1_4) rfl (List.mem_of_getElem? (i := 189) rfl) rfl
theorem mw_692 : (.selects RX11 yX11_back yX11_back : Cond) ∈ gwL := gw_at 4 (z := tables_1_4) rfl (List.mem_of_getElem? (i := 190) rfl) rfl
theorem mw_693 : (.code yX12_back cX12_back 2 (some .int) : Cond) ∈ gwL := gw_at 7 (z := tables_1_7) rfl (List.mem_of_getElem? (i := 69) rfl) rfl
theorem mw_694 : (.methodLink RL 129 yX12_back : Cond) ∈ gwL := gw_at 7 (z := tables_1_7) rfl (List.mem_of_getElem? (i := 66) rfl) rfl
theorem mw_695 : (.instanceMethod yX12_back : Cond) ∈ gwL := gw_at 7 (z := tables_1_7) rfl (List.mem_of_getElem? (i := 67) rfl) rfl
theorem mw_696 : (.selects RX12 yX12_back yX12_back : Cond) ∈ gwL := gw_at 7 (z := tables_1_7) rfl (List.mem_of_getElem? (i := 68) rfl) rfl
theorem mw_697 : (.code yX11_undo cX11_undo 1 (some .int) : Cond) ∈ gwL := gw_at 4 (z := tables_1_4) rfl (List.mem_of_getElem? (i := 199) rfl) rfl
theorem mw_698 : (.methodLink RL 130 yX11_undo : Cond) ∈ gwL := gw_at 4 (z := tables_1_4) rfl (List.mem_of_getElem? (i := 196) rfl) rfl
theorem mw_699 : (.instanceMethod yX11_undo : Cond) ∈ gwL := gw_at 4 (z := tables_1_4) rfl (List.mem_of_getElem? (i := 197) rfl) rfl
theorem mw_700 : (.selects RX11 yX11_undo yX11_undo : Cond) ∈ gwL := gw_at 4 (z := tables_1_4) rfl (List.mem_of_getElem? (i := 198) rfl) rfl
theorem mw_701 : (.code yX12_undo cX12_undo 1 (some .int) : Cond) ∈ gwL := gw_at 5 (z := tables_1_5) rfl (List.mem_of_getElem? (i := 231) rfl) rfl
theorem mw_702 : (.methodLink RL 133 yX12_undo : Cond) ∈ gwL := gw_at 5 (z := tables_1_5) rfl (List.mem_of_getElem? (i := 228) rfl) rfl
theorem mw_703 : (.instanceMethod yX12_undo : Cond) ∈ gwL := gw_at 5 (z := tables_1_5) rfl (List.mem_of_getElem? (i := 229) rfl) rfl
theorem mw_704 : (.selects RX12 yX12_undo yX12_undo : Cond) ∈ gwL := gw_at 5 (z := tables_1_5) rfl (List.mem_of_getElem? (i := 230) rfl) rfl
theorem mw_705 : (.code yX11_redo cX11_redo 1 (some .int) : Cond) ∈ gwL := gw_at 4 (z := tables_1_4) rfl (List.mem_of_getElem? (i := 203) rfl) rfl
theorem mw_706 : (.methodLink RL 134 yX11_redo : Cond) ∈ gwL := gw_at 4 (z := tables_1_4) rfl (List.mem_of_getElem? (i := 200) rfl) rfl
theorem mw_707 : (.instanceMethod yX11_redo : Cond) ∈ gwL := gw_at 4 (z := tables_1_4) rfl (List.mem_of_getElem? (i := 201) rfl) rfl
theorem mw_708 : (.selects RX11 yX11_redo yX11_redo : Cond) ∈ gwL := gw_at 4 (z := tables_1_4) rfl (List.mem_of_getElem? (i := 202) rfl) rfl
theorem mw_709 : (.code yX12_redo cX12_redo 1 (some .int) : Cond) ∈ gwL := gw_at 5 (z := tables_1_5) rfl (List.mem_of_getElem? (i := 235) rfl) rfl
theorem mw_710 : (.methodLink RL 137 yX12_redo : Cond) ∈ gwL := gw_at 5 (z := tables_1_5) rfl (List.mem_of_getElem? (i := 232) rfl) rfl
theorem mw_711 : (.instanceMethod yX12_redo : Cond) ∈ gwL := gw_at 5 (z := tables_1_5) rfl (List.mem_of_getElem? (i := 233) rfl) rfl
theorem mw_712 : (.selects RX12 yX12_redo yX12_redo : Cond) ∈ gwL := gw_at 5 (z := tables_1_5) rfl (List.mem_of_getElem? (i := 234) rfl) rfl
theorem mw_713 : (.code yX11_body cX11_body 2 (some .int) : Cond) ∈ gwL := gw_at 4 (z := tables_1_4) rfl (List.mem_of_getElem? (i := 207) rfl) rfl
theorem mw_714 : (.methodLink RL 138 yX11_body : Cond) ∈ gwL := gw_at 4 (z := tables_1_4) rfl (List.mem_of_getElem? (i := 204) rfl) rfl
theorem mw_715 : (.instanceMethod yX11_body : Cond) ∈ gwL := gw_at 4 (z := tables_1_4) rfl (List.mem_of_getElem? (i := 205) rfl) rfl
theorem mw_716 : (.selects RX11 yX11_body yX11_body : Cond) ∈ gwL := gw_at 4 (z := tables_1_4) rfl (List.mem_of_getElem? (i := 206) rfl) rfl
theorem mw_717 : (.code yX12_body cX12_body 2 (some .int) : Cond) ∈ gwL := gw_at 7 (z := tables_1_7) rfl (List.mem_of_getElem? (i := 73) rfl) rfl
theorem mw_718 : (.methodLink RL 141 yX12_body : Cond) ∈ gwL := gw_at 7 (z := tables_1_7) rfl (List.mem_of_getElem? (i := 70) rfl) rfl
theorem mw_719 : (.instanceMethod yX12_body : Cond) ∈ gwL := gw_at 7 (z := tables_1_7) rfl (List.mem_of_getElem? (i := 71) rfl) rfl
theorem mw_720 : (.selects RX12 yX12_body yX12_body : Cond) ∈ gwL := gw_at 7 (z := tables_1_7) rfl (List.mem_of_getElem? (i := 72) rfl) rfl
theorem mw_721 : (.code yX11_act cX11_act 4 (some .int) : Cond) ∈ gwL := gw_at 4 (z := tables_1_4) rfl (List.mem_of_getElem? (i := 218) rfl) rfl
theorem mw_722 : (.methodLink RL 142 yX11_act : Cond) ∈ gwL := gw_at 4 (z := tables_1_4) rfl (List.mem_of_getElem? (i := 215) rfl) rfl
theorem mw_723 : (.instanceMethod yX11_act : Cond) ∈ gwL := gw_at 4 (z := tables_1_4) rfl (List.mem_of_getElem? (i := 216) rfl) rfl
theorem mw_724 : (.selects RX11 yX11_act yX11_act : Cond) ∈ gwL := gw_at 4 (z := tables_1_4) rfl (List.mem_of_getElem? (i := 217) rfl) rfl
theorem mw_725 : (.code yX12_act cX12_act 4 (some .int) : Cond) ∈ gwL := gw_at 7 (z := tables_1_7) rfl (List.mem_of_getElem? (i := 77) rfl) rfl
theorem mw_726 : (.methodLink RL 145 yX12_act : Cond) ∈ gwL := gw_at 7 (z := tables_1_7) rfl (List.mem_of_getElem? (i := 74) rfl) rfl
theorem mw_727 : (.instanceMethod yX12_act : Cond) ∈ gwL := gw_at 7 (z := tables_1_7) rfl (List.mem_of_getElem? (i := 75) rfl) rfl
theorem mw_728 : (.selects RX12 yX12_act yX12_act : Cond) ∈ gwL := gw_at 7 (z := tables_1_7) rfl (List.mem_of_getElem? (i := 76) rfl) rfl
theorem mw_729 : (.code yX11_trace cX11_trace 2 (some .int) : Cond) ∈ gwL := gw_at 5 (z := tables_1_5) rfl (List.mem_of_getElem? (i := 1) rfl) rfl
theorem mw_730 : (.methodLink RL 146 yX11_trace : Cond) ∈ gwL := gw_at 4 (z := tables_1_4) rfl (List.mem_of_getElem? (i := 238) rfl) rfl
theorem mw_731 : (.instanceMethod yX11_trace : Cond) ∈ gwL := gw_at 4 (z := tables_1_4) rfl (List.mem_of_getElem? (i := 239) rfl) rfl
theorem mw_732 : (.selects RX11 yX11_trace yX11_trace : Cond) ∈ gwL := gw_at 5 (z := tables_1_5) rfl (List.mem_of_getElem? (i := 0) rfl) rfl
theorem mw_733 : (.code yX12_trace cX12_trace 2 (some .int) : Cond) ∈ gwL := gw_at 7 (z := tables_1_7) rfl (List.mem_of_getElem? (i := 105) rfl) rfl
theorem mw_734 : (.methodLink RL 149 yX12_trace : Cond) ∈ gwL := gw_at 7 (z := tables_1_7) rfl (List.mem_of_getElem? (i := 102) rfl) rfl
theorem mw_735 : (.instanceMethod yX12_trace : Cond) ∈ gwL := gw_at 7 (z := tables_1_7) rfl (List.mem_of_getElem? (i := 103) rfl) rfl
theorem mw_736 : (.selects RX12 yX12_trace yX12_trace : Cond) ∈ gwL := gw_at 7 (z := tables_1_7) rfl (List.mem_of_getElem? (i := 104) rfl) rfl
theorem mw_737 : (.code yX11_keep cX11_keep 3 (some .int) : Cond) ∈ gwL := gw_at 5 (z := tables_1_5) rfl (List.mem_of_getElem? (i := 5) rfl) rfl
theorem mw_738 : (.methodLink RL 150 yX11_keep : Cond) ∈ gwL := gw_at 5 (z := tables_1_5) rfl (List.mem_of_getElem? (i := 2) rfl) rfl
theorem mw_739 : (.instanceMethod yX11_keep : Cond) ∈ gwL := gw_at 5 (z := tables_1_5) rfl (List.mem_of_getElem? (i := 3) rfl) rfl
theorem mw_740 : (.selects RX11 yX11_keep yX11_keep : Cond) ∈ gwL := gw_at 5 (z := tables_1_5) rfl (List.mem_of_getElem? (i := 4) rfl) rfl
theorem mw_741 : (.code yX12_keep cX12_keep 3 (some .int) : Cond) ∈ gwL := gw_at 7 (z := tables_1_7) rfl (List.mem_of_getElem? (i := 109) rfl) rfl
theorem mw_742 : (.methodLink RL 153 yX12_keep : Cond) ∈ gwL := gw_at 7 (z := tables_1_7) rfl (List.mem_of_getElem? (i := 106) rfl) rfl
theorem mw_743 : (.instanceMethod yX12_keep : Cond) ∈ gwL := gw_at 7 (z := tables_1_7) rfl (List.mem_of_getElem? (i := 107) rfl) rfl
theorem mw_744 : (.selects RX12 yX12_keep yX12_keep : Cond) ∈ gwL := gw_at 7 (z := tables_1_7) rfl (List.mem_of_getElem? (i := 108) rfl) rfl
theorem mw_745 : (.code yX11_row cX11_row 4 (some .int) : Cond) ∈ gwL := gw_at 5 (z := tables_1_5) rfl (List.mem_of_getElem? (i := 13) rfl) rfl
theorem mw_746 : (.methodLink RL 154 yX11_row : Cond) ∈ gwL := gw_at 5 (z := tables_1_5) rfl (List.mem_of_getElem? (i := 10) rfl) rfl
theorem mw_747 : (.instanceMethod yX11_row : Cond) ∈ gwL := gw_at 5 (z := tables_1_5) rfl (List.mem_of_getElem? (i := 11) rfl) rfl
theorem mw_748 : (.selects RX11 yX11_row yX11_row : Cond) ∈ gwL := gw_at 5 (z := tables_1_5) rfl (List.mem_of_getElem? (i := 12) rfl) rfl
theorem mw_749 : (.code yX12_row cX12_row 5 (some .int) : Cond) ∈ gwL := gw_at 7 (z := tables_1_7) rfl (List.mem_of_getElem? (i := 113) rfl) rfl
theorem mw_750 : (.methodLink RL 157 yX12_row : Cond) ∈ gwL := gw_at 7 (z := tables_1_7) rfl (List.mem_of_getElem? (i := 110) rfl) rfl
theorem mw_751 : (.instanceMethod yX12_row : Cond) ∈ gwL := gw_at 7 (z := tables_1_7) rfl (List.mem_of_getElem? (i := 111) rfl) rfl
theorem mw_752 : (.selects RX12 yX12_row yX12_row : Cond) ∈ gwL := gw_at 7 (z := tables_1_7) rfl (List.mem_of_getElem? (i := 112) rfl) rfl
theorem mw_753 : (.constantLong RL 158 (4294967295) : Cond) ∈ gwL := gw_at 7 (z := tables_1_7) rfl (List.mem_of_getElem? (i := 150) rfl) rfl
theorem mw_754 : (.code yX11_put cX11_put 6 (some .int) : Cond) ∈ gwL := gw_at 5 (z := tables_1_5) rfl (List.mem_of_getElem? (i := 21) rfl) rfl
theorem mw_755 : (.methodLink RL 160 yX11_put : Cond) ∈ gwL := gw_at 5 (z := tables_1_5) rfl (List.mem_of_getElem? (i := 18) rfl) rfl
theorem mw_756 : (.instanceMethod yX11_put : Cond) ∈ gwL := gw_at 5 (z := tables_1_5) rfl (List.mem_of_getElem? (i := 19) rfl) rfl
theorem mw_757 : (.selects RX11 yX11_put yX11_put : Cond) ∈ gwL := gw_at 5 (z := tables_1_5) rfl (List.mem_of_getElem? (i := 20) rfl) rfl
theorem mw_758 : (.code yX12_put cX12_put 6 (some .int) : Cond) ∈ gwL := gw_at 7 (z := tables_1_7) rfl (List.mem_of_getElem? (i := 118) rfl) rfl
theorem mw_759 : (.methodLink RL 164 yX12_put : Cond) ∈ gwL := gw_at 7 (z := tables_1_7) rfl (List.mem_of_getElem? (i := 115) rfl) rfl
theorem mw_760 : (.instanceMethod yX12_put : Cond) ∈ gwL := gw_at 7 (z := tables_1_7) rfl (List.mem_of_getElem? (i := 116) rfl) rfl
theorem mw_761 : (.selects RX12 yX12_put yX12_put : Cond) ∈ gwL := gw_at 7 (z := tables_1_7) rfl (List.mem_of_getElem? (i := 117) rfl) rfl
theorem mw_762 : (.code yX11_element cX11_element 3 (some .long) : Cond) ∈ gwL := gw_at 5 (z := tables_1_5) rfl (List.mem_of_getElem? (i := 37) rfl) rfl
theorem mw_763 : (.methodLink RL 165 yX11_element : Cond) ∈ gwL := gw_at 5 (z := tables_1_5) rfl (List.mem_of_getElem? (i := 34) rfl) rfl
theorem mw_764 : (.instanceMethod yX11_element : Cond) ∈ gwL := gw_at 5 (z := tables_1_5) rfl (List.mem_of_getElem? (i := 35) rfl) rfl
theorem mw_765 : (.selects RX11 yX11_element yX11_element : Cond) ∈ gwL := gw_at 5 (z := tables_1_5) rfl (List.mem_of_getElem? (i := 36) rfl) rfl
theorem mw_766 : (.code yX12_element cX12_element 3 (some .long) : Cond) ∈ gwL := gw_at 7 (z := tables_1_7) rfl (List.mem_of_getElem? (i := 129) rfl) rfl
theorem mw_767 : (.methodLink RL 169 yX12_element : Cond) ∈ gwL := gw_at 7 (z := tables_1_7) rfl (List.mem_of_getElem? (i := 126) rfl) rfl
theorem mw_768 : (.instanceMethod yX12_element : Cond) ∈ gwL := gw_at 7 (z := tables_1_7) rfl (List.mem_of_getElem? (i := 127) rfl) rfl
theorem mw_769 : (.selects RX12 yX12_element yX12_element : Cond) ∈ gwL := gw_at 7 (z := tables_1_7) rfl (List.mem_of_getElem? (i := 128) rfl) rfl
theorem mw_770 : (.code yX11_shift cX11_shift 8 (some .int) : Cond) ∈ gwL := gw_at 5 (z := tables_1_5) rfl (List.mem_of_getElem? (i := 42) rfl) rfl
theorem mw_771 : (.methodLink RL 170 yX11_shift : Cond) ∈ gwL := gw_at 5 (z := tables_1_5) rfl (List.mem_of_getElem? (i := 39) rfl) rfl
theorem mw_772 : (.instanceMethod yX11_shift : Cond) ∈ gwL := gw_at 5 (z := tables_1_5) rfl (List.mem_of_getElem? (i := 40) rfl) rfl
theorem mw_773 : (.selects RX11 yX11_shift yX11_shift : Cond) ∈ gwL := gw_at 5 (z := tables_1_5) rfl (List.mem_of_getElem? (i := 41) rfl) rfl
theorem mw_774 : (.code yX12_shift cX12_shift 7 (some .int) : Cond) ∈ gwL := gw_at 7 (z := tables_1_7) rfl (List.mem_of_getElem? (i := 134) rfl) rfl
theorem mw_775 : (.methodLink RL 174 yX12_shift : Cond) ∈ gwL := gw_at 7 (z := tables_1_7) rfl (List.mem_of_getElem? (i := 131) rfl) rfl
theorem mw_776 : (.instanceMethod yX12_shift : Cond) ∈ gwL := gw_at 7 (z := tables_1_7) rfl (List.mem_of_getElem? (i := 132) rfl) rfl
theorem mw_777 : (.selects RX12 yX12_shift yX12_shift : Cond) ∈ gwL := gw_at 7 (z := tables_1_7) rfl (List.mem_of_getElem? (i := 133) rfl) rfl
theorem mw_778 : (.code yX11_taken cX11_taken 4 (some .int) : Cond) ∈ gwL := gw_at 5 (z := tables_1_5) rfl (List.mem_of_getElem? (i := 47) rfl) rfl
theorem mw_779 : (.methodLink RL 175 yX11_taken : Cond) ∈ gwL := gw_at 5 (z := tables_1_5) rfl (List.mem_of_getElem? (i := 44) rfl) rfl
theorem mw_780 : (.instanceMethod yX11_taken : Cond) ∈ gwL := gw_at 5 (z := tables_1_5) rfl (List.mem_of_getElem? (i := 45) rfl) rfl
theorem mw_781 : (.selects RX11 yX11_taken yX11_taken : Cond) ∈ gwL := gw_at 5 (z := tables_1_5) rfl (List.mem_of_getElem? (i := 46) rfl) rfl
theorem mw_782 : (.code yX12_taken cX12_taken 4 (some .int) : Cond) ∈ gwL := gw_at 7 (z := tables_1_7) rfl (List.mem_of_getElem? (i := 138) rfl) rfl
theorem mw_783 : (.methodLink RL 178 yX12_taken : Cond) ∈ gwL := gw_at 7 (z := tables_1_7) rfl (List.mem_of_getElem? (i := 135) rfl) rfl
theorem mw_784 : (.instanceMethod yX12_taken : Cond) ∈ gwL := gw_at 7 (z := tables_1_7) rfl (List.mem_of_getElem? (i := 136) rfl) rfl
theorem mw_785 : (.selects RX12 yX12_taken yX12_taken : Cond) ∈ gwL := gw_at 7 (z := tables_1_7) rfl (List.mem_of_getElem? (i := 137) rfl) rfl
theorem mw_786 : (.code yX11_count cX11_count 2 (some .int) : Cond) ∈ gwL := gw_at 5 (z := tables_1_5) rfl (List.mem_of_getElem? (i := 55) rfl) rfl
theorem mw_787 : (.methodLink RL 179 yX11_count : Cond) ∈ gwL := gw_at 5 (z := tables_1_5) rfl (List.mem_of_getElem? (i := 52) rfl) rfl
theorem mw_788 : (.instanceMethod yX11_count : Cond) ∈ gwL := gw_at 5 (z := tables_1_5) rfl (List.mem_of_getElem? (i := 53) rfl) rfl
theorem mw_789 : (.selects RX11 yX11_count yX11_count : Cond) ∈ gwL := gw_at 5 (z := tables_1_5) rfl (List.mem_of_getElem? (i := 54) rfl) rfl
theorem mw_790 : (.code yX12_count cX12_count 2 (some .int) : Cond) ∈ gwL := gw_at 7 (z := tables_1_7) rfl (List.mem_of_getElem? (i := 149) rfl) rfl
theorem mw_791 : (.methodLink RL 182 yX12_count : Cond) ∈ gwL := gw_at 7 (z := tables_1_7) rfl (List.mem_of_getElem? (i := 146) rfl) rfl
theorem mw_792 : (.instanceMethod yX12_count : Cond) ∈ gwL := gw_at 7 (z := tables_1_7) rfl (List.mem_of_getElem? (i := 147) rfl) rfl
theorem mw_793 : (.selects RX12 yX12_count yX12_count : Cond) ∈ gwL := gw_at 7 (z := tables_1_7) rfl (List.mem_of_getElem? (i := 148) rfl) rfl
theorem mw_794 : (.classLink RL 7 RX11 : Cond) ∈ gwL := gw_at 1 (z := tables_1_1) rfl (List.mem_of_getElem? (i := 17) rfl) rfl
theorem mw_795 : (.instantiable RX11 10 : Cond) ∈ gwL := gw_at 1 (z := tables_1_1) rfl (List.mem_of_getElem? (i := 18) rfl) rfl
theorem mw_796 : (.code yX11_init cX11_init 2 none : Cond) ∈ gwL := gw_at 1 (z := tables_1_1) rfl (List.mem_of_getElem? (i := 21) rfl) rfl
theorem mw_797 : (.methodLink RL 9 yX11_init : Cond) ∈ gwL := gw_at 1 (z := tables_1_1) rfl (List.mem_of_getElem? (i := 19) rfl) rfl
theorem mw_798 : (.instanceMethod yX11_init : Cond) ∈ gwL := gw_at 1 (z := tables_1_1) rfl (List.mem_of_getElem? (i := 20) rfl) rfl
theorem mw_799 : (.classLink RL 10 RX12 : Cond) ∈ gwL := gw_at 5 (z := tables_1_5) rfl (List.mem_of_getElem? (i := 56) rfl) rfl
theorem mw_800 : (.instantiable RX12 55 : Cond) ∈ gwL := gw_at 5 (z := tables_1_5) rfl (List.mem_of_getElem? (i := 57) rfl) rfl
theorem mw_801 : (.code yX12_init cX12_init 2 none : Cond) ∈ gwL := gw_at 5 (z := tables_1_5) rfl (List.mem_of_getElem? (i := 60) rfl) rfl
theorem mw_802 : (.methodLink RL 12 yX12_init : Cond) ∈ gwL := gw_at 5 (z := tables_1_5) rfl (List.mem_of_getElem? (i := 58) rfl) rfl
theorem mw_803 : (.instanceMethod yX12_init : Cond) ∈ gwL := gw_at 5 (z := tables_1_5) rfl (List.mem_of_getElem? (i := 59) rfl) rfl
abbrev gwX0_becomes : List Cond := Cond.code yX0_becomes cX0_becomes 3 none :: gwL
abbrev gwX0_comes : List Cond := Cond.code yX0_comes cX0_comes 6 (some .int) :: gwL
abbrev gwX0_forget : List Cond := Cond.code yX0_forget cX0_forget 4 none :: gwL
abbrev gwX0_has : List Cond := Cond.code yX0_has cX0_has 2 (some .boolean) :: gwL
abbrev gwX0_init : List Cond := Cond.code yX0_init cX0_init 2 none :: gwL
abbrev gwX0_placeOf : List Cond := Cond.code yX0_placeOf cX0_placeOf 3 (some .int) :: gwL
abbrev gwX0_slipped : List Cond := Cond.code yX0_slipped cX0_slipped 3 (some .int) :: gwL
abbrev gwX10_init : List Cond := Cond.code yX10_init cX10_init 1 none :: gwL
abbrev gwX11_act : List Cond := Cond.code yX11_act cX11_act 4 (some .int) :: gwL
abbrev gwX11_back : List Cond := Cond.code yX11_back cX11_back 1 (some .int) :: gwL
abbrev gwX11_best : List Cond := Cond.code yX11_best cX11_best 5 (some .int) :: gwL
abbrev gwX11_body : List Cond := Cond.code yX11_body cX11_body 2 (some .int) :: gwL
abbrev gwX11_chairs : List Cond := Cond.code yX11_chairs cX11_chairs 6 (some .int) :: gwL
abbrev gwX11_count : List Cond := Cond.code yX11_count cX11_count 2 (some .int) :: gwL
abbrev gwX11_drawn : List Cond := Cond.code yX11_drawn cX11_drawn 7 (some .int) :: gwL
abbrev gwX11_element : List Cond := Cond.code yX11_element cX11_element 3 (some .long) :: gwL
abbrev gwX11_feed : List Cond := Cond.code yX11_feed cX11_feed 2 (some .int) :: gwL
abbrev gwX11_fits : List Cond := Cond.code yX11_fits cX11_fits 2 (some .boolean) :: gwL
abbrev gwX11_image : List Cond := Cond.code yX11_image cX11_image 1 (some .int) :: gwL
abbrev gwX11_init : List Cond := Cond.code yX11_init cX11_init 2 none :: gwL
abbrev gwX11_isKind : List Cond := Cond.code yX11_isKind cX11_isKind 1 (some .boolean) :: gwL
abbrev gwX11_isPart : List Cond := Cond.code yX11_isPart cX11_isPart 1 (some .boolean) :: gwL
abbrev gwX11_isSetting : List Cond := Cond.code yX11_isSetting cX11_isSetting 1 (some .boolean) :: gwL
abbrev gwX11_isShelf : List Cond := Cond.code yX11_isShelf cX11_isShelf 1 (some .boolean) :: gwL
abbrev gwX11_judge : List Cond := Cond.code yX11_judge cX11_judge 7 (some .int) :: gwL
abbrev gwX11_keep : List Cond := Cond.code yX11_keep cX11_keep 3 (some .int) :: gwL
abbrev gwX11_law : List Cond := Cond.code yX11_law cX11_law 2 (some .int) :: gwL
abbrev gwX11_led : List Cond := Cond.code yX11_led cX11_led 2 (some .int) :: gwL
abbrev gwX11_loss : List Cond := Cond.code yX11_loss cX11_loss 4 (some .int) :: gwL
abbrev gwX11_marked : List Cond := Cond.code yX11_marked cX11_marked 3 (some .int) :: gwL
abbrev gwX11_memories : List Cond := Cond.code yX11_memories cX11_memories 5 (some .int) :: gwL
abbrev gwX11_mend : List Cond := Cond.code yX11_mend cX11_mend 6 (some .int) :: gwL
abbrev gwX11_middle : List Cond := Cond.code yX11_middle cX11_middle 4 (some .int) :: gwL
abbrev gwX11_never : List Cond := Cond.code yX11_never cX11_never 5 (some .int) :: gwL
abbrev gwX11_night : List Cond := Cond.code yX11_night cX11_night 1 (some .int) :: gwL
abbrev gwX11_of : List Cond := Cond.code yX11_of cX11_of 4 (some .int) :: gwL
abbrev gwX11_once : List Cond := Cond.code yX11_once cX11_once 5 (some .int) :: gwL
abbrev gwX11_pays : List Cond := Cond.code yX11_pays cX11_pays 5 (some .int) :: gwL
abbrev gwX11_put : List Cond := Cond.code yX11_put cX11_put 6 (some .int) :: gwL
abbrev gwX11_readWeek : List Cond := Cond.code yX11_readWeek cX11_readWeek 3 (some .int) :: gwL
abbrev gwX11_redo : List Cond := Cond.code yX11_redo cX11_redo 1 (some .int) :: gwL
abbrev gwX11_refusalAt : List Cond := Cond.code yX11_refusalAt cX11_refusalAt 4 (some .int) :: gwL
abbrev gwX11_refusalOf : List Cond := Cond.code yX11_refusalOf cX11_refusalOf 2 (some .int) :: gwL
abbrev gwX11_row : List Cond := Cond.code yX11_row cX11_row 4 (some .int) :: gwL
abbrev gwX11_set : List Cond := Cond.code yX11_set cX11_set 3 (some .int) :: gwL
abbrev gwX11_shift : List Cond := Cond.code yX11_shift cX11_shift 8 (some .int) :: gwL
abbrev gwX11_shifts : List Cond := Cond.code yX11_shifts cX11_shifts 5 (some .int) :: gwL
abbrev gwX11_sit : List Cond := Cond.code yX11_sit cX11_sit 2 (some .int) :: gwL
abbrev gwX11_sitter : List Cond := Cond.code yX11_sitter cX11_sitter 3 (some .int) :: gwL
abbrev gwX11_sitters : List Cond := Cond.code yX11_sitters cX11_sitters 5 (some .int) :: gwL
abbrev gwX11_stands : List Cond := Cond.code yX11_stands cX11_stands 5 (some .int) :: gwL
abbrev gwX11_taken : List Cond := Cond.code yX11_taken cX11_taken 4 (some .int) :: gwL
abbrev gwX11_trace : List Cond := Cond.code yX11_trace cX11_trace 2 (some .int) :: gwL
abbrev gwX11_undo : List Cond := Cond.code yX11_undo cX11_undo 1 (some .int) :: gwL
abbrev gwX11_week : List Cond := Cond.code yX11_week cX11_week 4 (some .int) :: gwL
abbrev gwX11_who : List Cond := Cond.code yX11_who cX11_who 5 (some .int) :: gwL
abbrev gwX11_wilful : List Cond := Cond.code yX11_wilful cX11_wilful 4 (some .int) :: gwL
abbrev gwX12_act : List Cond := Cond.code yX12_act cX12_act 4 (some .int) :: gwL
abbrev gwX12_adds : List Cond := Cond.code yX12_adds cX12_adds 6 none :: gwL
abbrev gwX12_back : List Cond := Cond.code yX12_back cX12_back 2 (some .int) :: gwL
abbrev gwX12_becomes : List Cond := Cond.code yX12_becomes cX12_becomes 5 (some .int) :: gwL
abbrev gwX12_best : List Cond := Cond.code yX12_best cX12_best 8 (some .int) :: gwL
abbrev gwX12_body : List Cond := Cond.code yX12_body cX12_body 2 (some .int) :: gwL
abbrev gwX12_both : List Cond := Cond.code yX12_both cX12_both 3 (some .int) :: gwL
abbrev gwX12_byteAt : List Cond := Cond.code yX12_byteAt cX12_byteAt 1 (some .int) :: gwL
abbrev gwX12_bytesIs : List Cond := Cond.code yX12_bytesIs cX12_bytesIs 2 (some .int) :: gwL
abbrev gwX12_chairs : List Cond := Cond.code yX12_chairs cX12_chairs 7 (some .int) :: gwL
abbrev gwX12_compared : List Cond := Cond.code yX12_compared cX12_compared 4 (some .int) :: gwL
abbrev gwX12_count : List Cond := Cond.code yX12_count cX12_count 2 (some .int) :: gwL
abbrev gwX12_drawn : List Cond := Cond.code yX12_drawn cX12_drawn 11 (some .int) :: gwL
abbrev gwX12_either : List Cond := Cond.code yX12_either cX12_either 3 (some .int) :: gwL
abbrev gwX12_element : List Cond := Cond.code yX12_element cX12_element 3 (some .long) :: gwL
abbrev gwX12_feed : List Cond := Cond.code yX12_feed cX12_feed 2 (some .int) :: gwL
abbrev gwX12_image : List Cond := Cond.code yX12_image cX12_image 2 (some .int) :: gwL
abbrev gwX12_init : List Cond := Cond.code yX12_init cX12_init 2 none :: gwL
abbrev gwX12_isBody : List Cond := Cond.code yX12_isBody cX12_isBody 2 (some .boolean) :: gwL
abbrev gwX12_isPart : List Cond := Cond.code yX12_isPart cX12_isPart 1 (some .boolean) :: gwL
abbrev gwX12_isSetting : List Cond := Cond.code yX12_isSetting cX12_isSetting 2 (some .boolean) :: gwL
abbrev gwX12_isShelf : List Cond := Cond.code yX12_isShelf cX12_isShelf 1 (some .boolean) :: gwL
abbrev gwX12_isSitter : List Cond := Cond.code yX12_isSitter cX12_isSitter 3 (some .boolean) :: gwL
abbrev gwX12_judge : List Cond := Cond.code yX12_judge cX12_judge 4 (some .int) :: gwL
abbrev gwX12_keep : List Cond := Cond.code yX12_keep cX12_keep 3 (some .int) :: gwL
abbrev gwX12_law : List Cond := Cond.code yX12_law cX12_law 4 (some .int) :: gwL
abbrev gwX12_led : List Cond := Cond.code yX12_led cX12_led 2 (some .int) :: gwL
abbrev gwX12_loss : List Cond := Cond.code yX12_loss cX12_loss 4 (some .int) :: gwL
abbrev gwX12_marked : List Cond := Cond.code yX12_marked cX12_marked 4 (some .int) :: gwL
abbrev gwX12_memories : List Cond := Cond.code yX12_memories cX12_memories 8 (some .int) :: gwL
abbrev gwX12_mend : List Cond := Cond.code yX12_mend cX12_mend 5 (some .int) :: gwL
abbrev gwX12_middle : List Cond := Cond.code yX12_middle cX12_middle 5 (some .int) :: gwL
abbrev gwX12_mostOf : List Cond := Cond.code yX12_mostOf cX12_mostOf 1 (some .int) :: gwL
abbrev gwX12_nameOf : List Cond := Cond.code yX12_nameOf cX12_nameOf 1 (some .int) :: gwL
abbrev gwX12_never : List Cond := Cond.code yX12_never cX12_never 4 (some .int) :: gwL
abbrev gwX12_night : List Cond := Cond.code yX12_night cX12_night 4 (some .int) :: gwL
abbrev gwX12_of : List Cond := Cond.code yX12_of cX12_of 4 (some .int) :: gwL
abbrev gwX12_once : List Cond := Cond.code yX12_once cX12_once 13 (some .int) :: gwL
abbrev gwX12_one : List Cond := Cond.code yX12_one cX12_one 5 (some .int) :: gwL
abbrev gwX12_pays : List Cond := Cond.code yX12_pays cX12_pays 7 (some .int) :: gwL
abbrev gwX12_placeOf : List Cond := Cond.code yX12_placeOf cX12_placeOf 3 (some .int) :: gwL
abbrev gwX12_product : List Cond := Cond.code yX12_product cX12_product 4 (some .int) :: gwL
abbrev gwX12_put : List Cond := Cond.code yX12_put cX12_put 6 (some .int) :: gwL
abbrev gwX12_redo : List Cond := Cond.code yX12_redo cX12_redo 1 (some .int) :: gwL
abbrev gwX12_refusal : List Cond := Cond.code yX12_refusal cX12_refusal 3 (some .int) :: gwL
abbrev gwX12_row : List Cond := Cond.code yX12_row cX12_row 5 (some .int) :: gwL
abbrev gwX12_set : List Cond := Cond.code yX12_set cX12_set 4 (some .int) :: gwL
abbrev gwX12_shift : List Cond := Cond.code yX12_shift cX12_shift 7 (some .int) :: gwL
abbrev gwX12_shifts : List Cond := Cond.code yX12_shifts cX12_shifts 10 (some .int) :: gwL
abbrev gwX12_sit : List Cond := Cond.code yX12_sit cX12_sit 3 (some .int) :: gwL
abbrev gwX12_sitter : List Cond := Cond.code yX12_sitter cX12_sitter 3 (some .int) :: gwL
abbrev gwX12_sitters : List Cond := Cond.code yX12_sitters cX12_sitters 7 (some .int) :: gwL
abbrev gwX12_sizeOf : List Cond := Cond.code yX12_sizeOf cX12_sizeOf 1 (some .int) :: gwL
abbrev gwX12_slipped : List Cond := Cond.code yX12_slipped cX12_slipped 4 (some .int) :: gwL
abbrev gwX12_stands : List Cond := Cond.code yX12_stands cX12_stands 4 (some .int) :: gwL
abbrev gwX12_sums : List Cond := Cond.code yX12_sums cX12_sums 4 (some .int) :: gwL
abbrev gwX12_taken : List Cond := Cond.code yX12_taken cX12_taken 4 (some .int) :: gwL
abbrev gwX12_takes : List Cond := Cond.code yX12_takes cX12_takes 2 (some .boolean) :: gwL
abbrev gwX12_trace : List Cond := Cond.code yX12_trace cX12_trace 2 (some .int) :: gwL
abbrev gwX12_undo : List Cond := Cond.code yX12_undo cX12_undo 1 (some .int) :: gwL
abbrev gwX12_week : List Cond := Cond.code yX12_week cX12_week 4 (some .int) :: gwL
abbrev gwX12_who : List Cond := Cond.code yX12_who cX12_who 10 (some .int) :: gwL
abbrev gwX12_wilful : List Cond := Cond.code yX12_wilful cX12_wilful 6 (some .int) :: gwL
abbrev gwX12_within : List Cond := Cond.code yX12_within cX12_within 6 (some .boolean) :: gwL
abbrev gwX12_workOut : List Cond := Cond.code yX12_workOut cX12_workOut 8 (some .int) :: gwL
abbrev gwX12_wrong : List Cond := Cond.code yX12_wrong cX12_wrong 1 (some .int) :: gwL
abbrev gwX1_comes : List Cond := Cond.code yX1_comes cX1_comes 4 none :: gwL
abbrev gwX1_init : List Cond := Cond.code yX1_init cX1_init 1 none :: gwL
abbrev gwX2_allSlip : List Cond := Cond.code yX2_allSlip cX2_allSlip 4 (some .int) :: gwL
abbrev gwX2_init : List Cond := Cond.code yX2_init cX2_init 3 none :: gwL
abbrev gwX2_keepImage : List Cond := Cond.code yX2_keepImage cX2_keepImage 1 (some .int) :: gwL
abbrev gwX2_layBack : List Cond := Cond.code yX2_layBack cX2_layBack 1 (some .int) :: gwL
abbrev gwX2_turns : List Cond := Cond.code yX2_turns cX2_turns 4 (some .int) :: gwL
abbrev gwX3_acts : List Cond := Cond.code yX3_acts cX3_acts 4 (some .int) :: gwL
abbrev gwX3_comes : List Cond := Cond.code yX3_comes cX3_comes 2 (some .int) :: gwL
abbrev gwX3_init : List Cond := Cond.code yX3_init cX3_init 1 none :: gwL
abbrev gwX4_init : List Cond := Cond.code yX4_init cX4_init 3 none :: gwL
abbrev gwX5_both : List Cond := Cond.code yX5_both cX5_both 3 none :: gwL
abbrev gwX5_compared : List Cond := Cond.code yX5_compared cX5_compared 3 none :: gwL
abbrev gwX5_either : List Cond := Cond.code yX5_either cX5_either 3 none :: gwL
abbrev gwX5_fail : List Cond := Cond.code yX5_fail cX5_fail 1 none :: gwL
abbrev gwX5_init : List Cond := Cond.code yX5_init cX5_init 1 none :: gwL
abbrev gwX5_isDigit : List Cond := Cond.code yX5_isDigit cX5_isDigit 1 (some .boolean) :: gwL
abbrev gwX5_isName : List Cond := Cond.code yX5_isName cX5_isName 1 (some .boolean) :: gwL
abbrev gwX5_isRead : List Cond := Cond.code yX5_isRead cX5_isRead 1 (some .int) :: gwL
abbrev gwX5_line : List Cond := Cond.code yX5_line cX5_line 1 none :: gwL
abbrev gwX5_lines : List Cond := Cond.code yX5_lines cX5_lines 2 none :: gwL
abbrev gwX5_next : List Cond := Cond.code yX5_next cX5_next 1 (some .int) :: gwL
abbrev gwX5_operand : List Cond := Cond.code yX5_operand cX5_operand 3 none :: gwL
abbrev gwX5_product : List Cond := Cond.code yX5_product cX5_product 4 none :: gwL
abbrev gwX5_sum : List Cond := Cond.code yX5_sum cX5_sum 4 none :: gwL
abbrev gwX5_takes : List Cond := Cond.code yX5_takes cX5_takes 2 (some .int) :: gwL
abbrev gwX5_write : List Cond := Cond.code yX5_write cX5_write 2 none :: gwL
abbrev gwX6_init : List Cond := Cond.code yX6_init cX6_init 2 none :: gwL
abbrev gwX7_init : List Cond := Cond.code yX7_init cX7_init 1 none :: gwL
abbrev gwX7_takesDesk : List Cond := Cond.code yX7_takesDesk cX7_takesDesk 2 none :: gwL
abbrev gwX7_takesRow : List Cond := Cond.code yX7_takesRow cX7_takesRow 4 none :: gwL
abbrev gwX8_init : List Cond := Cond.code yX8_init cX8_init 3 none :: gwL
abbrev gwX9_init : List Cond := Cond.code yX9_init cX9_init 3 none :: gwL
end
