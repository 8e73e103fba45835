section
-- ===== PART A: goes FIRST, ahead of the names: the tables' words, and 'selects' of the private methods out of them =====
/-- a private method of a class that the tables say can be made, by its rows of tables_1 -/
def lw_okq (q : MethodName × Nat) : Prop := (q.1.cls ≠ "java/lang/invoke/MethodHandle" ∧ q.1.cls ≠ "java/lang/invoke/VarHandle") ∧ Cond.instantiable q.1.cls q.2 ∈ tables_1 ∧ Cond.privateMethod q.1 ∈ tables_1 ∧ Cond.instanceMethod q.1 ∈ tables_1
theorem lw_p0 : lw_okq (⟨"TinselRiver$Valley", "winterOf", "(I)V"⟩, 3) := ⟨⟨by decide +kernel, by decide +kernel⟩, List.mem_of_getElem? (i := 36) (by decide +kernel), List.mem_of_getElem? (i := 335) (by decide +kernel), List.mem_of_getElem? (i := 336) (by decide +kernel)⟩
theorem lw_p1 : lw_okq (⟨"TinselRiver$Valley", "floodFrom", "(I)V"⟩, 3) := ⟨⟨by decide +kernel, by decide +kernel⟩, List.mem_of_getElem? (i := 36) (by decide +kernel), List.mem_of_getElem? (i := 339) (by decide +kernel), List.mem_of_getElem? (i := 340) (by decide +kernel)⟩
theorem lw_p2 : lw_okq (⟨"TinselRiver$Valley", "countIn", "(I)I"⟩, 3) := ⟨⟨by decide +kernel, by decide +kernel⟩, List.mem_of_getElem? (i := 36) (by decide +kernel), List.mem_of_getElem? (i := 347) (by decide +kernel), List.mem_of_getElem? (i := 348) (by decide +kernel)⟩
theorem lw_p3 : lw_okq (⟨"TinselRiver", "take", "(I)I"⟩, 13) := ⟨⟨by decide +kernel, by decide +kernel⟩, List.mem_of_getElem? (i := 13) (by decide +kernel), List.mem_of_getElem? (i := 355) (by decide +kernel), List.mem_of_getElem? (i := 356) (by decide +kernel)⟩
theorem lw_p4 : lw_okq (⟨"TinselRiver$Row", "endsAs", "(LTinselRiver$Row;I)Z"⟩, 2) := ⟨⟨by decide +kernel, by decide +kernel⟩, List.mem_of_getElem? (i := 49) (by decide +kernel), List.mem_of_getElem? (i := 404) (by decide +kernel), List.mem_of_getElem? (i := 405) (by decide +kernel)⟩
theorem lw_p5 : lw_okq (⟨"TinselRiver", "isOrder", "(II)Z"⟩, 13) := ⟨⟨by decide +kernel, by decide +kernel⟩, List.mem_of_getElem? (i := 13) (by decide +kernel), List.mem_of_getElem? (i := 441) (by decide +kernel), List.mem_of_getElem? (i := 442) (by decide +kernel)⟩
theorem lw_p6 : lw_okq (⟨"TinselRiver", "flow", "(II)I"⟩, 13) := ⟨⟨by decide +kernel, by decide +kernel⟩, List.mem_of_getElem? (i := 13) (by decide +kernel), List.mem_of_getElem? (i := 448) (by decide +kernel), List.mem_of_getElem? (i := 449) (by decide +kernel)⟩
theorem lw_p7 : lw_okq (⟨"TinselRiver", "findCovers", "()V"⟩, 13) := ⟨⟨by decide +kernel, by decide +kernel⟩, List.mem_of_getElem? (i := 13) (by decide +kernel), List.mem_of_getElem? (i := 458) (by decide +kernel), List.mem_of_getElem? (i := 459) (by decide +kernel)⟩
theorem lw_p8 : lw_okq (⟨"TinselRiver", "canBe", "(I)Z"⟩, 13) := ⟨⟨by decide +kernel, by decide +kernel⟩, List.mem_of_getElem? (i := 13) (by decide +kernel), List.mem_of_getElem? (i := 492) (by decide +kernel), List.mem_of_getElem? (i := 493) (by decide +kernel)⟩
theorem lw_p9 : lw_okq (⟨"TinselRiver", "guessRow", "(II)V"⟩, 13) := ⟨⟨by decide +kernel, by decide +kernel⟩, List.mem_of_getElem? (i := 13) (by decide +kernel), List.mem_of_getElem? (i := 516) (by decide +kernel), List.mem_of_getElem? (i := 517) (by decide +kernel)⟩
theorem lw_p10 : lw_okq (⟨"TinselRiver", "coversOn", "(I)I"⟩, 13) := ⟨⟨by decide +kernel, by decide +kernel⟩, List.mem_of_getElem? (i := 13) (by decide +kernel), List.mem_of_getElem? (i := 530) (by decide +kernel), List.mem_of_getElem? (i := 531) (by decide +kernel)⟩
theorem lw_p11 : lw_okq (⟨"TinselRiver", "findGains", "(II)V"⟩, 13) := ⟨⟨by decide +kernel, by decide +kernel⟩, List.mem_of_getElem? (i := 13) (by decide +kernel), List.mem_of_getElem? (i := 545) (by decide +kernel), List.mem_of_getElem? (i := 546) (by decide +kernel)⟩
theorem lw_p12 : lw_okq (⟨"TinselRiver", "gainOf", "(I)I"⟩, 13) := ⟨⟨by decide +kernel, by decide +kernel⟩, List.mem_of_getElem? (i := 13) (by decide +kernel), List.mem_of_getElem? (i := 549) (by decide +kernel), List.mem_of_getElem? (i := 550) (by decide +kernel)⟩
theorem lw_p13 : lw_okq (⟨"TinselRiver", "isRest", "(I)Z"⟩, 13) := ⟨⟨by decide +kernel, by decide +kernel⟩, List.mem_of_getElem? (i := 13) (by decide +kernel), List.mem_of_getElem? (i := 553) (by decide +kernel), List.mem_of_getElem? (i := 554) (by decide +kernel)⟩
theorem lw_p14 : lw_okq (⟨"TinselRiver", "coveredBy", "(I)I"⟩, 13) := ⟨⟨by decide +kernel, by decide +kernel⟩, List.mem_of_getElem? (i := 13) (by decide +kernel), List.mem_of_getElem? (i := 561) (by decide +kernel), List.mem_of_getElem? (i := 562) (by decide +kernel)⟩
theorem lw_p15 : lw_okq (⟨"TinselRiver", "wholeBed", "()I"⟩, 13) := ⟨⟨by decide +kernel, by decide +kernel⟩, List.mem_of_getElem? (i := 13) (by decide +kernel), List.mem_of_getElem? (i := 565) (by decide +kernel), List.mem_of_getElem? (i := 566) (by decide +kernel)⟩
def lw_privs_1 : List (MethodName × Nat) := [(⟨"TinselRiver$Valley", "winterOf", "(I)V"⟩, 3), (⟨"TinselRiver$Valley", "floodFrom", "(I)V"⟩, 3), (⟨"TinselRiver$Valley", "countIn", "(I)I"⟩, 3), (⟨"TinselRiver", "take", "(I)I"⟩, 13), (⟨"TinselRiver$Row", "endsAs", "(LTinselRiver$Row;I)Z"⟩, 2), (⟨"TinselRiver", "isOrder", "(II)Z"⟩, 13), (⟨"TinselRiver", "flow", "(II)I"⟩, 13), (⟨"TinselRiver", "findCovers", "()V"⟩, 13), (⟨"TinselRiver", "canBe", "(I)Z"⟩, 13), (⟨"TinselRiver", "guessRow", "(II)V"⟩, 13), (⟨"TinselRiver", "coversOn", "(I)I"⟩, 13), (⟨"TinselRiver", "findGains", "(II)V"⟩, 13), (⟨"TinselRiver", "gainOf", "(I)I"⟩, 13), (⟨"TinselRiver", "isRest", "(I)Z"⟩, 13), (⟨"TinselRiver", "coveredBy", "(I)I"⟩, 13), (⟨"TinselRiver", "wholeBed", "()I"⟩, 13)]
theorem lw_r1 : ∀ q ∈ lw_privs_1, lw_okq q := List.forall_mem_cons.mpr ⟨lw_p0, List.forall_mem_cons.mpr ⟨lw_p1, List.forall_mem_cons.mpr ⟨lw_p2, List.forall_mem_cons.mpr ⟨lw_p3, List.forall_mem_cons.mpr ⟨lw_p4, List.forall_mem_cons.mpr ⟨lw_p5, List.forall_mem_cons.mpr ⟨lw_p6, List.forall_mem_cons.mpr ⟨lw_p7, List.forall_mem_cons.mpr ⟨lw_p8, List.forall_mem_cons.mpr ⟨lw_p9, List.forall_mem_cons.mpr ⟨lw_p10, List.forall_mem_cons.mpr ⟨lw_p11, List.forall_mem_cons.mpr ⟨lw_p12, List.forall_mem_cons.mpr ⟨lw_p13, List.forall_mem_cons.mpr ⟨lw_p14, List.forall_mem_cons.mpr ⟨lw_p15, fun _ h => absurd h List.not_mem_nil⟩⟩⟩⟩⟩⟩⟩⟩⟩⟩⟩⟩⟩⟩⟩⟩
theorem lw_p16 : lw_okq (⟨"TinselRiver", "doByChance", "(I)V"⟩, 13) := ⟨⟨by decide +kernel, by decide +kernel⟩, List.mem_of_getElem? (i := 13) (by decide +kernel), List.mem_of_getElem? (i := 582) (by decide +kernel), List.mem_of_getElem? (i := 583) (by decide +kernel)⟩
theorem lw_p17 : lw_okq (⟨"TinselRiverModel", "readText", "()I"⟩, 24) := ⟨⟨by decide +kernel, by decide +kernel⟩, List.mem_of_getElem? (i := 611) (by decide +kernel), List.mem_of_getElem? (i := 706) (by decide +kernel), List.mem_of_getElem? (i := 707) (by decide +kernel)⟩
theorem lw_p18 : lw_okq (⟨"TinselRiverModel", "readPart", "(I)V"⟩, 24) := ⟨⟨by decide +kernel, by decide +kernel⟩, List.mem_of_getElem? (i := 611) (by decide +kernel), List.mem_of_getElem? (i := 710) (by decide +kernel), List.mem_of_getElem? (i := 711) (by decide +kernel)⟩
theorem lw_p19 : lw_okq (⟨"TinselRiverModel", "nextOf", "(II)I"⟩, 24) := ⟨⟨by decide +kernel, by decide +kernel⟩, List.mem_of_getElem? (i := 611) (by decide +kernel), List.mem_of_getElem? (i := 714) (by decide +kernel), List.mem_of_getElem? (i := 715) (by decide +kernel)⟩
theorem lw_p20 : lw_okq (⟨"TinselRiverModel", "isBend", "()Z"⟩, 24) := ⟨⟨by decide +kernel, by decide +kernel⟩, List.mem_of_getElem? (i := 611) (by decide +kernel), List.mem_of_getElem? (i := 718) (by decide +kernel), List.mem_of_getElem? (i := 719) (by decide +kernel)⟩
theorem lw_p21 : lw_okq (⟨"TinselRiverModel", "isThere", "(II)Z"⟩, 24) := ⟨⟨by decide +kernel, by decide +kernel⟩, List.mem_of_getElem? (i := 611) (by decide +kernel), List.mem_of_getElem? (i := 742) (by decide +kernel), List.mem_of_getElem? (i := 743) (by decide +kernel)⟩
theorem lw_p22 : lw_okq (⟨"TinselRiverModel", "firstPlace", "(II)I"⟩, 24) := ⟨⟨by decide +kernel, by decide +kernel⟩, List.mem_of_getElem? (i := 611) (by decide +kernel), List.mem_of_getElem? (i := 746) (by decide +kernel), List.mem_of_getElem? (i := 747) (by decide +kernel)⟩
theorem lw_p23 : lw_okq (⟨"TinselRiverModel", "liesAt", "(III)Z"⟩, 24) := ⟨⟨by decide +kernel, by decide +kernel⟩, List.mem_of_getElem? (i := 611) (by decide +kernel), List.mem_of_getElem? (i := 750) (by decide +kernel), List.mem_of_getElem? (i := 751) (by decide +kernel)⟩
theorem lw_p24 : lw_okq (⟨"TinselRiverModel", "bendAt", "(III)I"⟩, 24) := ⟨⟨by decide +kernel, by decide +kernel⟩, List.mem_of_getElem? (i := 611) (by decide +kernel), List.mem_of_getElem? (i := 754) (by decide +kernel), List.mem_of_getElem? (i := 755) (by decide +kernel)⟩
theorem lw_p25 : lw_okq (⟨"TinselRiverModel", "keepAct", "()V"⟩, 24) := ⟨⟨by decide +kernel, by decide +kernel⟩, List.mem_of_getElem? (i := 611) (by decide +kernel), List.mem_of_getElem? (i := 767) (by decide +kernel), List.mem_of_getElem? (i := 768) (by decide +kernel)⟩
theorem lw_p26 : lw_okq (⟨"TinselRiverModel", "passOn", "(I)I"⟩, 24) := ⟨⟨by decide +kernel, by decide +kernel⟩, List.mem_of_getElem? (i := 611) (by decide +kernel), List.mem_of_getElem? (i := 771) (by decide +kernel), List.mem_of_getElem? (i := 772) (by decide +kernel)⟩
theorem lw_p27 : lw_okq (⟨"TinselRiverModel", "whoIs", "(I)I"⟩, 24) := ⟨⟨by decide +kernel, by decide +kernel⟩, List.mem_of_getElem? (i := 611) (by decide +kernel), List.mem_of_getElem? (i := 775) (by decide +kernel), List.mem_of_getElem? (i := 776) (by decide +kernel)⟩
theorem lw_p28 : lw_okq (⟨"TinselRiverModel", "hurt", "(II)V"⟩, 24) := ⟨⟨by decide +kernel, by decide +kernel⟩, List.mem_of_getElem? (i := 611) (by decide +kernel), List.mem_of_getElem? (i := 779) (by decide +kernel), List.mem_of_getElem? (i := 780) (by decide +kernel)⟩
theorem lw_p29 : lw_okq (⟨"TinselRiverModel", "inHouse", "(II)I"⟩, 24) := ⟨⟨by decide +kernel, by decide +kernel⟩, List.mem_of_getElem? (i := 611) (by decide +kernel), List.mem_of_getElem? (i := 783) (by decide +kernel), List.mem_of_getElem? (i := 784) (by decide +kernel)⟩
theorem lw_p30 : lw_okq (⟨"TinselRiverModel", "loseFirst", "(II)V"⟩, 24) := ⟨⟨by decide +kernel, by decide +kernel⟩, List.mem_of_getElem? (i := 611) (by decide +kernel), List.mem_of_getElem? (i := 790) (by decide +kernel), List.mem_of_getElem? (i := 791) (by decide +kernel)⟩
theorem lw_p31 : lw_okq (⟨"TinselRiverModel", "loseLast", "(II)V"⟩, 24) := ⟨⟨by decide +kernel, by decide +kernel⟩, List.mem_of_getElem? (i := 611) (by decide +kernel), List.mem_of_getElem? (i := 794) (by decide +kernel), List.mem_of_getElem? (i := 795) (by decide +kernel)⟩
def lw_privs_2 : List (MethodName × Nat) := [(⟨"TinselRiver", "doByChance", "(I)V"⟩, 13), (⟨"TinselRiverModel", "readText", "()I"⟩, 24), (⟨"TinselRiverModel", "readPart", "(I)V"⟩, 24), (⟨"TinselRiverModel", "nextOf", "(II)I"⟩, 24), (⟨"TinselRiverModel", "isBend", "()Z"⟩, 24), (⟨"TinselRiverModel", "isThere", "(II)Z"⟩, 24), (⟨"TinselRiverModel", "firstPlace", "(II)I"⟩, 24), (⟨"TinselRiverModel", "liesAt", "(III)Z"⟩, 24), (⟨"TinselRiverModel", "bendAt", "(III)I"⟩, 24), (⟨"TinselRiverModel", "keepAct", "()V"⟩, 24), (⟨"TinselRiverModel", "passOn", "(I)I"⟩, 24), (⟨"TinselRiverModel", "whoIs", "(I)I"⟩, 24), (⟨"TinselRiverModel", "hurt", "(II)V"⟩, 24), (⟨"TinselRiverModel", "inHouse", "(II)I"⟩, 24), (⟨"TinselRiverModel", "loseFirst", "(II)V"⟩, 24), (⟨"TinselRiverModel", "loseLast", "(II)V"⟩, 24)]
theorem lw_r2 : ∀ q ∈ lw_privs_2, lw_okq q := List.forall_mem_cons.mpr ⟨lw_p16, List.forall_mem_cons.mpr ⟨lw_p17, List.forall_mem_cons.mpr ⟨lw_p18, List.forall_mem_cons.mpr ⟨lw_p19, List.forall_mem_cons.mpr ⟨lw_p20, List.forall_mem_cons.mpr ⟨lw_p21, List.forall_mem_cons.mpr ⟨lw_p22, List.forall_mem_cons.mpr ⟨lw_p23, List.forall_mem_cons.mpr ⟨lw_p24, List.forall_mem_cons.mpr ⟨lw_p25, List.forall_mem_cons.mpr ⟨lw_p26, List.forall_mem_cons.mpr ⟨lw_p27, List.forall_mem_cons.mpr ⟨lw_p28, List.forall_mem_cons.mpr ⟨lw_p29, List.forall_mem_cons.mpr ⟨lw_p30, List.forall_mem_cons.mpr ⟨lw_p31, fun _ h => absurd h List.not_mem_nil⟩⟩⟩⟩⟩⟩⟩⟩⟩⟩⟩⟩⟩⟩⟩⟩
theorem lw_p32 : lw_okq (⟨"TinselRiverModel", "turnOn", "(II)V"⟩, 24) := ⟨⟨by decide +kernel, by decide +kernel⟩, List.mem_of_getElem? (i := 611) (by decide +kernel), List.mem_of_getElem? (i := 810) (by decide +kernel), List.mem_of_getElem? (i := 811) (by decide +kernel)⟩
theorem lw_p33 : lw_okq (⟨"TinselRiverModel", "isOneHouse", "(III)Z"⟩, 24) := ⟨⟨by decide +kernel, by decide +kernel⟩, List.mem_of_getElem? (i := 611) (by decide +kernel), List.mem_of_getElem? (i := 822) (by decide +kernel), List.mem_of_getElem? (i := 823) (by decide +kernel)⟩
theorem lw_p34 : lw_okq (⟨"TinselRiverModel", "canJoin", "(III)Z"⟩, 24) := ⟨⟨by decide +kernel, by decide +kernel⟩, List.mem_of_getElem? (i := 611) (by decide +kernel), List.mem_of_getElem? (i := 826) (by decide +kernel), List.mem_of_getElem? (i := 827) (by decide +kernel)⟩
theorem lw_p35 : lw_okq (⟨"TinselRiverModel", "joinedMany", "(III)I"⟩, 24) := ⟨⟨by decide +kernel, by decide +kernel⟩, List.mem_of_getElem? (i := 611) (by decide +kernel), List.mem_of_getElem? (i := 830) (by decide +kernel), List.mem_of_getElem? (i := 831) (by decide +kernel)⟩
theorem lw_p36 : lw_okq (⟨"TinselRiverModel", "overlapOf", "(III)I"⟩, 24) := ⟨⟨by decide +kernel, by decide +kernel⟩, List.mem_of_getElem? (i := 611) (by decide +kernel), List.mem_of_getElem? (i := 834) (by decide +kernel), List.mem_of_getElem? (i := 835) (by decide +kernel)⟩
theorem lw_p37 : lw_okq (⟨"TinselRiverModel", "joinOn", "(III)V"⟩, 24) := ⟨⟨by decide +kernel, by decide +kernel⟩, List.mem_of_getElem? (i := 611) (by decide +kernel), List.mem_of_getElem? (i := 838) (by decide +kernel), List.mem_of_getElem? (i := 839) (by decide +kernel)⟩
theorem lw_p38 : lw_okq (⟨"TinselRiverModel", "layTrial", "()V"⟩, 24) := ⟨⟨by decide +kernel, by decide +kernel⟩, List.mem_of_getElem? (i := 611) (by decide +kernel), List.mem_of_getElem? (i := 851) (by decide +kernel), List.mem_of_getElem? (i := 852) (by decide +kernel)⟩
theorem lw_p39 : lw_okq (⟨"TinselRiverModel", "riverBy", "(II)I"⟩, 24) := ⟨⟨by decide +kernel, by decide +kernel⟩, List.mem_of_getElem? (i := 611) (by decide +kernel), List.mem_of_getElem? (i := 867) (by decide +kernel), List.mem_of_getElem? (i := 868) (by decide +kernel)⟩
theorem lw_p40 : lw_okq (⟨"TinselRiverModel", "flowOn", "(I)V"⟩, 24) := ⟨⟨by decide +kernel, by decide +kernel⟩, List.mem_of_getElem? (i := 611) (by decide +kernel), List.mem_of_getElem? (i := 871) (by decide +kernel), List.mem_of_getElem? (i := 872) (by decide +kernel)⟩
theorem lw_p41 : lw_okq (⟨"TinselRiverModel", "goesOn", "(II)Z"⟩, 24) := ⟨⟨by decide +kernel, by decide +kernel⟩, List.mem_of_getElem? (i := 611) (by decide +kernel), List.mem_of_getElem? (i := 875) (by decide +kernel), List.mem_of_getElem? (i := 876) (by decide +kernel)⟩
theorem lw_p42 : lw_okq (⟨"TinselRiverModel", "coverOf", "(I)I"⟩, 24) := ⟨⟨by decide +kernel, by decide +kernel⟩, List.mem_of_getElem? (i := 611) (by decide +kernel), List.mem_of_getElem? (i := 883) (by decide +kernel), List.mem_of_getElem? (i := 884) (by decide +kernel)⟩
theorem lw_p43 : lw_okq (⟨"TinselRiverModel", "isWay", "(I)Z"⟩, 24) := ⟨⟨by decide +kernel, by decide +kernel⟩, List.mem_of_getElem? (i := 611) (by decide +kernel), List.mem_of_getElem? (i := 891) (by decide +kernel), List.mem_of_getElem? (i := 892) (by decide +kernel)⟩
theorem lw_p44 : lw_okq (⟨"TinselRiverModel", "tryThing", "(III)Z"⟩, 24) := ⟨⟨by decide +kernel, by decide +kernel⟩, List.mem_of_getElem? (i := 611) (by decide +kernel), List.mem_of_getElem? (i := 903) (by decide +kernel), List.mem_of_getElem? (i := 904) (by decide +kernel)⟩
theorem lw_p45 : lw_okq (⟨"TinselRiverModel", "mayBeLaid", "(II)Z"⟩, 24) := ⟨⟨by decide +kernel, by decide +kernel⟩, List.mem_of_getElem? (i := 611) (by decide +kernel), List.mem_of_getElem? (i := 923) (by decide +kernel), List.mem_of_getElem? (i := 924) (by decide +kernel)⟩
theorem lw_p46 : lw_okq (⟨"TinselRiverModel", "fitsAt", "(III)Z"⟩, 24) := ⟨⟨by decide +kernel, by decide +kernel⟩, List.mem_of_getElem? (i := 611) (by decide +kernel), List.mem_of_getElem? (i := 927) (by decide +kernel), List.mem_of_getElem? (i := 928) (by decide +kernel)⟩
theorem lw_p47 : lw_okq (⟨"TinselRiverModel", "isRest", "(IIII)Z"⟩, 24) := ⟨⟨by decide +kernel, by decide +kernel⟩, List.mem_of_getElem? (i := 611) (by decide +kernel), List.mem_of_getElem? (i := 945) (by decide +kernel), List.mem_of_getElem? (i := 946) (by decide +kernel)⟩
def lw_privs_3 : List (MethodName × Nat) := [(⟨"TinselRiverModel", "turnOn", "(II)V"⟩, 24), (⟨"TinselRiverModel", "isOneHouse", "(III)Z"⟩, 24), (⟨"TinselRiverModel", "canJoin", "(III)Z"⟩, 24), (⟨"TinselRiverModel", "joinedMany", "(III)I"⟩, 24), (⟨"TinselRiverModel", "overlapOf", "(III)I"⟩, 24), (⟨"TinselRiverModel", "joinOn", "(III)V"⟩, 24), (⟨"TinselRiverModel", "layTrial", "()V"⟩, 24), (⟨"TinselRiverModel", "riverBy", "(II)I"⟩, 24), (⟨"TinselRiverModel", "flowOn", "(I)V"⟩, 24), (⟨"TinselRiverModel", "goesOn", "(II)Z"⟩, 24), (⟨"TinselRiverModel", "coverOf", "(I)I"⟩, 24), (⟨"TinselRiverModel", "isWay", "(I)Z"⟩, 24), (⟨"TinselRiverModel", "tryThing", "(III)Z"⟩, 24), (⟨"TinselRiverModel", "mayBeLaid", "(II)Z"⟩, 24), (⟨"TinselRiverModel", "fitsAt", "(III)Z"⟩, 24), (⟨"TinselRiverModel", "isRest", "(IIII)Z"⟩, 24)]
theorem lw_r3 : ∀ q ∈ lw_privs_3, lw_okq q := List.forall_mem_cons.mpr ⟨lw_p32, List.forall_mem_cons.mpr ⟨lw_p33, List.forall_mem_cons.mpr ⟨lw_p34, List.forall_mem_cons.mpr ⟨lw_p35, List.forall_mem_cons.mpr ⟨lw_p36, List.forall_mem_cons.mpr ⟨lw_p37, List.forall_mem_cons.mpr ⟨lw_p38, List.forall_mem_cons.mpr ⟨lw_p39, List.forall_mem_cons.mpr ⟨lw_p40, List.forall_mem_cons.mpr ⟨lw_p41, List.forall_mem_cons.mpr ⟨lw_p42, List.forall_mem_cons.mpr ⟨lw_p43, List.forall_mem_cons.mpr ⟨lw_p44, List.forall_mem_cons.mpr ⟨lw_p45, List.forall_mem_cons.mpr ⟨lw_p46, List.forall_mem_cons.mpr ⟨lw_p47, fun _ h => absurd h List.not_mem_nil⟩⟩⟩⟩⟩⟩⟩⟩⟩⟩⟩⟩⟩⟩⟩⟩
theorem lw_p48 : lw_okq (⟨"TinselRiverModel", "gain", "(IIIII)I"⟩, 24) := ⟨⟨by decide +kernel, by decide +kernel⟩, List.mem_of_getElem? (i := 611) (by decide +kernel), List.mem_of_getElem? (i := 949) (by decide +kernel), List.mem_of_getElem? (i := 950) (by decide +kernel)⟩
theorem lw_p49 : lw_okq (⟨"TinselRiverModel", "bendsOfAll", "(I)I"⟩, 24) := ⟨⟨by decide +kernel, by decide +kernel⟩, List.mem_of_getElem? (i := 611) (by decide +kernel), List.mem_of_getElem? (i := 972) (by decide +kernel), List.mem_of_getElem? (i := 973) (by decide +kernel)⟩
theorem lw_p50 : lw_okq (⟨"TinselRiverModel", "usedHouses", "()I"⟩, 24) := ⟨⟨by decide +kernel, by decide +kernel⟩, List.mem_of_getElem? (i := 611) (by decide +kernel), List.mem_of_getElem? (i := 988) (by decide +kernel), List.mem_of_getElem? (i := 989) (by decide +kernel)⟩
def lw_privs_4 : List (MethodName × Nat) := [(⟨"TinselRiverModel", "gain", "(IIIII)I"⟩, 24), (⟨"TinselRiverModel", "bendsOfAll", "(I)I"⟩, 24), (⟨"TinselRiverModel", "usedHouses", "()I"⟩, 24)]
theorem lw_r4 : ∀ q ∈ lw_privs_4, lw_okq q := List.forall_mem_cons.mpr ⟨lw_p48, List.forall_mem_cons.mpr ⟨lw_p49, List.forall_mem_cons.mpr ⟨lw_p50, fun _ h => absurd h List.not_mem_nil⟩⟩⟩
def lw_privs : List (MethodName × Nat) := lw_privs_1 ++ (lw_privs_2 ++ (lw_privs_3 ++ (lw_privs_4)))
def lw_tbl : List Cond := k2_sels lw_privs ++ tables_1
theorem lw_privs_ok : ∀ q ∈ lw_privs, lw_okq q := by
  show ∀ q ∈ lw_privs_1 ++ (lw_privs_2 ++ (lw_privs_3 ++ (lw_privs_4))), lw_okq q
  exact List.forall_mem_append.mpr ⟨lw_r1, List.forall_mem_append.mpr ⟨lw_r2, List.forall_mem_append.mpr ⟨lw_r3, lw_r4⟩⟩⟩
-- ===== end of PART A; then your names; then what follows =====
end
section
/-! ===== BEGIN printed: names, fields, word lists, decode rows ===== -/
def RX0 : String := "TinselRiver$Acts"
def TX0 : u_T := fun k => match k with
  | 0 => ("TinselRiver$Acts", "before", "[LTinselRiver$Valley;", true)
  | 1 => ("TinselRiver$Acts", "first", "I", false)
  | _ => ("TinselRiver$Acts", "size", "I", false)
def tyX0 : Nat → FieldType := fun k => match k with
  | 0 => .array (.object "TinselRiver$Valley")
  | 1 => .int
  | _ => .int
abbrev wsX00 : List Cond := u_ws RX0 TX0 3
theorem nmX0 : ∀ a, a < 3 → ∀ b, b < 3 → a ≠ b → (TX0 a).2.1 ≠ (TX0 b).2.1 := by decide +kernel
theorem tyX0_ok : ∀ k, k < 3 → parseFieldDescriptor (TX0 k).2.2.1 = some (tyX0 k) := by decide +kernel
abbrev cX0_init : ByteArray := prog_2_method_1_code
def yX0_init : MethodName := ⟨RX0, "<init>", "()V"⟩
abbrev cX0_clear : ByteArray := prog_2_method_2_code
def yX0_clear : MethodName := ⟨RX0, "clear", "()V"⟩
abbrev cX0_remember : ByteArray := prog_2_method_3_code
def yX0_remember : MethodName := ⟨RX0, "remember", "(LTinselRiver$Valley;)V"⟩
abbrev cX0_takeBack : ByteArray := prog_2_method_4_code
def yX0_takeBack : MethodName := ⟨RX0, "takeBack", "(LTinselRiver$Valley;)I"⟩
def RX1 : String := "TinselRiver$Laid"
def TX1 : u_T := fun k => match k with
  | 0 => ("TinselRiver$Laid", "places", "[I", true)
  | 1 => ("TinselRiver$Laid", "lay", "[Z", true)
  | _ => ("TinselRiver$Laid", "size", "I", false)
def tyX1 : Nat → FieldType := fun k => match k with
  | 0 => .array .int
  | 1 => .array .boolean
  | _ => .int
abbrev wsX10 : List Cond := u_ws RX1 TX1 3
theorem nmX1 : ∀ a, a < 3 → ∀ b, b < 3 → a ≠ b → (TX1 a).2.1 ≠ (TX1 b).2.1 := by decide +kernel
theorem tyX1_ok : ∀ k, k < 3 → parseFieldDescriptor (TX1 k).2.2.1 = some (tyX1 k) := by decide +kernel
abbrev cX1_init : ByteArray := prog_3_method_1_code
def yX1_init : MethodName := ⟨RX1, "<init>", "()V"⟩
abbrev cX1_add : ByteArray := prog_3_method_2_code
def yX1_add : MethodName := ⟨RX1, "add", "(IZ)I"⟩
abbrev cX1_clear : ByteArray := prog_3_method_3_code
def yX1_clear : MethodName := ⟨RX1, "clear", "()I"⟩
abbrev cX1_isSo : ByteArray := prog_3_method_4_code
def yX1_isSo : MethodName := ⟨RX1, "isSo", "(LTinselRiver$Row;LTinselRiver$Row;)Z"⟩
def RX2 : String := "TinselRiver$Row"
def TX2 : u_T := fun k => match k with
  | 0 => ("TinselRiver$Row", "bends", "[I", true)
  | _ => ("TinselRiver$Row", "size", "I", false)
def tyX2 : Nat → FieldType := fun k => match k with
  | 0 => .array .int
  | _ => .int
abbrev wsX20 : List Cond := u_ws RX2 TX2 2
theorem nmX2 : ∀ a, a < 2 → ∀ b, b < 2 → a ≠ b → (TX2 a).2.1 ≠ (TX2 b).2.1 := by decide +kernel
theorem tyX2_ok : ∀ k, k < 2 → parseFieldDescriptor (TX2 k).2.2.1 = some (tyX2 k) := by decide +kernel
abbrev cX2_init : ByteArray := prog_4_method_1_code
def yX2_init : MethodName := ⟨RX2, "<init>", "(I)V"⟩
abbrev cX2_clear : ByteArray := prog_4_method_2_code
def yX2_clear : MethodName := ⟨RX2, "clear", "()V"⟩
abbrev cX2_add : ByteArray := prog_4_method_3_code
def yX2_add : MethodName := ⟨RX2, "add", "(I)V"⟩
abbrev cX2_setTo : ByteArray := prog_4_method_4_code
def yX2_setTo : MethodName := ⟨RX2, "setTo", "(LTinselRiver$Row;)V"⟩
abbrev cX2_setFigures : ByteArray := prog_4_method_5_code
def yX2_setFigures : MethodName := ⟨RX2, "setFigures", "(IJ)V"⟩
abbrev cX2_figures : ByteArray := prog_4_method_6_code
def yX2_figures : MethodName := ⟨RX2, "figures", "()J"⟩
abbrev cX2_loseLast : ByteArray := prog_4_method_7_code
def yX2_loseLast : MethodName := ⟨RX2, "loseLast", "()V"⟩
abbrev cX2_loseFirst : ByteArray := prog_4_method_8_code
def yX2_loseFirst : MethodName := ⟨RX2, "loseFirst", "()V"⟩
abbrev cX2_reverse : ByteArray := prog_4_method_9_code
def yX2_reverse : MethodName := ⟨RX2, "reverse", "()V"⟩
abbrev cX2_overlapWith : ByteArray := prog_4_method_10_code
def yX2_overlapWith : MethodName := ⟨RX2, "overlapWith", "(LTinselRiver$Row;)I"⟩
abbrev cX2_endsAs : ByteArray := prog_4_method_11_code
def yX2_endsAs : MethodName := ⟨RX2, "endsAs", "(LTinselRiver$Row;I)Z"⟩
abbrev cX2_addBehind : ByteArray := prog_4_method_12_code
def yX2_addBehind : MethodName := ⟨RX2, "addBehind", "(LTinselRiver$Row;)V"⟩
abbrev cX2_bearsAt : ByteArray := prog_4_method_13_code
def yX2_bearsAt : MethodName := ⟨RX2, "bearsAt", "(ILTinselRiver$Row;)Z"⟩
abbrev cX2_firstPlaceOf : ByteArray := prog_4_method_14_code
def yX2_firstPlaceOf : MethodName := ⟨RX2, "firstPlaceOf", "(LTinselRiver$Row;)I"⟩
abbrev cX2_bitsAt : ByteArray := prog_4_method_15_code
def yX2_bitsAt : MethodName := ⟨RX2, "bitsAt", "(I)I"⟩
abbrev cX2_placesUnder : ByteArray := prog_4_method_16_code
def yX2_placesUnder : MethodName := ⟨RX2, "placesUnder", "(LTinselRiver$Row;)I"⟩
def RX3 : String := "TinselRiver$Slots"
def TX3 : u_T := fun k => match k with
  | 0 => ("TinselRiver$Slots", "kept", "[LTinselRiver$Valley;", true)
  | _ => ("TinselRiver$Slots", "filled", "I", false)
def tyX3 : Nat → FieldType := fun k => match k with
  | 0 => .array (.object "TinselRiver$Valley")
  | _ => .int
abbrev wsX30 : List Cond := u_ws RX3 TX3 2
theorem nmX3 : ∀ a, a < 2 → ∀ b, b < 2 → a ≠ b → (TX3 a).2.1 ≠ (TX3 b).2.1 := by decide +kernel
theorem tyX3_ok : ∀ k, k < 2 → parseFieldDescriptor (TX3 k).2.2.1 = some (tyX3 k) := by decide +kernel
abbrev cX3_init : ByteArray := prog_5_method_1_code
def yX3_init : MethodName := ⟨RX3, "<init>", "()V"⟩
abbrev cX3_clear : ByteArray := prog_5_method_2_code
def yX3_clear : MethodName := ⟨RX3, "clear", "()V"⟩
abbrev cX3_put : ByteArray := prog_5_method_3_code
def yX3_put : MethodName := ⟨RX3, "put", "(ILTinselRiver$Valley;)I"⟩
abbrev cX3_bringBack : ByteArray := prog_5_method_4_code
def yX3_bringBack : MethodName := ⟨RX3, "bringBack", "(ILTinselRiver$Valley;)I"⟩
def RX4 : String := "TinselRiver$Strand"
def TX4 : u_T := fun k => match k with
  | 0 => ("TinselRiver$Strand", "row", "LTinselRiver$Row;", true)
  | 1 => ("TinselRiver$Strand", "house", "I", false)
  | _ => ("TinselRiver$Strand", "kind", "I", false)
def tyX4 : Nat → FieldType := fun k => match k with
  | 0 => .object "TinselRiver$Row"
  | 1 => .int
  | _ => .int
abbrev wsX40 : List Cond := u_ws RX4 TX4 3
theorem nmX4 : ∀ a, a < 3 → ∀ b, b < 3 → a ≠ b → (TX4 a).2.1 ≠ (TX4 b).2.1 := by decide +kernel
theorem tyX4_ok : ∀ k, k < 3 → parseFieldDescriptor (TX4 k).2.2.1 = some (tyX4 k) := by decide +kernel
abbrev cX4_init : ByteArray := prog_6_method_1_code
def yX4_init : MethodName := ⟨RX4, "<init>", "()V"⟩
abbrev cX4_setTo : ByteArray := prog_6_method_2_code
def yX4_setTo : MethodName := ⟨RX4, "setTo", "(LTinselRiver$Strand;)V"⟩
def RX5 : String := "TinselRiver$Text"
def TX5 : u_T := fun k => match k with
  | 0 => ("TinselRiver$Text", "letters", "[I", true)
  | _ => ("TinselRiver$Text", "size", "I", false)
def tyX5 : Nat → FieldType := fun k => match k with
  | 0 => .array .int
  | _ => .int
abbrev wsX50 : List Cond := u_ws RX5 TX5 2
theorem nmX5 : ∀ a, a < 2 → ∀ b, b < 2 → a ≠ b → (TX5 a).2.1 ≠ (TX5 b).2.1 := by decide +kernel
theorem tyX5_ok : ∀ k, k < 2 → parseFieldDescriptor (TX5 k).2.2.1 = some (tyX5 k) := by decide +kernel
abbrev cX5_init : ByteArray := prog_7_method_1_code
def yX5_init : MethodName := ⟨RX5, "<init>", "()V"⟩
abbrev cX5_add : ByteArray := prog_7_method_2_code
def yX5_add : MethodName := ⟨RX5, "add", "(I)I"⟩
abbrev cX5_clear : ByteArray := prog_7_method_3_code
def yX5_clear : MethodName := ⟨RX5, "clear", "()I"⟩
abbrev cX5_firstFault : ByteArray := prog_7_method_4_code
def yX5_firstFault : MethodName := ⟨RX5, "firstFault", "()I"⟩
abbrev cX5_stateAfter : ByteArray := prog_7_method_5_code
def yX5_stateAfter : MethodName := ⟨RX5, "stateAfter", "(III)I"⟩
abbrev cX5_isFigure : ByteArray := prog_7_method_6_code
def yX5_isFigure : MethodName := ⟨RX5, "isFigure", "(II)Z"⟩
abbrev cX5_isBend : ByteArray := prog_7_method_7_code
def yX5_isBend : MethodName := ⟨RX5, "isBend", "(I)Z"⟩
abbrev cX5_tellTo : ByteArray := prog_7_method_8_code
def yX5_tellTo : MethodName := ⟨RX5, "tellTo", "(LTinselRiver$Valley;)V"⟩
def RX6 : String := "TinselRiver$Valley"
def TX6 : u_T := fun k => match k with
  | 0 => ("TinselRiver$Valley", "strands", "[LTinselRiver$Strand;", true)
  | 1 => ("TinselRiver$Valley", "told", "I", false)
  | _ => ("TinselRiver$Valley", "year", "I", false)
def tyX6 : Nat → FieldType := fun k => match k with
  | 0 => .array (.object "TinselRiver$Strand")
  | 1 => .int
  | _ => .int
abbrev wsX60 : List Cond := u_ws RX6 TX6 3
theorem nmX6 : ∀ a, a < 3 → ∀ b, b < 3 → a ≠ b → (TX6 a).2.1 ≠ (TX6 b).2.1 := by decide +kernel
theorem tyX6_ok : ∀ k, k < 3 → parseFieldDescriptor (TX6 k).2.2.1 = some (tyX6 k) := by decide +kernel
abbrev cX6_init : ByteArray := prog_8_method_1_code
def yX6_init : MethodName := ⟨RX6, "<init>", "()V"⟩
abbrev cX6_clear : ByteArray := prog_8_method_2_code
def yX6_clear : MethodName := ⟨RX6, "clear", "()V"⟩
abbrev cX6_setTo : ByteArray := prog_8_method_3_code
def yX6_setTo : MethodName := ⟨RX6, "setTo", "(LTinselRiver$Valley;)V"⟩
abbrev cX6_begin : ByteArray := prog_8_method_4_code
def yX6_begin : MethodName := ⟨RX6, "begin", "(II)V"⟩
abbrev cX6_bendLast : ByteArray := prog_8_method_5_code
def yX6_bendLast : MethodName := ⟨RX6, "bendLast", "(I)V"⟩
abbrev cX6_has : ByteArray := prog_8_method_6_code
def yX6_has : MethodName := ⟨RX6, "has", "(I)Z"⟩
abbrev cX6_whoIsThere : ByteArray := prog_8_method_7_code
def yX6_whoIsThere : MethodName := ⟨RX6, "whoIsThere", "()I"⟩
abbrev cX6_bendsFrom : ByteArray := prog_8_method_8_code
def yX6_bendsFrom : MethodName := ⟨RX6, "bendsFrom", "(I)I"⟩
abbrev cX6_housesInUse : ByteArray := prog_8_method_9_code
def yX6_housesInUse : MethodName := ⟨RX6, "housesInUse", "()I"⟩
abbrev cX6_countIn : ByteArray := prog_8_method_10_code
def yX6_countIn : MethodName := ⟨RX6, "countIn", "(I)I"⟩
abbrev cX6_passWinter : ByteArray := prog_8_method_11_code
def yX6_passWinter : MethodName := ⟨RX6, "passWinter", "()I"⟩
abbrev cX6_winterOf : ByteArray := prog_8_method_12_code
def yX6_winterOf : MethodName := ⟨RX6, "winterOf", "(I)V"⟩
abbrev cX6_floodFrom : ByteArray := prog_8_method_13_code
def yX6_floodFrom : MethodName := ⟨RX6, "floodFrom", "(I)V"⟩
abbrev cX6_hangIn : ByteArray := prog_8_method_14_code
def yX6_hangIn : MethodName := ⟨RX6, "hangIn", "(II)I"⟩
abbrev cX6_turnAbout : ByteArray := prog_8_method_15_code
def yX6_turnAbout : MethodName := ⟨RX6, "turnAbout", "(I)I"⟩
abbrev cX6_snipEnd : ByteArray := prog_8_method_16_code
def yX6_snipEnd : MethodName := ⟨RX6, "snipEnd", "(I)I"⟩
abbrev cX6_joinTo : ByteArray := prog_8_method_17_code
def yX6_joinTo : MethodName := ⟨RX6, "joinTo", "(II)I"⟩
def RX7 : String := "TinselRiver"
def TX7 : u_T := fun k => match k with
  | 0 => ("TinselRiver", "text", "LTinselRiver$Text;", true)
  | 1 => ("TinselRiver", "valley", "LTinselRiver$Valley;", true)
  | 2 => ("TinselRiver", "trial", "LTinselRiver$Valley;", true)
  | 3 => ("TinselRiver", "acts", "LTinselRiver$Acts;", true)
  | 4 => ("TinselRiver", "slots", "LTinselRiver$Slots;", true)
  | 5 => ("TinselRiver", "laid", "LTinselRiver$Laid;", true)
  | 6 => ("TinselRiver", "bed", "LTinselRiver$Row;", true)
  | 7 => ("TinselRiver", "stream", "LTinselRiver$Row;", true)
  | 8 => ("TinselRiver", "guess", "LTinselRiver$Row;", true)
  | 9 => ("TinselRiver", "covers", "[I", true)
  | 10 => ("TinselRiver", "gainsOfOne", "[I", true)
  | 11 => ("TinselRiver", "gainsOfOther", "[I", true)
  | _ => ("TinselRiver", "seed", "J", false)
def tyX7 : Nat → FieldType := fun k => match k with
  | 0 => .object "TinselRiver$Text"
  | 1 => .object "TinselRiver$Valley"
  | 2 => .object "TinselRiver$Valley"
  | 3 => .object "TinselRiver$Acts"
  | 4 => .object "TinselRiver$Slots"
  | 5 => .object "TinselRiver$Laid"
  | 6 => .object "TinselRiver$Row"
  | 7 => .object "TinselRiver$Row"
  | 8 => .object "TinselRiver$Row"
  | 9 => .array .int
  | 10 => .array .int
  | 11 => .array .int
  | _ => .long
abbrev wsX70 : List Cond := u_ws RX7 TX7 13
theorem nmX7 : ∀ a, a < 13 → ∀ b, b < 13 → a ≠ b → (TX7 a).2.1 ≠ (TX7 b).2.1 := by decide +kernel
theorem tyX7_ok : ∀ k, k < 13 → parseFieldDescriptor (TX7 k).2.2.1 = some (tyX7 k) := by decide +kernel
abbrev cX7_init : ByteArray := prog_1_method_1_code
def yX7_init : MethodName := ⟨RX7, "<init>", "()V"⟩
abbrev cX7_write : ByteArray := prog_1_method_2_code
def yX7_write : MethodName := ⟨RX7, "write", "(I)I"⟩
abbrev cX7_wipe : ByteArray := prog_1_method_3_code
def yX7_wipe : MethodName := ⟨RX7, "wipe", "()I"⟩
abbrev cX7_fault : ByteArray := prog_1_method_4_code
def yX7_fault : MethodName := ⟨RX7, "fault", "()I"⟩
abbrev cX7_valley : ByteArray := prog_1_method_5_code
def yX7_valley : MethodName := ⟨RX7, "valley", "()I"⟩
abbrev cX7_bed : ByteArray := prog_1_method_6_code
def yX7_bed : MethodName := ⟨RX7, "bed", "(IJ)I"⟩
abbrev cX7_strand : ByteArray := prog_1_method_7_code
def yX7_strand : MethodName := ⟨RX7, "strand", "(II)I"⟩
abbrev cX7_bends : ByteArray := prog_1_method_8_code
def yX7_bends : MethodName := ⟨RX7, "bends", "(I)J"⟩
abbrev cX7_isRowOfBends : ByteArray := prog_1_method_9_code
def yX7_isRowOfBends : MethodName := ⟨RX7, "isRowOfBends", "(IJ)Z"⟩
abbrev cX7_winter : ByteArray := prog_1_method_10_code
def yX7_winter : MethodName := ⟨RX7, "winter", "()I"⟩
abbrev cX7_hang : ByteArray := prog_1_method_11_code
def yX7_hang : MethodName := ⟨RX7, "hang", "(II)I"⟩
abbrev cX7_turn : ByteArray := prog_1_method_12_code
def yX7_turn : MethodName := ⟨RX7, "turn", "(I)I"⟩
abbrev cX7_snip : ByteArray := prog_1_method_13_code
def yX7_snip : MethodName := ⟨RX7, "snip", "(I)I"⟩
abbrev cX7_join : ByteArray := prog_1_method_14_code
def yX7_join : MethodName := ⟨RX7, "join", "(II)I"⟩
abbrev cX7_undo : ByteArray := prog_1_method_15_code
def yX7_undo : MethodName := ⟨RX7, "undo", "()I"⟩
abbrev cX7_take : ByteArray := prog_1_method_16_code
def yX7_take : MethodName := ⟨RX7, "take", "(I)I"⟩
abbrev cX7_later : ByteArray := prog_1_method_17_code
def yX7_later : MethodName := ⟨RX7, "later", "(II)I"⟩
abbrev cX7_lasts : ByteArray := prog_1_method_18_code
def yX7_lasts : MethodName := ⟨RX7, "lasts", "(I)I"⟩
abbrev cX7_overlap : ByteArray := prog_1_method_19_code
def yX7_overlap : MethodName := ⟨RX7, "overlap", "(II)I"⟩
abbrev cX7_river : ByteArray := prog_1_method_20_code
def yX7_river : MethodName := ⟨RX7, "river", "(I)I"⟩
abbrev cX7_isOrder : ByteArray := prog_1_method_21_code
def yX7_isOrder : MethodName := ⟨RX7, "isOrder", "(II)Z"⟩
abbrev cX7_flow : ByteArray := prog_1_method_22_code
def yX7_flow : MethodName := ⟨RX7, "flow", "(II)I"⟩
abbrev cX7_figureOf : ByteArray := prog_1_method_23_code
def yX7_figureOf : MethodName := ⟨RX7, "figureOf", "(III)I"⟩
abbrev cX7_covered : ByteArray := prog_1_method_24_code
def yX7_covered : MethodName := ⟨RX7, "covered", "()I"⟩
abbrev cX7_findCovers : ByteArray := prog_1_method_25_code
def yX7_findCovers : MethodName := ⟨RX7, "findCovers", "()V"⟩
abbrev cX7_wholeBed : ByteArray := prog_1_method_26_code
def yX7_wholeBed : MethodName := ⟨RX7, "wholeBed", "()I"⟩
abbrev cX7_ways : ByteArray := prog_1_method_27_code
def yX7_ways : MethodName := ⟨RX7, "ways", "()I"⟩
abbrev cX7_waysFrom : ByteArray := prog_1_method_28_code
def yX7_waysFrom : MethodName := ⟨RX7, "waysFrom", "(LTinselRiver$Valley;LTinselRiver$Row;II)I"⟩
abbrev cX7_judge : ByteArray := prog_1_method_29_code
def yX7_judge : MethodName := ⟨RX7, "judge", "(IJ)I"⟩
abbrev cX7_canBe : ByteArray := prog_1_method_30_code
def yX7_canBe : MethodName := ⟨RX7, "canBe", "(I)Z"⟩
abbrev cX7_lay : ByteArray := prog_1_method_31_code
def yX7_lay : MethodName := ⟨RX7, "lay", "(II)I"⟩
abbrev cX7_unlay : ByteArray := prog_1_method_32_code
def yX7_unlay : MethodName := ⟨RX7, "unlay", "()I"⟩
abbrev cX7_which : ByteArray := prog_1_method_33_code
def yX7_which : MethodName := ⟨RX7, "which", "(I)I"⟩
abbrev cX7_guessRow : ByteArray := prog_1_method_34_code
def yX7_guessRow : MethodName := ⟨RX7, "guessRow", "(II)V"⟩
abbrev cX7_share : ByteArray := prog_1_method_35_code
def yX7_share : MethodName := ⟨RX7, "share", "(IZ)I"⟩
abbrev cX7_coversOn : ByteArray := prog_1_method_36_code
def yX7_coversOn : MethodName := ⟨RX7, "coversOn", "(I)I"⟩
abbrev cX7_rests : ByteArray := prog_1_method_37_code
def yX7_rests : MethodName := ⟨RX7, "rests", "(III)I"⟩
abbrev cX7_findGains : ByteArray := prog_1_method_38_code
def yX7_findGains : MethodName := ⟨RX7, "findGains", "(II)V"⟩
abbrev cX7_gainOf : ByteArray := prog_1_method_39_code
def yX7_gainOf : MethodName := ⟨RX7, "gainOf", "(I)I"⟩
abbrev cX7_isRest : ByteArray := prog_1_method_40_code
def yX7_isRest : MethodName := ⟨RX7, "isRest", "(I)Z"⟩
abbrev cX7_lost : ByteArray := prog_1_method_41_code
def yX7_lost : MethodName := ⟨RX7, "lost", "(IZ)I"⟩
abbrev cX7_coveredBy : ByteArray := prog_1_method_42_code
def yX7_coveredBy : MethodName := ⟨RX7, "coveredBy", "(I)I"⟩
abbrev cX7_chanceOf : ByteArray := prog_1_method_43_code
def yX7_chanceOf : MethodName := ⟨RX7, "chanceOf", "(III)I"⟩
abbrev cX7_partOfFraction : ByteArray := prog_1_method_44_code
def yX7_partOfFraction : MethodName := ⟨RX7, "partOfFraction", "(IIZ)I"⟩
abbrev cX7_commonDivisor : ByteArray := prog_1_method_45_code
def yX7_commonDivisor : MethodName := ⟨RX7, "commonDivisor", "(II)I"⟩
abbrev cX7_seed : ByteArray := prog_1_method_46_code
def yX7_seed : MethodName := ⟨RX7, "seed", "(J)J"⟩
abbrev cX7_years : ByteArray := prog_1_method_47_code
def yX7_years : MethodName := ⟨RX7, "years", "(I)I"⟩
abbrev cX7_doByChance : ByteArray := prog_1_method_48_code
def yX7_doByChance : MethodName := ⟨RX7, "doByChance", "(I)V"⟩
abbrev cX7_keep : ByteArray := prog_1_method_49_code
def yX7_keep : MethodName := ⟨RX7, "keep", "(I)I"⟩
abbrev cX7_again : ByteArray := prog_1_method_50_code
def yX7_again : MethodName := ⟨RX7, "again", "(I)I"⟩
abbrev cX7_count : ByteArray := prog_1_method_51_code
def yX7_count : MethodName := ⟨RX7, "count", "(I)I"⟩
def RX8 : String := "TinselRiverModel"
def TX8 : u_T := fun k => match k with
  | 0 => ("TinselRiverModel", "strands", "I", false)
  | 1 => ("TinselRiverModel", "kind", "[I", true)
  | 2 => ("TinselRiverModel", "now", "[I", true)
  | 3 => ("TinselRiverModel", "readHead", "[I", true)
  | 4 => ("TinselRiverModel", "readMany", "[I", true)
  | 5 => ("TinselRiverModel", "readBend", "[I", true)
  | 6 => ("TinselRiverModel", "readStrands", "I", false)
  | 7 => ("TinselRiverModel", "text", "[I", true)
  | 8 => ("TinselRiverModel", "length", "I", false)
  | 9 => ("TinselRiverModel", "at", "I", false)
  | 10 => ("TinselRiverModel", "faultAt", "I", false)
  | 11 => ("TinselRiverModel", "bedMany", "I", false)
  | 12 => ("TinselRiverModel", "bed", "[I", true)
  | 13 => ("TinselRiverModel", "acts", "I", false)
  | 14 => ("TinselRiverModel", "next", "I", false)
  | 15 => ("TinselRiverModel", "row", "[I", true)
  | 16 => ("TinselRiverModel", "stream", "[I", true)
  | 17 => ("TinselRiverModel", "streamMany", "I", false)
  | 18 => ("TinselRiverModel", "laid", "I", false)
  | 19 => ("TinselRiverModel", "laidAt", "[I", true)
  | 20 => ("TinselRiverModel", "laidIs", "[I", true)
  | 21 => ("TinselRiverModel", "seed", "J", false)
  | 22 => ("TinselRiverModel", "isKept", "[Z", true)
  | _ => ("TinselRiverModel", "kept", "[I", true)
def tyX8 : Nat → FieldType := fun k => match k with
  | 0 => .int
  | 1 => .array .int
  | 2 => .array .int
  | 3 => .array .int
  | 4 => .array .int
  | 5 => .array .int
  | 6 => .int
  | 7 => .array .int
  | 8 => .int
  | 9 => .int
  | 10 => .int
  | 11 => .int
  | 12 => .array .int
  | 13 => .int
  | 14 => .int
  | 15 => .array .int
  | 16 => .array .int
  | 17 => .int
  | 18 => .int
  | 19 => .array .int
  | 20 => .array .int
  | 21 => .long
  | 22 => .array .boolean
  | _ => .array .int
abbrev wsX80 : List Cond := u_ws RX8 TX8 24
theorem nmX8 : ∀ a, a < 24 → ∀ b, b < 24 → a ≠ b → (TX8 a).2.1 ≠ (TX8 b).2.1 := by decide +kernel
theorem tyX8_ok : ∀ k, k < 24 → parseFieldDescriptor (TX8 k).2.2.1 = some (tyX8 k) := by decide +kernel
abbrev cX8_init : ByteArray := prog_10_method_1_code
def yX8_init : MethodName := ⟨RX8, "<init>", "()V"⟩
abbrev cX8_in : ByteArray := prog_10_method_3_code
def yX8_in : MethodName := ⟨RX8, "in", "(JJJ)Z"⟩
abbrev cX8_has : ByteArray := prog_10_method_4_code
def yX8_has : MethodName := ⟨RX8, "has", "(II)Z"⟩
abbrev cX8_ones : ByteArray := prog_10_method_5_code
def yX8_ones : MethodName := ⟨RX8, "ones", "(I)I"⟩
abbrev cX8_write : ByteArray := prog_10_method_6_code
def yX8_write : MethodName := ⟨RX8, "write", "(I)I"⟩
abbrev cX8_wipe : ByteArray := prog_10_method_7_code
def yX8_wipe : MethodName := ⟨RX8, "wipe", "()I"⟩
abbrev cX8_nextOf : ByteArray := prog_10_method_8_code
def yX8_nextOf : MethodName := ⟨RX8, "nextOf", "(II)I"⟩
abbrev cX8_isBend : ByteArray := prog_10_method_9_code
def yX8_isBend : MethodName := ⟨RX8, "isBend", "()Z"⟩
abbrev cX8_readText : ByteArray := prog_10_method_10_code
def yX8_readText : MethodName := ⟨RX8, "readText", "()I"⟩
abbrev cX8_readPart : ByteArray := prog_10_method_11_code
def yX8_readPart : MethodName := ⟨RX8, "readPart", "(I)V"⟩
abbrev cX8_fault : ByteArray := prog_10_method_12_code
def yX8_fault : MethodName := ⟨RX8, "fault", "()I"⟩
abbrev cX8_valley : ByteArray := prog_10_method_13_code
def yX8_valley : MethodName := ⟨RX8, "valley", "()I"⟩
abbrev cX8_isThere : ByteArray := prog_10_method_14_code
def yX8_isThere : MethodName := ⟨RX8, "isThere", "(II)Z"⟩
abbrev cX8_bendAt : ByteArray := prog_10_method_15_code
def yX8_bendAt : MethodName := ⟨RX8, "bendAt", "(III)I"⟩
abbrev cX8_loseLast : ByteArray := prog_10_method_16_code
def yX8_loseLast : MethodName := ⟨RX8, "loseLast", "(II)V"⟩
abbrev cX8_loseFirst : ByteArray := prog_10_method_17_code
def yX8_loseFirst : MethodName := ⟨RX8, "loseFirst", "(II)V"⟩
abbrev cX8_inHouse : ByteArray := prog_10_method_18_code
def yX8_inHouse : MethodName := ⟨RX8, "inHouse", "(II)I"⟩
abbrev cX8_hurt : ByteArray := prog_10_method_19_code
def yX8_hurt : MethodName := ⟨RX8, "hurt", "(II)V"⟩
abbrev cX8_whoIs : ByteArray := prog_10_method_20_code
def yX8_whoIs : MethodName := ⟨RX8, "whoIs", "(I)I"⟩
abbrev cX8_passOn : ByteArray := prog_10_method_21_code
def yX8_passOn : MethodName := ⟨RX8, "passOn", "(I)I"⟩
abbrev cX8_turnOn : ByteArray := prog_10_method_22_code
def yX8_turnOn : MethodName := ⟨RX8, "turnOn", "(II)V"⟩
abbrev cX8_overlapOf : ByteArray := prog_10_method_23_code
def yX8_overlapOf : MethodName := ⟨RX8, "overlapOf", "(III)I"⟩
abbrev cX8_joinedMany : ByteArray := prog_10_method_24_code
def yX8_joinedMany : MethodName := ⟨RX8, "joinedMany", "(III)I"⟩
abbrev cX8_isOneHouse : ByteArray := prog_10_method_25_code
def yX8_isOneHouse : MethodName := ⟨RX8, "isOneHouse", "(III)Z"⟩
abbrev cX8_canJoin : ByteArray := prog_10_method_26_code
def yX8_canJoin : MethodName := ⟨RX8, "canJoin", "(III)Z"⟩
abbrev cX8_joinOn : ByteArray := prog_10_method_27_code
def yX8_joinOn : MethodName := ⟨RX8, "joinOn", "(III)V"⟩
abbrev cX8_tenTo : ByteArray := prog_10_method_28_code
def yX8_tenTo : MethodName := ⟨RX8, "tenTo", "(I)J"⟩
abbrev cX8_bed : ByteArray := prog_10_method_29_code
def yX8_bed : MethodName := ⟨RX8, "bed", "(IJ)I"⟩
abbrev cX8_liesAt : ByteArray := prog_10_method_30_code
def yX8_liesAt : MethodName := ⟨RX8, "liesAt", "(III)Z"⟩
abbrev cX8_firstPlace : ByteArray := prog_10_method_31_code
def yX8_firstPlace : MethodName := ⟨RX8, "firstPlace", "(II)I"⟩
abbrev cX8_coverOf : ByteArray := prog_10_method_32_code
def yX8_coverOf : MethodName := ⟨RX8, "coverOf", "(I)I"⟩
abbrev cX8_strand : ByteArray := prog_10_method_33_code
def yX8_strand : MethodName := ⟨RX8, "strand", "(II)I"⟩
abbrev cX8_bends : ByteArray := prog_10_method_34_code
def yX8_bends : MethodName := ⟨RX8, "bends", "(I)J"⟩
abbrev cX8_keepAct : ByteArray := prog_10_method_35_code
def yX8_keepAct : MethodName := ⟨RX8, "keepAct", "()V"⟩
abbrev cX8_winter : ByteArray := prog_10_method_36_code
def yX8_winter : MethodName := ⟨RX8, "winter", "()I"⟩
abbrev cX8_hang : ByteArray := prog_10_method_37_code
def yX8_hang : MethodName := ⟨RX8, "hang", "(II)I"⟩
abbrev cX8_turn : ByteArray := prog_10_method_38_code
def yX8_turn : MethodName := ⟨RX8, "turn", "(I)I"⟩
abbrev cX8_snip : ByteArray := prog_10_method_39_code
def yX8_snip : MethodName := ⟨RX8, "snip", "(I)I"⟩
abbrev cX8_join : ByteArray := prog_10_method_40_code
def yX8_join : MethodName := ⟨RX8, "join", "(II)I"⟩
abbrev cX8_undo : ByteArray := prog_10_method_41_code
def yX8_undo : MethodName := ⟨RX8, "undo", "()I"⟩
abbrev cX8_layTrial : ByteArray := prog_10_method_42_code
def yX8_layTrial : MethodName := ⟨RX8, "layTrial", "()V"⟩
abbrev cX8_later : ByteArray := prog_10_method_43_code
def yX8_later : MethodName := ⟨RX8, "later", "(II)I"⟩
abbrev cX8_lasts : ByteArray := prog_10_method_44_code
def yX8_lasts : MethodName := ⟨RX8, "lasts", "(I)I"⟩
abbrev cX8_overlap : ByteArray := prog_10_method_45_code
def yX8_overlap : MethodName := ⟨RX8, "overlap", "(II)I"⟩
abbrev cX8_flowOn : ByteArray := prog_10_method_46_code
def yX8_flowOn : MethodName := ⟨RX8, "flowOn", "(I)V"⟩
abbrev cX8_goesOn : ByteArray := prog_10_method_47_code
def yX8_goesOn : MethodName := ⟨RX8, "goesOn", "(II)Z"⟩
abbrev cX8_riverBy : ByteArray := prog_10_method_48_code
def yX8_riverBy : MethodName := ⟨RX8, "riverBy", "(II)I"⟩
abbrev cX8_river : ByteArray := prog_10_method_49_code
def yX8_river : MethodName := ⟨RX8, "river", "(I)I"⟩
abbrev cX8_covered : ByteArray := prog_10_method_50_code
def yX8_covered : MethodName := ⟨RX8, "covered", "()I"⟩
abbrev cX8_ways : ByteArray := prog_10_method_51_code
def yX8_ways : MethodName := ⟨RX8, "ways", "()I"⟩
abbrev cX8_isWay : ByteArray := prog_10_method_52_code
def yX8_isWay : MethodName := ⟨RX8, "isWay", "(I)Z"⟩
abbrev cX8_tryThing : ByteArray := prog_10_method_53_code
def yX8_tryThing : MethodName := ⟨RX8, "tryThing", "(III)Z"⟩
abbrev cX8_thousandTo : ByteArray := prog_10_method_54_code
def yX8_thousandTo : MethodName := ⟨RX8, "thousandTo", "(I)J"⟩
abbrev cX8_judge : ByteArray := prog_10_method_55_code
def yX8_judge : MethodName := ⟨RX8, "judge", "(IJ)I"⟩
abbrev cX8_lay : ByteArray := prog_10_method_56_code
def yX8_lay : MethodName := ⟨RX8, "lay", "(II)I"⟩
abbrev cX8_unlay : ByteArray := prog_10_method_57_code
def yX8_unlay : MethodName := ⟨RX8, "unlay", "()I"⟩
abbrev cX8_fitsAt : ByteArray := prog_10_method_58_code
def yX8_fitsAt : MethodName := ⟨RX8, "fitsAt", "(III)Z"⟩
abbrev cX8_mayBeLaid : ByteArray := prog_10_method_59_code
def yX8_mayBeLaid : MethodName := ⟨RX8, "mayBeLaid", "(II)Z"⟩
abbrev cX8_areBends : ByteArray := prog_10_method_60_code
def yX8_areBends : MethodName := ⟨RX8, "areBends", "(I)Z"⟩
abbrev cX8_which : ByteArray := prog_10_method_61_code
def yX8_which : MethodName := ⟨RX8, "which", "(I)I"⟩
abbrev cX8_factorial : ByteArray := prog_10_method_62_code
def yX8_factorial : MethodName := ⟨RX8, "factorial", "(I)I"⟩
abbrev cX8_common : ByteArray := prog_10_method_63_code
def yX8_common : MethodName := ⟨RX8, "common", "(II)I"⟩
abbrev cX8_share : ByteArray := prog_10_method_64_code
def yX8_share : MethodName := ⟨RX8, "share", "(IZ)I"⟩
abbrev cX8_gain : ByteArray := prog_10_method_65_code
def yX8_gain : MethodName := ⟨RX8, "gain", "(IIIII)I"⟩
abbrev cX8_isRest : ByteArray := prog_10_method_66_code
def yX8_isRest : MethodName := ⟨RX8, "isRest", "(IIII)Z"⟩
abbrev cX8_rests : ByteArray := prog_10_method_67_code
def yX8_rests : MethodName := ⟨RX8, "rests", "(III)I"⟩
abbrev cX8_power : ByteArray := prog_10_method_68_code
def yX8_power : MethodName := ⟨RX8, "power", "(II)I"⟩
abbrev cX8_lost : ByteArray := prog_10_method_69_code
def yX8_lost : MethodName := ⟨RX8, "lost", "(IZ)I"⟩
abbrev cX8_seed : ByteArray := prog_10_method_70_code
def yX8_seed : MethodName := ⟨RX8, "seed", "(J)J"⟩
abbrev cX8_bendsOfAll : ByteArray := prog_10_method_71_code
def yX8_bendsOfAll : MethodName := ⟨RX8, "bendsOfAll", "(I)I"⟩
abbrev cX8_years : ByteArray := prog_10_method_72_code
def yX8_years : MethodName := ⟨RX8, "years", "(I)I"⟩
abbrev cX8_keep : ByteArray := prog_10_method_73_code
def yX8_keep : MethodName := ⟨RX8, "keep", "(I)I"⟩
abbrev cX8_again : ByteArray := prog_10_method_74_code
def yX8_again : MethodName := ⟨RX8, "again", "(I)I"⟩
abbrev cX8_usedHouses : ByteArray := prog_10_method_75_code
def yX8_usedHouses : MethodName := ⟨RX8, "usedHouses", "()I"⟩
abbrev cX8_count : ByteArray := prog_10_method_76_code
def yX8_count : MethodName := ⟨RX8, "count", "(I)I"⟩
def RJ6 : String := "java/lang/Integer"
def TJ6 : u_T := fun k => match k with
  | _ => ("", "", "", false)
def tyJ6 : Nat → FieldType := fun k => match k with
  | _ => .int
abbrev wsJ60 : List Cond := u_ws RJ6 TJ6 0
theorem nmJ6 : ∀ a, a < 0 → ∀ b, b < 0 → a ≠ b → (TJ6 a).2.1 ≠ (TJ6 b).2.1 := by decide +kernel
theorem tyJ6_ok : ∀ k, k < 0 → parseFieldDescriptor (TJ6 k).2.2.1 = some (tyJ6 k) := by decide +kernel
abbrev cJ6_bitCount_0f7a4 : ByteArray := prog_11_method_49_code
def yJ6_bitCount_0f7a4 : MethodName := ⟨RJ6, "bitCount", "(I)I"⟩
def RJ9 : String := "java/lang/Math"
def TJ9 : u_T := fun k => match k with
  | _ => ("", "", "", false)
def tyJ9 : Nat → FieldType := fun k => match k with
  | _ => .int
abbrev wsJ90 : List Cond := u_ws RJ9 TJ9 0
theorem nmJ9 : ∀ a, a < 0 → ∀ b, b < 0 → a ≠ b → (TJ9 a).2.1 ≠ (TJ9 b).2.1 := by decide +kernel
theorem tyJ9_ok : ∀ k, k < 0 → parseFieldDescriptor (TJ9 k).2.2.1 = some (tyJ9 k) := by decide +kernel
abbrev cJ9_max_7cf53 : ByteArray := prog_12_method_65_code
def yJ9_max_7cf53 : MethodName := ⟨RJ9, "max", "(II)I"⟩
abbrev cJ9_max_f86c9 : ByteArray := prog_12_method_66_code
def yJ9_max_f86c9 : MethodName := ⟨RJ9, "max", "(JJ)J"⟩
abbrev cJ9_min_7cf53 : ByteArray := prog_12_method_69_code
def yJ9_min_7cf53 : MethodName := ⟨RJ9, "min", "(II)I"⟩
def RL : String := "TinselRiverLaw"
abbrev cL_law : ByteArray := code
def yL_law : MethodName := ⟨RL, "law", "([I)Z"⟩
abbrev vwCl : List vw_C := [(RX0, TX0, 3), (RX1, TX1, 3), (RX2, TX2, 2), (RX3, TX3, 2), (RX4, TX4, 3), (RX5, TX5, 2), (RX6, TX6, 3), (RX7, TX7, 13), (RX8, TX8, 24)]
end
section
/-! ===== the small machine: cells by number (0 the script, the rest in the order of their making), values with such numbers as references ===== -/
abbrev mC : Type := (Nat × List Value) ⊕ (Bool × List Int32) ⊕ (Bool × List Value)
abbrev mM : Type := List mC
abbrev mE : Type := Nat × Nat
abbrev mMe : Type := MethodName × ByteArray × Nat × Option FieldType
abbrev mL : Type := List (Option Value)
def mad (E : mE) (k : Nat) : Nat := match k with
  | 0 => E.1
  | j + 1 => E.2 + j
def mtr (E : mE) (v : Value) : Value := match v with
  | .ref k => .ref (mad E k)
  | w => w
def mty (z : Bool) : FieldType := match z with
  | false => .int
  | true => .boolean
def mel (z : Bool) : String := match z with
  | false => RX4
  | true => RX6
def mAt (E : mE) (D : va_G) (U : State) (k : Nat) (c : mC) (H : Heap) : Prop := match c with
  | .inl o => ∃ r : vw_C, vwCl[o.1]? = some r ∧ o.2.length = r.2.2 ∧ t_OB (mad E k) (D.1 o.1) r.2.2 (D.2 o.1) H (vp_V (o.2.map (mtr E)))
  | .inr (.inl o) => ∃ cell : Cell, H[mad E k]? = some cell ∧ U.isArrayOf cell (mty o.1) ∧ cell.vm ≠ .unknown ∧ cell.slots.size = o.2.length ∧ ∀ j, j < o.2.length → cell.slots[j]? = some (.int (o.2.getD j 0))
  | .inr (.inr o) => ∃ cA : ClassId, H[mad E k]? = some (arrV cA o.2.length (vp_V (o.2.map (mtr E)))) ∧ ArrOfT U cA (.object (mel o.1)) ∧ va_RA U cA (.object (mel o.1))
theorem mAt.kept {E : mE} {D : va_G} {U : State} {k : Nat} {c : mC} {H H1 : Heap} (h : mAt E D U k c H) (hq : H1[mad E k]? = H[mad E k]?) : mAt E D U k c H1 := by
  rcases c with o | o | o
  · obtain ⟨r, h1, h2, h3⟩ := h
    exact ⟨r, h1, h2, h3.kept hq⟩
  · obtain ⟨cell, h1, h2⟩ := h
    exact ⟨cell, by rw [hq]; exact h1, h2⟩
  · obtain ⟨cA, h1, h2⟩ := h
    exact ⟨cA, by rw [hq]; exact h1, h2⟩
theorem mAt.moved {E : mE} {D : va_G} {u U : State} {k : Nat} {c : mC} {H : Heap} (hvm : u.vm.Alike U.vm) (h : mAt E D u k c H) : mAt E D U k c H := by
  rcases c with o | o | o
  · exact h
  · obtain ⟨cell, h1, h2, h3⟩ := h
    exact ⟨cell, h1, State.isArrayOf_alike hvm h2, h3⟩
  · obtain ⟨cA, h1, h2, h3⟩ := h
    exact ⟨cA, h1, arrOfT_moved hvm h2, h3.moved hvm⟩
theorem mAt.lt {E : mE} {D : va_G} {U : State} {k : Nat} {c : mC} {H : Heap} (h : mAt E D U k c H) : mad E k < H.size := by
  rcases c with o | o | o
  · obtain ⟨r, h1, h2, cell, h3, -⟩ := h
    exact (Array.getElem?_eq_some_iff.mp h3).1
  · obtain ⟨cell, h1, -⟩ := h
    exact (Array.getElem?_eq_some_iff.mp h1).1
  · obtain ⟨cA, h1, -⟩ := h
    exact (Array.getElem?_eq_some_iff.mp h1).1
theorem mad_inj {E : mE} (hE : E.1 < E.2) {i j : Nat} (h : mad E i = mad E j) : i = j := by
  cases i <;> cases j <;> simp only [mad] at h <;> omega
theorem mad_base {E : mE} {k : Nat} (hk : 0 < k) : E.2 ≤ mad E k := by
  cases k with
  | zero => omega
  | succ k => exact Nat.le_add_right _ _
/-- the heap holds the cells -/
def mHold (E : mE) (D : va_G) (U : State) (M : mM) (H : Heap) : Prop := (∀ (k : Nat) (c : mC), M[k]? = some c → mAt E D U k c H) ∧ H.size + 1 = E.2 + M.length ∧ E.1 < E.2 ∧ 1 ≤ M.length
theorem mHold.moved {E : mE} {D : va_G} {u U : State} {M : mM} {H : Heap} (hvm : u.vm.Alike U.vm) (h : mHold E D u M H) : mHold E D U M H := ⟨fun k c hk => (h.1 k c hk).moved hvm, h.2⟩
theorem mHold.set {E : mE} {D : va_G} {U : State} {M : mM} {H H1 : Heap} {k : Nat} {c0 c : mC} (h : mHold E D U M H) (hk : M[k]? = some c0) (hz : H1.size = H.size) (ho : ∀ q : Nat, q ≠ mad E k → H1[q]? = H[q]?) (hc : mAt E D U k c H1) : mHold E D U (M.set k c) H1 := by
  have hl := (List.getElem?_eq_some_iff.mp hk).1
  refine ⟨fun j cj hj => ?_, by rw [hz, List.length_set]; exact h.2.1, h.2.2.1, by rw [List.length_set]; exact h.2.2.2⟩
  by_cases hjk : j = k
  · subst hjk
    rw [List.getElem?_set_self hl] at hj
    cases hj
    exact hc
  · rw [List.getElem?_set_ne (Ne.symm hjk)] at hj
    exact (h.1 j cj hj).kept (ho _ (fun z => hjk (mad_inj h.2.2.1 z)))
theorem mHold.new {E : mE} {D : va_G} {U : State} {M : mM} {H : Heap} (h : mHold E D U M H) : mad E M.length = H.size := by
  have h1 := h.2.1
  have h2 := h.2.2.2
  cases hm : M.length with
  | zero => omega
  | succ n => simp only [mad]; omega
theorem mHold.push {E : mE} {D : va_G} {U : State} {M : mM} {H H1 : Heap} {c : mC} (h : mHold E D U M H) (hz : H1.size = H.size + 1) (ho : ∀ q : Nat, q < H.size → H1[q]? = H[q]?) (hc : mAt E D U M.length c H1) : mHold E D U (M ++ [c]) H1 := by
  refine ⟨fun j cj hj => ?_, by rw [hz, List.length_append, List.length_singleton]; have := h.2.1; omega, h.2.2.1, by have := h.2.2.2; rw [List.length_append]; omega⟩
  by_cases hl : j < M.length
  · rw [List.getElem?_append_left hl] at hj
    have h1 := h.1 j cj hj
    exact h1.kept (ho _ h1.lt)
  · rw [List.getElem?_append_right (by omega)] at hj
    have hz : j - M.length < 1 := (List.getElem?_eq_some_iff.mp hj).1
    have hj0 : j = M.length := by omega
    subst hj0
    rw [Nat.sub_self] at hj
    cases hj
    exact hc
/-! the words -/
def mNest : Cond → Bool
  | .fieldLinkNest _ _ _ _ _ _ => true
  | .methodLinkNest _ _ _ _ => true
  | _ => false
def mT0 : List Cond := lw_tbl.filter goodWord
def mNw : List Cond := lw_tbl.filter mNest
def mK (D : va_G) (U : State) : Prop := (∀ (c : Nat) (q : vw_C), vwCl[c]? = some q → u_Kn U q.1 q.2.1 q.2.2 (D.1 c) (D.2 c)) ∧ (∀ w ∈ mNw, va_Nw w U) ∧ va_AO RX4 U ∧ va_AO RX6 U
theorem mK.warm {D : va_G} {s U : State} (hW : s.WarmedH U.vm) (h : mK D s) : mK D U := by
  refine ⟨fun c q hq => u_Kn_moved hW.alike (h.1 c q hq), fun w hw => ?_, h.2.2.1.moved hW.alike, h.2.2.2.moved hW.alike⟩
  have h1 := h.2.1 w hw
  have h2 : mNest w = true := (List.mem_filter.mp hw).2
  cases w <;> first | exact va_Nw.warmF hW h1 | exact va_Nw.warmM hW h1 | cases h2
theorem mK.va {D : va_G} {U : State} (h : mK D U) : va_K D vwCl [] U := ⟨h.1, fun k q hk => by simp at hk⟩
def mws (me : mMe) : List Cond := Cond.code me.1 me.2.1 me.2.2.1 me.2.2.2 :: mT0
def mrm (d mc ms : Nat) : Room := { frames := d, cells := mc, slots := ms, locals := 40 * d }
theorem mT0_tbl {i : Nat} {w : Cond} (h : tables_1[i]? = some w) (hg : goodWord w = true) : w ∈ mT0 := List.mem_filter.mpr ⟨List.mem_append_right _ (List.mem_of_getElem? h), hg⟩
theorem mNw_tbl {i : Nat} {w : Cond} (h : tables_1[i]? = some w) (hg : mNest w = true) : w ∈ mNw := List.mem_filter.mpr ⟨List.mem_append_right _ (List.mem_of_getElem? h), hg⟩
theorem mT0_prv {i : Nat} {w : Cond} (h : (k2_sels lw_privs)[i]? = some w) (hg : goodWord w = true) : w ∈ mT0 := List.mem_filter.mpr ⟨List.mem_append_left _ (List.mem_of_getElem? h), hg⟩
/-! locals -/
def mloc (E : mE) : Nat → mL → List (Nat × Value)
  | _, [] => []
  | i, none :: t => mloc E (i + 1) t
  | i, some v :: t => (i, mtr E v) :: mloc E (i + 1) t
theorem mloc_mem {E : mE} {q : Nat × Value} : ∀ {i : Nat} {l : mL}, q ∈ mloc E i l ↔ ∃ (j : Nat) (v : Value), l[j]? = some (some v) ∧ q = (i + j, mtr E v)
  | i, [] => by simp [mloc]
  | i, none :: t => by
    rw [mloc, mloc_mem]
    constructor
    · rintro ⟨j, v, h1, h2⟩
      exact ⟨j + 1, v, by simpa using h1, by rw [h2]; congr 1; omega⟩
    · rintro ⟨j, v, h1, h2⟩
      cases j with
      | zero => simp at h1
      | succ j => exact ⟨j, v, by simpa using h1, by rw [h2]; congr 1; omega⟩
  | i, some w :: t => by
    rw [mloc, List.mem_cons, mloc_mem]
    constructor
    · rintro (h | ⟨j, v, h1, h2⟩)
      · exact ⟨0, w, rfl, h⟩
      · exact ⟨j + 1, v, by simpa using h1, by rw [h2]; congr 1; omega⟩
    · rintro ⟨j, v, h1, h2⟩
      cases j with
      | zero => simp at h1; subst h1; exact Or.inl h2
      | succ j => exact Or.inr ⟨j, v, by simpa using h1, by rw [h2]; congr 1; omega⟩
theorem mloc_at {E : mE} {ls : Array Slot} {nL : Nat} {loc : mL} (h : lv_has ls nL (mloc E 0 loc)) {i : Nat} {v : Value} (hi : loc[i]? = some (some v)) : ls[i]? = some (.val (mtr E v)) :=
  h.2.2 (i, mtr E v) (mloc_mem.mpr ⟨i, v, hi, by rw [Nat.zero_add]⟩)
theorem lv_has.mono {ls : Array Slot} {nL : Nat} {l l' : List (Nat × Value)} (h : lv_has ls nL l) (hs : ∀ q ∈ l', q ∈ l) : lv_has ls nL l' := ⟨h.1, h.2.1, fun q hq => h.2.2 q (hs q hq)⟩
/-- no long lies right below that place -/
def mok1 (loc : mL) (i : Nat) : Bool := match i with
  | 0 => true
  | j + 1 => match loc[j]? with
    | some (some v) => v.category == 1
    | _ => true
theorem mtr_cat (E : mE) (v : Value) : (mtr E v).category = v.category := by cases v <;> rfl
theorem mloc_set1 {E : mE} {loc : mL} {i : Nat} {v : Value} (hok : mok1 loc i = true) : ∀ q ∈ mloc E 0 (loc.set i (some v)), q ∈ (i, mtr E v) :: (mloc E 0 loc).filter (fun q => !(q.1 == i) && !(q.1 + 1 == i && q.2.category == 2)) := by
  intro q hq
  obtain ⟨j, w, h1, h2⟩ := mloc_mem.mp hq
  rw [Nat.zero_add] at h2
  by_cases hji : j = i
  · subst hji
    have hl : j < loc.length := by
      have := (List.getElem?_eq_some_iff.mp h1).1
      rwa [List.length_set] at this
    rw [List.getElem?_set_self hl] at h1
    cases h1
    rw [h2]
    exact List.mem_cons_self
  · rw [List.getElem?_set_ne (Ne.symm hji)] at h1
    refine List.mem_cons_of_mem _ (List.mem_filter.mpr ⟨mloc_mem.mpr ⟨j, w, h1, by rw [h2, Nat.zero_add]⟩, ?_⟩)
    rw [h2]
    simp only [mtr_cat, Bool.and_eq_true, Bool.not_eq_true', beq_eq_false_iff_ne, ne_eq, hji, not_false_eq_true, true_and]
    cases i with
    | zero => simp
    | succ i =>
      by_cases hjj : j = i
      · subst hjj
        simp only [mok1, h1] at hok
        have := beq_iff_eq.mp hok
        simp [this]
      · simp [hjj]
theorem mloc_set2 {E : mE} {loc : mL} {i : Nat} {v : Value} (hok : mok1 loc i = true) : ∀ q ∈ mloc E 0 ((loc.set i (some v)).set (i + 1) none), q ∈ (i, mtr E v) :: (mloc E 0 loc).filter (fun q => !(q.1 == i) && (!(q.1 == i + 1) && !(q.1 + 1 == i && q.2.category == 2))) := by
  intro q hq
  obtain ⟨j, w, h1, h2⟩ := mloc_mem.mp hq
  rw [Nat.zero_add] at h2
  have hj1 : j ≠ i + 1 := by
    rintro rfl
    by_cases hl : i + 1 < (loc.set i (some v)).length
    · rw [List.getElem?_set_self hl] at h1; cases h1
    · rw [List.getElem?_eq_none (by rw [List.length_set]; omega)] at h1; cases h1
  rw [List.getElem?_set_ne (Ne.symm hj1)] at h1
  by_cases hji : j = i
  · subst hji
    have hl : j < loc.length := by
      have := (List.getElem?_eq_some_iff.mp h1).1
      rwa [List.length_set] at this
    rw [List.getElem?_set_self hl] at h1
    cases h1
    rw [h2]
    exact List.mem_cons_self
  · rw [List.getElem?_set_ne (Ne.symm hji)] at h1
    refine List.mem_cons_of_mem _ (List.mem_filter.mpr ⟨mloc_mem.mpr ⟨j, w, h1, by rw [h2, Nat.zero_add]⟩, ?_⟩)
    rw [h2]
    simp only [mtr_cat, Bool.and_eq_true, Bool.not_eq_true', beq_eq_false_iff_ne, ne_eq, hji, hj1, not_false_eq_true, true_and]
    cases i with
    | zero => simp
    | succ i =>
      by_cases hjj : j = i
      · subst hjj
        simp only [mok1, h1] at hok
        have := beq_iff_eq.mp hok
        simp [this]
      · simp [hjj]
theorem mloc_drop {E : mE} {loc : mL} {i : Nat} : ∀ q ∈ mloc E 0 (loc.set i none), q ∈ mloc E 0 loc := by
  intro q hq
  obtain ⟨j, w, h1, h2⟩ := mloc_mem.mp hq
  refine mloc_mem.mpr ⟨j, w, ?_, h2⟩
  by_cases hji : j = i
  · subst hji
    by_cases hl : j < loc.length
    · rw [List.getElem?_set_self hl] at h1; cases h1
    · rw [List.getElem?_eq_none (by rw [List.length_set]; omega)] at h1; cases h1
  · rwa [List.getElem?_set_ne (Ne.symm hji)] at h1
/-! the judgements: from a place of a method's code, and of a method called -/
def mretI (ret : Option FieldType) (r : Option Value) (i : Instr) (st : List Value) : Prop := match r with
  | none => i = .return_ ∧ st = [] ∧ ret = none
  | some (.int v) => i = .ireturn ∧ st = [.int v] ∧ ∃ ty, ret = some ty ∧ narrow ty (.int v) = .int v
  | some (.long v) => i = .lreturn ∧ st = [.long v] ∧ ret = some .long
  | _ => False
def mCtx (me : mMe) (D : va_G) (d mc ms : Nat) (p : Program) (R : Room) (s : State) (m : MethodId) (args : Array Value) (meth : Method) (c : Code) : Prop :=
  p.tables.exec = Jvm.exec ∧ c.code = me.2.1 ∧ c.maxLocals = me.2.2.1 ∧ s.vm.findClass me.1.cls = some m.cls ∧ (∀ w ∈ mT0, w.before args s = true) ∧ mK D s ∧ meth.name = me.1.name ∧ d ≤ R.frames ∧ 40 * d ≤ R.locals ∧ mc ≤ R.cells ∧ ms ≤ R.slots
def mRet (me : mMe) (E : mE) (D : va_G) (mc ms : Nat) (r : Option Value) (Mf : mM) (p : Program) (l : Launch) (e : Env) (R : Room) (s : State) (m : MethodId) (args : Array Value) (below : List Frame) (meth : Method) (c : Code) (Z : State → Prop) : Prop :=
  ∀ (H : Heap) (locs : List Loc) (k n : Nat) (ls : Array Slot) (pc : Nat) (st : List Value) (i : Instr), mHold E D s Mf H → (∀ q ∈ locs, E.2 ≤ q.base) → k ≤ mc → n ≤ ms → mretI me.2.2.2 r i st → decode me.2.1 pc = .ok (i, 1) → W p l e R s m args below meth c H locs k n Z (F0 m pc ls st)
def Ev (me : mMe) (E : mE) (d mc ms : Nat) (r : Option Value) (Mf : mM) (pc : Nat) (loc : mL) (stk : List Value) (M : mM) (k n : Nat) : Prop :=
  ∀ (D : va_G) (p : Program) (l : Launch) (e : Env) (R : Room) (s : State) (m : MethodId) (args : Array Value) (below : List Frame) (meth : Method) (c : Code) (Z : State → Prop),
    mCtx me D d mc ms p R s m args meth c → mRet me E D mc ms r Mf p l e R s m args below meth c Z →
    ∀ (H : Heap) (locs : List Loc) (ls : Array Slot), mHold E D s M H → (∀ q ∈ locs, E.2 ≤ q.base) → k ≤ mc → n ≤ ms → lv_has ls me.2.2.1 (mloc E 0 loc) → W p l e R s m args below meth c H locs k n Z (F0 m pc ls (stk.map (mtr E)))
def mQc (E : mE) (D : va_G) (r : Option Value) (Mf : mM) : Array Value → State → Outcome → State → Prop := fun _ _ o t => o = .returned (r.map (mtr E)) ∧ mHold E D t Mf t.heap
def mPc (E : mE) (D : va_G) (vs : List Value) (M : mM) : Array Value → State → Prop := va_Pc (vs.map (mtr E)) (fun U => mHold E D U M U.heap ∧ mK D U)
def EvC (me : mMe) (E : mE) (d mc ms : Nat) (vs : List Value) (M : mM) (r : Option Value) (Mf : mM) : Prop :=
  ∀ (D : va_G) (l : Launch), Met l me.1 (mws me) (mrm d mc ms) (mPc E D vs M) (mQc E D r Mf) mc ms (fun q => E.2 ≤ q)
theorem EvC.of {me : mMe} {E : mE} {d mc ms : Nat} {vs : List Value} {M Mf : mM} {r : Option Value} (loc : mL) (hy : plainName me.1.cls = true) (hent : mloc E 0 loc = lv_args 0 (vs.map (mtr E))) (hsz : (lg_sl (vs.map (mtr E))).length ≤ me.2.2.1)
    (h : Ev me E d mc ms r Mf 0 loc [] M 0 0) : EvC me E d mc ms vs M r Mf := by
  intro D l
  refine Met.ofW (cc := me.2.1) (maxL := me.2.2.1) (ret := me.2.2.2) hy rfl ?_
  intro p e s m args below meth c s₁ B hml hv
  obtain ⟨rfl, hH, hK⟩ := hv
  have hts := atoms_spec (ws := mws me) B.pre
  have hl := lv_entry (vs.map (mtr E)) (n := me.2.2.1) hsz
  rw [lg_entry_eq]
  generalize (lg_sl (vs.map (mtr E)) ++ List.replicate (me.2.2.1 - (lg_sl (vs.map (mtr E))).length) Slot.unset).toArray = ls at hl ⊢
  have hr := B.returns
  have hlocks := B.notSynchronized
  refine h D p l e _ s m _ below meth c _ ⟨B.exec, B.bytes, hml, findClass_of_methodNamed B.named, fun w hw => hts w (List.mem_cons_of_mem _ hw), hK, (name_of_methodNamed B.named B.method).1, Nat.le_refl d, Nat.le_refl _, Nat.le_refl mc, Nat.le_refl ms⟩ ?_ s.heap [] ls hH (fun _ h => by cases h) (Nat.zero_le _) (Nat.zero_le _) (by rw [hent]; exact hl)
  intro H locs k n ls pc st i hH' hL hk hn hret hd
  refine W.widen hk hn ?_
  cases r with
  | none =>
    obtain ⟨rfl, rfl, hr2⟩ := hret
    exact W.vret B.exec B.bytes (hr.trans hr2) (fun t ht hW => ⟨rfl, by rw [ht]; exact hH'.moved hW.alike⟩) hL hd
  | some v =>
    cases v with
    | int v =>
      obtain ⟨rfl, rfl, ty, hr2, hn⟩ := hret
      exact W.zret B.exec B.bytes (hr.trans hr2) hn (fun t ht hW => ⟨rfl, by rw [ht]; exact hH'.moved hW.alike⟩) hL hd
    | long v =>
      obtain ⟨rfl, rfl, hr2⟩ := hret
      exact W.lret B.exec B.bytes (hr.trans hr2) (fun t ht hW => ⟨rfl, by rw [ht]; exact hH'.moved hW.alike⟩) hL hd
    | float _ => exact absurd hret (fun h => h)
    | double _ => exact absurd hret (fun h => h)
    | null => exact absurd hret (fun h => h)
    | ref _ => exact absurd hret (fun h => h)
    | retAddr _ => exact absurd hret (fun h => h)
end
section
/-! ===== rules of the small machine: one an instruction ===== -/
section MJ
variable {me : mMe} {E : mE} {d mc ms : Nat} {r : Option Value} {Mf : mM} {pc : Nat} {loc : mL} {stk : List Value} {M : mM} {k n : Nat}
theorem Ev_iconst {i : Int} {v : Int32} (hv : Int32.ofInt i = v) (hd : decode me.2.1 pc = .ok (.iconst i, 1)) (h : Ev me E d mc ms r Mf (pc + 1) loc (.int v :: stk) M k n) : Ev me E d mc ms r Mf pc loc (stk) M k n := by
  intro D p l e R s m args below meth c Z C Rt H locs ls hH hL hk hn hl
  exact lv_iconst C.1 C.2.1 hd hv (h D p l e R s m args below meth c Z C Rt H locs ls hH hL hk hn hl)
theorem Ev_bipush {i : Int} {v : Int32} (hv : (Int8.ofInt i).toInt32 = v) (hd : decode me.2.1 pc = .ok (.bipush i, 2)) (h : Ev me E d mc ms r Mf (pc + 2) loc (.int v :: stk) M k n) : Ev me E d mc ms r Mf pc loc (stk) M k n := by
  intro D p l e R s m args below meth c Z C Rt H locs ls hH hL hk hn hl
  exact lv_bipush C.1 C.2.1 hd hv (h D p l e R s m args below meth c Z C Rt H locs ls hH hL hk hn hl)
theorem Ev_sipush {i : Int} {v : Int32} (hv : (Int16.ofInt i).toInt32 = v) (hd : decode me.2.1 pc = .ok (.sipush i, 3)) (h : Ev me E d mc ms r Mf (pc + 3) loc (.int v :: stk) M k n) : Ev me E d mc ms r Mf pc loc (stk) M k n := by
  intro D p l e R s m args below meth c Z C Rt H locs ls hH hL hk hn hl
  exact lv_sipush C.1 C.2.1 hd hv (h D p l e R s m args below meth c Z C Rt H locs ls hH hL hk hn hl)
theorem Ev_lconst {i : Fin 2} {v : Int64} (hv : Int64.ofNat (i : Nat) = v) (hd : decode me.2.1 pc = .ok (.lconst i, 1)) (h : Ev me E d mc ms r Mf (pc + 1) loc (.long v :: stk) M k n) : Ev me E d mc ms r Mf pc loc (stk) M k n := by
  intro D p l e R s m args below meth c Z C Rt H locs ls hH hL hk hn hl
  exact lv_lconst C.1 C.2.1 hd hv (h D p l e R s m args below meth c Z C Rt H locs ls hH hL hk hn hl)
theorem Ev_iload_n {i : Fin 4} {x : Int32} (hi : loc[(i : Nat)]? = some (some (.int x))) (hd : decode me.2.1 pc = .ok (.iload_n i, 1)) (h : Ev me E d mc ms r Mf (pc + 1) loc (.int x :: stk) M k n) : Ev me E d mc ms r Mf pc loc (stk) M k n := by
  intro D p l e R s m args below meth c Z C Rt H locs ls hH hL hk hn hl
  exact lv_iload_n C.1 C.2.1 hd rfl (mloc_at hl hi) (h D p l e R s m args below meth c Z C Rt H locs ls hH hL hk hn hl)
theorem Ev_iload {i : Nat} {x : Int32} (hi : loc[i]? = some (some (.int x))) (hd : decode me.2.1 pc = .ok (.iload i, 2)) (h : Ev me E d mc ms r Mf (pc + 2) loc (.int x :: stk) M k n) : Ev me E d mc ms r Mf pc loc (stk) M k n := by
  intro D p l e R s m args below meth c Z C Rt H locs ls hH hL hk hn hl
  exact lv_iload C.1 C.2.1 hd (mloc_at hl hi) (h D p l e R s m args below meth c Z C Rt H locs ls hH hL hk hn hl)
theorem Ev_lload_n {i : Fin 4} {x : Int64} (hi : loc[(i : Nat)]? = some (some (.long x))) (hd : decode me.2.1 pc = .ok (.lload_n i, 1)) (h : Ev me E d mc ms r Mf (pc + 1) loc (.long x :: stk) M k n) : Ev me E d mc ms r Mf pc loc (stk) M k n := by
  intro D p l e R s m args below meth c Z C Rt H locs ls hH hL hk hn hl
  exact lv_lload_n C.1 C.2.1 hd rfl (mloc_at hl hi) (h D p l e R s m args below meth c Z C Rt H locs ls hH hL hk hn hl)
theorem Ev_lload {i : Nat} {x : Int64} (hi : loc[i]? = some (some (.long x))) (hd : decode me.2.1 pc = .ok (.lload i, 2)) (h : Ev me E d mc ms r Mf (pc + 2) loc (.long x :: stk) M k n) : Ev me E d mc ms r Mf pc loc (stk) M k n := by
  intro D p l e R s m args below meth c Z C Rt H locs ls hH hL hk hn hl
  exact lv_lload C.1 C.2.1 hd (mloc_at hl hi) (h D p l e R s m args below meth c Z C Rt H locs ls hH hL hk hn hl)
theorem Ev_aload_n {i : Fin 4} {x : Nat} (hi : loc[(i : Nat)]? = some (some (.ref x))) (hd : decode me.2.1 pc = .ok (.aload_n i, 1)) (h : Ev me E d mc ms r Mf (pc + 1) loc (.ref x :: stk) M k n) : Ev me E d mc ms r Mf pc loc (stk) M k n := by
  intro D p l e R s m args below meth c Z C Rt H locs ls hH hL hk hn hl
  exact lv_aload_n C.1 C.2.1 hd rfl (mloc_at hl hi) (h D p l e R s m args below meth c Z C Rt H locs ls hH hL hk hn hl)
theorem Ev_aload {i : Nat} {x : Nat} (hi : loc[i]? = some (some (.ref x))) (hd : decode me.2.1 pc = .ok (.aload i, 2)) (h : Ev me E d mc ms r Mf (pc + 2) loc (.ref x :: stk) M k n) : Ev me E d mc ms r Mf pc loc (stk) M k n := by
  intro D p l e R s m args below meth c Z C Rt H locs ls hH hL hk hn hl
  exact lv_aload C.1 C.2.1 hd (mloc_at hl hi) (h D p l e R s m args below meth c Z C Rt H locs ls hH hL hk hn hl)
theorem Ev_istore_n {i : Fin 4} {x : Int32} {loc2 : mL} (hi : (i : Nat) < me.2.2.1) (hok : mok1 loc i = true) (hl2 : loc.set ((i : Nat)) (some (.int x)) = loc2) (hd : decode me.2.1 pc = .ok (.istore_n i, 1)) (h : Ev me E d mc ms r Mf (pc + 1) loc2 stk M k n) : Ev me E d mc ms r Mf pc loc (.int x :: stk) M k n := by
  intro D p l e R s m args below meth c Z C Rt H locs ls hH hL hk hn hl
  subst hl2
  exact lv_istore_n C.1 C.2.1 hd rfl hl hi rfl (fun ls' hl' => h D p l e R s m args below meth c Z C Rt H locs ls' hH hL hk hn (hl'.mono (mloc_set1 hok)))
theorem Ev_istore {i : Nat} {x : Int32} {loc2 : mL} (hi : i < me.2.2.1) (hok : mok1 loc i = true) (hl2 : loc.set (i) (some (.int x)) = loc2) (hd : decode me.2.1 pc = .ok (.istore i, 2)) (h : Ev me E d mc ms r Mf (pc + 2) loc2 stk M k n) : Ev me E d mc ms r Mf pc loc (.int x :: stk) M k n := by
  intro D p l e R s m args below meth c Z C Rt H locs ls hH hL hk hn hl
  subst hl2
  exact lv_istore C.1 C.2.1 hd hl hi rfl (fun ls' hl' => h D p l e R s m args below meth c Z C Rt H locs ls' hH hL hk hn (hl'.mono (mloc_set1 hok)))
theorem Ev_lstore_n {i : Fin 4} {x : Int64} {loc2 : mL} (hi : (i : Nat) + 1 < me.2.2.1) (hok : mok1 loc i = true) (hl2 : (loc.set ((i : Nat)) (some (.long x))).set ((i : Nat) + 1) none = loc2) (hd : decode me.2.1 pc = .ok (.lstore_n i, 1)) (h : Ev me E d mc ms r Mf (pc + 1) loc2 stk M k n) : Ev me E d mc ms r Mf pc loc (.long x :: stk) M k n := by
  intro D p l e R s m args below meth c Z C Rt H locs ls hH hL hk hn hl
  subst hl2
  exact lv_lstore_n C.1 C.2.1 hd rfl hl hi rfl (fun ls' hl' => h D p l e R s m args below meth c Z C Rt H locs ls' hH hL hk hn (hl'.mono (mloc_set2 hok)))
theorem Ev_lstore {i : Nat} {x : Int64} {loc2 : mL} (hi : i + 1 < me.2.2.1) (hok : mok1 loc i = true) (hl2 : (loc.set (i) (some (.long x))).set (i + 1) none = loc2) (hd : decode me.2.1 pc = .ok (.lstore i, 2)) (h : Ev me E d mc ms r Mf (pc + 2) loc2 stk M k n) : Ev me E d mc ms r Mf pc loc (.long x :: stk) M k n := by
  intro D p l e R s m args below meth c Z C Rt H locs ls hH hL hk hn hl
  subst hl2
  exact lv_lstore C.1 C.2.1 hd hl hi rfl (fun ls' hl' => h D p l e R s m args below meth c Z C Rt H locs ls' hH hL hk hn (hl'.mono (mloc_set2 hok)))
theorem Ev_astore_n {i : Fin 4} {x : Nat} {loc2 : mL} (hi : (i : Nat) < me.2.2.1) (hok : mok1 loc i = true) (hl2 : loc.set ((i : Nat)) (some (.ref x)) = loc2) (hd : decode me.2.1 pc = .ok (.astore_n i, 1)) (h : Ev me E d mc ms r Mf (pc + 1) loc2 stk M k n) : Ev me E d mc ms r Mf pc loc (.ref x :: stk) M k n := by
  intro D p l e R s m args below meth c Z C Rt H locs ls hH hL hk hn hl
  subst hl2
  exact lv_astore_n C.1 C.2.1 hd rfl hl hi rfl (fun ls' hl' => h D p l e R s m args below meth c Z C Rt H locs ls' hH hL hk hn (hl'.mono (mloc_set1 hok)))
theorem Ev_astore {i : Nat} {x : Nat} {loc2 : mL} (hi : i < me.2.2.1) (hok : mok1 loc i = true) (hl2 : loc.set (i) (some (.ref x)) = loc2) (hd : decode me.2.1 pc = .ok (.astore i, 2)) (h : Ev me E d mc ms r Mf (pc + 2) loc2 stk M k n) : Ev me E d mc ms r Mf pc loc (.ref x :: stk) M k n := by
  intro D p l e R s m args below meth c Z C Rt H locs ls hH hL hk hn hl
  subst hl2
  exact lv_astore C.1 C.2.1 hd hl hi rfl (fun ls' hl' => h D p l e R s m args below meth c Z C Rt H locs ls' hH hL hk hn (hl'.mono (mloc_set1 hok)))
theorem Ev_drop (i : Nat) {loc2 : mL} (hl2 : loc.set i none = loc2) (h : Ev me E d mc ms r Mf pc loc2 stk M k n) : Ev me E d mc ms r Mf pc loc stk M k n := by
  intro D p l e R s m args below meth c Z C Rt H locs ls hH hL hk hn hl
  subst hl2
  exact h D p l e R s m args below meth c Z C Rt H locs ls hH hL hk hn (hl.mono mloc_drop)
theorem Ev_iinc {i : Nat} {j : Int} {x v : Int32} {loc2 : mL} (hx : loc[i]? = some (some (.int x))) (hv : x + Int32.ofInt j = v) (hi : i < me.2.2.1) (hok : mok1 loc i = true) (hl2 : loc.set i (some (.int v)) = loc2) (hd : decode me.2.1 pc = .ok (.iinc i j, 3)) (h : Ev me E d mc ms r Mf (pc + 3) loc2 stk M k n) : Ev me E d mc ms r Mf pc loc stk M k n := by
  intro D p l e R s m args below meth c Z C Rt H locs ls hH hL hk hn hl
  subst hl2
  obtain ⟨q, hq⟩ := List.getElem?_of_mem (mloc_mem.mpr ⟨i, _, hx, by rw [Nat.zero_add]⟩ : (i, mtr E (.int x)) ∈ mloc E 0 loc)
  exact lv_iinc C.1 C.2.1 hd hl hq hv hi rfl (fun ls' hl' => h D p l e R s m args below meth c Z C Rt H locs ls' hH hL hk hn (hl'.mono (mloc_set1 hok)))
theorem Ev_iadd {x y : Int32} (hd : decode me.2.1 pc = .ok (.iadd, 1)) (h : Ev me E d mc ms r Mf (pc + 1) loc (.int (x + y) :: stk) M k n) : Ev me E d mc ms r Mf pc loc (.int y :: .int x :: stk) M k n := by
  intro D p l e R s m args below meth c Z C Rt H locs ls hH hL hk hn hl
  exact lv_iadd C.1 C.2.1 hd (h D p l e R s m args below meth c Z C Rt H locs ls hH hL hk hn hl)
theorem Ev_isub {x y : Int32} (hd : decode me.2.1 pc = .ok (.isub, 1)) (h : Ev me E d mc ms r Mf (pc + 1) loc (.int (x - y) :: stk) M k n) : Ev me E d mc ms r Mf pc loc (.int y :: .int x :: stk) M k n := by
  intro D p l e R s m args below meth c Z C Rt H locs ls hH hL hk hn hl
  exact lv_isub C.1 C.2.1 hd (h D p l e R s m args below meth c Z C Rt H locs ls hH hL hk hn hl)
theorem Ev_imul {x y : Int32} (hd : decode me.2.1 pc = .ok (.imul, 1)) (h : Ev me E d mc ms r Mf (pc + 1) loc (.int (x * y) :: stk) M k n) : Ev me E d mc ms r Mf pc loc (.int y :: .int x :: stk) M k n := by
  intro D p l e R s m args below meth c Z C Rt H locs ls hH hL hk hn hl
  exact lv_imul C.1 C.2.1 hd (h D p l e R s m args below meth c Z C Rt H locs ls hH hL hk hn hl)
theorem Ev_iand {x y : Int32} (hd : decode me.2.1 pc = .ok (.iand, 1)) (h : Ev me E d mc ms r Mf (pc + 1) loc (.int (x &&& y) :: stk) M k n) : Ev me E d mc ms r Mf pc loc (.int y :: .int x :: stk) M k n := by
  intro D p l e R s m args below meth c Z C Rt H locs ls hH hL hk hn hl
  exact lv_iand C.1 C.2.1 hd (h D p l e R s m args below meth c Z C Rt H locs ls hH hL hk hn hl)
theorem Ev_ior {x y : Int32} (hd : decode me.2.1 pc = .ok (.ior, 1)) (h : Ev me E d mc ms r Mf (pc + 1) loc (.int (x ||| y) :: stk) M k n) : Ev me E d mc ms r Mf pc loc (.int y :: .int x :: stk) M k n := by
  intro D p l e R s m args below meth c Z C Rt H locs ls hH hL hk hn hl
  exact lv_ior C.1 C.2.1 hd (h D p l e R s m args below meth c Z C Rt H locs ls hH hL hk hn hl)
theorem Ev_ixor {x y : Int32} (hd : decode me.2.1 pc = .ok (.ixor, 1)) (h : Ev me E d mc ms r Mf (pc + 1) loc (.int (x ^^^ y) :: stk) M k n) : Ev me E d mc ms r Mf pc loc (.int y :: .int x :: stk) M k n := by
  intro D p l e R s m args below meth c Z C Rt H locs ls hH hL hk hn hl
  exact lv_ixor C.1 C.2.1 hd (h D p l e R s m args below meth c Z C Rt H locs ls hH hL hk hn hl)
theorem Ev_ishl {x y : Int32} (hd : decode me.2.1 pc = .ok (.ishl, 1)) (h : Ev me E d mc ms r Mf (pc + 1) loc (.int (x <<< (y &&& 31)) :: stk) M k n) : Ev me E d mc ms r Mf pc loc (.int y :: .int x :: stk) M k n := by
  intro D p l e R s m args below meth c Z C Rt H locs ls hH hL hk hn hl
  exact lv_ishl C.1 C.2.1 hd (h D p l e R s m args below meth c Z C Rt H locs ls hH hL hk hn hl)
theorem Ev_ishr {x y : Int32} (hd : decode me.2.1 pc = .ok (.ishr, 1)) (h : Ev me E d mc ms r Mf (pc + 1) loc (.int (x >>> (y &&& 31)) :: stk) M k n) : Ev me E d mc ms r Mf pc loc (.int y :: .int x :: stk) M k n := by
  intro D p l e R s m args below meth c Z C Rt H locs ls hH hL hk hn hl
  exact lv_ishr C.1 C.2.1 hd (h D p l e R s m args below meth c Z C Rt H locs ls hH hL hk hn hl)
theorem Ev_ineg {x : Int32} (hd : decode me.2.1 pc = .ok (.ineg, 1)) (h : Ev me E d mc ms r Mf (pc + 1) loc (.int (-x) :: stk) M k n) : Ev me E d mc ms r Mf pc loc (.int x :: stk) M k n := by
  intro D p l e R s m args below meth c Z C Rt H locs ls hH hL hk hn hl
  exact lv_ineg C.1 C.2.1 hd (h D p l e R s m args below meth c Z C Rt H locs ls hH hL hk hn hl)
theorem Ev_idiv {x y : Int32} (hne : ¬ y = 0) (hd : decode me.2.1 pc = .ok (.idiv, 1)) (h : Ev me E d mc ms r Mf (pc + 1) loc (.int (x / y) :: stk) M k n) : Ev me E d mc ms r Mf pc loc (.int y :: .int x :: stk) M k n := by
  intro D p l e R s m args below meth c Z C Rt H locs ls hH hL hk hn hl
  exact lv_idiv C.1 C.2.1 hd hne (h D p l e R s m args below meth c Z C Rt H locs ls hH hL hk hn hl)
theorem Ev_irem {x y : Int32} (hne : ¬ y = 0) (hd : decode me.2.1 pc = .ok (.irem, 1)) (h : Ev me E d mc ms r Mf (pc + 1) loc (.int (x - x / y * y) :: stk) M k n) : Ev me E d mc ms r Mf pc loc (.int y :: .int x :: stk) M k n := by
  intro D p l e R s m args below meth c Z C Rt H locs ls hH hL hk hn hl
  exact lv_irem C.1 C.2.1 hd hne (h D p l e R s m args below meth c Z C Rt H locs ls hH hL hk hn hl)
theorem Ev_ladd {x y : Int64} (hd : decode me.2.1 pc = .ok (.ladd, 1)) (h : Ev me E d mc ms r Mf (pc + 1) loc (.long (x + y) :: stk) M k n) : Ev me E d mc ms r Mf pc loc (.long y :: .long x :: stk) M k n := by
  intro D p l e R s m args below meth c Z C Rt H locs ls hH hL hk hn hl
  exact lv_ladd C.1 C.2.1 hd (h D p l e R s m args below meth c Z C Rt H locs ls hH hL hk hn hl)
theorem Ev_lsub {x y : Int64} (hd : decode me.2.1 pc = .ok (.lsub, 1)) (h : Ev me E d mc ms r Mf (pc + 1) loc (.long (x - y) :: stk) M k n) : Ev me E d mc ms r Mf pc loc (.long y :: .long x :: stk) M k n := by
  intro D p l e R s m args below meth c Z C Rt H locs ls hH hL hk hn hl
  exact lv_lsub C.1 C.2.1 hd (h D p l e R s m args below meth c Z C Rt H locs ls hH hL hk hn hl)
theorem Ev_lmul {x y : Int64} (hd : decode me.2.1 pc = .ok (.lmul, 1)) (h : Ev me E d mc ms r Mf (pc + 1) loc (.long (x * y) :: stk) M k n) : Ev me E d mc ms r Mf pc loc (.long y :: .long x :: stk) M k n := by
  intro D p l e R s m args below meth c Z C Rt H locs ls hH hL hk hn hl
  exact lv_lmul C.1 C.2.1 hd (h D p l e R s m args below meth c Z C Rt H locs ls hH hL hk hn hl)
theorem Ev_land {x y : Int64} (hd : decode me.2.1 pc = .ok (.land, 1)) (h : Ev me E d mc ms r Mf (pc + 1) loc (.long (x &&& y) :: stk) M k n) : Ev me E d mc ms r Mf pc loc (.long y :: .long x :: stk) M k n := by
  intro D p l e R s m args below meth c Z C Rt H locs ls hH hL hk hn hl
  exact lv_land C.1 C.2.1 hd (h D p l e R s m args below meth c Z C Rt H locs ls hH hL hk hn hl)
theorem Ev_lor {x y : Int64} (hd : decode me.2.1 pc = .ok (.lor, 1)) (h : Ev me E d mc ms r Mf (pc + 1) loc (.long (x ||| y) :: stk) M k n) : Ev me E d mc ms r Mf pc loc (.long y :: .long x :: stk) M k n := by
  intro D p l e R s m args below meth c Z C Rt H locs ls hH hL hk hn hl
  exact lv_lor C.1 C.2.1 hd (h D p l e R s m args below meth c Z C Rt H locs ls hH hL hk hn hl)
theorem Ev_ldiv {x y : Int64} (hne : ¬ y = 0) (hd : decode me.2.1 pc = .ok (.ldiv, 1)) (h : Ev me E d mc ms r Mf (pc + 1) loc (.long (x / y) :: stk) M k n) : Ev me E d mc ms r Mf pc loc (.long y :: .long x :: stk) M k n := by
  intro D p l e R s m args below meth c Z C Rt H locs ls hH hL hk hn hl
  exact lv_ldiv C.1 C.2.1 hd hne (h D p l e R s m args below meth c Z C Rt H locs ls hH hL hk hn hl)
theorem Ev_lrem {x y : Int64} (hne : ¬ y = 0) (hd : decode me.2.1 pc = .ok (.lrem, 1)) (h : Ev me E d mc ms r Mf (pc + 1) loc (.long (x - x / y * y) :: stk) M k n) : Ev me E d mc ms r Mf pc loc (.long y :: .long x :: stk) M k n := by
  intro D p l e R s m args below meth c Z C Rt H locs ls hH hL hk hn hl
  exact lv_lrem C.1 C.2.1 hd hne (h D p l e R s m args below meth c Z C Rt H locs ls hH hL hk hn hl)
theorem Ev_iushr {x y : Int32} (hd : decode me.2.1 pc = .ok (.iushr, 1)) (h : Ev me E d mc ms r Mf (pc + 1) loc (.int ((x.toUInt32 >>> (y.toUInt32 &&& Int32.toUInt32 31)).toInt32) :: stk) M k n) : Ev me E d mc ms r Mf pc loc (.int y :: .int x :: stk) M k n := by
  intro D p l e R s m args below meth c Z C Rt H locs ls hH hL hk hn hl
  exact lv_iushr C.1 C.2.1 hd rfl (h D p l e R s m args below meth c Z C Rt H locs ls hH hL hk hn hl)
theorem Ev_lushr {x : Int64} {y : Int32} (hd : decode me.2.1 pc = .ok (.lushr, 1)) (h : Ev me E d mc ms r Mf (pc + 1) loc (.long ((x.toUInt64 >>> (y.toInt64.toUInt64 &&& Int64.toUInt64 63)).toInt64) :: stk) M k n) : Ev me E d mc ms r Mf pc loc (.int y :: .long x :: stk) M k n := by
  intro D p l e R s m args below meth c Z C Rt H locs ls hH hL hk hn hl
  exact lv_lushr C.1 C.2.1 hd rfl (h D p l e R s m args below meth c Z C Rt H locs ls hH hL hk hn hl)
theorem Ev_lshl {x : Int64} {y : Int32} (hd : decode me.2.1 pc = .ok (.lshl, 1)) (h : Ev me E d mc ms r Mf (pc + 1) loc (.long (x <<< (y.toInt64 &&& 63)) :: stk) M k n) : Ev me E d mc ms r Mf pc loc (.int y :: .long x :: stk) M k n := by
  intro D p l e R s m args below meth c Z C Rt H locs ls hH hL hk hn hl
  exact lv_lshl C.1 C.2.1 hd rfl (h D p l e R s m args below meth c Z C Rt H locs ls hH hL hk hn hl)
theorem Ev_i2l {x : Int32} (hd : decode me.2.1 pc = .ok (.i2l, 1)) (h : Ev me E d mc ms r Mf (pc + 1) loc (.long x.toInt64 :: stk) M k n) : Ev me E d mc ms r Mf pc loc (.int x :: stk) M k n := by
  intro D p l e R s m args below meth c Z C Rt H locs ls hH hL hk hn hl
  exact lv_i2l C.1 C.2.1 hd rfl (h D p l e R s m args below meth c Z C Rt H locs ls hH hL hk hn hl)
theorem Ev_l2i {x : Int64} (hd : decode me.2.1 pc = .ok (.l2i, 1)) (h : Ev me E d mc ms r Mf (pc + 1) loc (.int x.toInt32 :: stk) M k n) : Ev me E d mc ms r Mf pc loc (.long x :: stk) M k n := by
  intro D p l e R s m args below meth c Z C Rt H locs ls hH hL hk hn hl
  exact lv_l2i C.1 C.2.1 hd rfl (h D p l e R s m args below meth c Z C Rt H locs ls hH hL hk hn hl)
theorem Ev_lcmp {x y : Int64} (hd : decode me.2.1 pc = .ok (.lcmp, 1)) (h : Ev me E d mc ms r Mf (pc + 1) loc (.int (lg_cmp x y) :: stk) M k n) : Ev me E d mc ms r Mf pc loc (.long y :: .long x :: stk) M k n := by
  intro D p l e R s m args below meth c Z C Rt H locs ls hH hL hk hn hl
  exact W.lcmp C.1 C.2.1 hd (h D p l e R s m args below meth c Z C Rt H locs ls hH hL hk hn hl)
theorem Ev_dup {v : Value} (hv : v.category = 1) (hd : decode me.2.1 pc = .ok (.dup, 1)) (h : Ev me E d mc ms r Mf (pc + 1) loc (v :: v :: stk) M k n) : Ev me E d mc ms r Mf pc loc (v :: stk) M k n := by
  intro D p l e R s m args below meth c Z C Rt H locs ls hH hL hk hn hl
  exact lv_dup C.1 C.2.1 hd (by rw [mtr_cat]; exact hv) (h D p l e R s m args below meth c Z C Rt H locs ls hH hL hk hn hl)
theorem Ev_pop {v : Value} (hv : v.category = 1) (hd : decode me.2.1 pc = .ok (.pop, 1)) (h : Ev me E d mc ms r Mf (pc + 1) loc (stk) M k n) : Ev me E d mc ms r Mf pc loc (v :: stk) M k n := by
  intro D p l e R s m args below meth c Z C Rt H locs ls hH hL hk hn hl
  exact lv_pop C.1 C.2.1 hd (by rw [mtr_cat]; exact hv) (h D p l e R s m args below meth c Z C Rt H locs ls hH hL hk hn hl)
theorem Ev_dup2 {v w : Value} (hv : v.category = 1) (hw : w.category = 1) (hd : decode me.2.1 pc = .ok (.dup2, 1)) (h : Ev me E d mc ms r Mf (pc + 1) loc (v :: w :: v :: w :: stk) M k n) : Ev me E d mc ms r Mf pc loc (v :: w :: stk) M k n := by
  intro D p l e R s m args below meth c Z C Rt H locs ls hH hL hk hn hl
  exact lv_dup2_11 C.1 C.2.1 hd (by rw [mtr_cat]; exact hv) (by rw [mtr_cat]; exact hw) (h D p l e R s m args below meth c Z C Rt H locs ls hH hL hk hn hl)
theorem Ev_if_eq {x : Int32} {off : Int} {tgt : Nat} (hd : decode me.2.1 pc = .ok (.ifCond .eq off, 3)) (ht : (pc : Int) + off = (tgt : Int)) (h1 : x = 0 → Ev me E d mc ms r Mf tgt loc stk M k n) (h2 : ¬ x = 0 → Ev me E d mc ms r Mf (pc + 3) loc stk M k n) : Ev me E d mc ms r Mf pc loc (.int x :: stk) M k n := by
  intro D p l e R s m args below meth c Z C Rt H locs ls hH hL hk hn hl
  exact lv_if_eq C.1 C.2.1 hd ht (fun q => h1 q D p l e R s m args below meth c Z C Rt H locs ls hH hL hk hn hl) (fun q => h2 q D p l e R s m args below meth c Z C Rt H locs ls hH hL hk hn hl)
theorem Ev_icmp_eq {x y : Int32} {off : Int} {tgt : Nat} (hd : decode me.2.1 pc = .ok (.if_icmp .eq off, 3)) (ht : (pc : Int) + off = (tgt : Int)) (h1 : x = y → Ev me E d mc ms r Mf tgt loc stk M k n) (h2 : ¬ x = y → Ev me E d mc ms r Mf (pc + 3) loc stk M k n) : Ev me E d mc ms r Mf pc loc (.int y :: .int x :: stk) M k n := by
  intro D p l e R s m args below meth c Z C Rt H locs ls hH hL hk hn hl
  exact lv_icmp_eq C.1 C.2.1 hd ht (fun q => h1 q D p l e R s m args below meth c Z C Rt H locs ls hH hL hk hn hl) (fun q => h2 q D p l e R s m args below meth c Z C Rt H locs ls hH hL hk hn hl)
theorem Ev_if_ne {x : Int32} {off : Int} {tgt : Nat} (hd : decode me.2.1 pc = .ok (.ifCond .ne off, 3)) (ht : (pc : Int) + off = (tgt : Int)) (h1 : ¬ x = 0 → Ev me E d mc ms r Mf tgt loc stk M k n) (h2 : x = 0 → Ev me E d mc ms r Mf (pc + 3) loc stk M k n) : Ev me E d mc ms r Mf pc loc (.int x :: stk) M k n := by
  intro D p l e R s m args below meth c Z C Rt H locs ls hH hL hk hn hl
  exact lv_if_ne C.1 C.2.1 hd ht (fun q => h1 q D p l e R s m args below meth c Z C Rt H locs ls hH hL hk hn hl) (fun q => h2 q D p l e R s m args below meth c Z C Rt H locs ls hH hL hk hn hl)
theorem Ev_icmp_ne {x y : Int32} {off : Int} {tgt : Nat} (hd : decode me.2.1 pc = .ok (.if_icmp .ne off, 3)) (ht : (pc : Int) + off = (tgt : Int)) (h1 : ¬ x = y → Ev me E d mc ms r Mf tgt loc stk M k n) (h2 : x = y → Ev me E d mc ms r Mf (pc + 3) loc stk M k n) : Ev me E d mc ms r Mf pc loc (.int y :: .int x :: stk) M k n := by
  intro D p l e R s m args below meth c Z C Rt H locs ls hH hL hk hn hl
  exact lv_icmp_ne C.1 C.2.1 hd ht (fun q => h1 q D p l e R s m args below meth c Z C Rt H locs ls hH hL hk hn hl) (fun q => h2 q D p l e R s m args below meth c Z C Rt H locs ls hH hL hk hn hl)
theorem Ev_if_lt {x : Int32} {off : Int} {tgt : Nat} (hd : decode me.2.1 pc = .ok (.ifCond .lt off, 3)) (ht : (pc : Int) + off = (tgt : Int)) (h1 : x < 0 → Ev me E d mc ms r Mf tgt loc stk M k n) (h2 : ¬ x < 0 → Ev me E d mc ms r Mf (pc + 3) loc stk M k n) : Ev me E d mc ms r Mf pc loc (.int x :: stk) M k n := by
  intro D p l e R s m args below meth c Z C Rt H locs ls hH hL hk hn hl
  exact lv_if_lt C.1 C.2.1 hd ht (fun q => h1 q D p l e R s m args below meth c Z C Rt H locs ls hH hL hk hn hl) (fun q => h2 q D p l e R s m args below meth c Z C Rt H locs ls hH hL hk hn hl)
theorem Ev_icmp_lt {x y : Int32} {off : Int} {tgt : Nat} (hd : decode me.2.1 pc = .ok (.if_icmp .lt off, 3)) (ht : (pc : Int) + off = (tgt : Int)) (h1 : x < y → Ev me E d mc ms r Mf tgt loc stk M k n) (h2 : ¬ x < y → Ev me E d mc ms r Mf (pc + 3) loc stk M k n) : Ev me E d mc ms r Mf pc loc (.int y :: .int x :: stk) M k n := by
  intro D p l e R s m args below meth c Z C Rt H locs ls hH hL hk hn hl
  exact lv_icmp_lt C.1 C.2.1 hd ht (fun q => h1 q D p l e R s m args below meth c Z C Rt H locs ls hH hL hk hn hl) (fun q => h2 q D p l e R s m args below meth c Z C Rt H locs ls hH hL hk hn hl)
theorem Ev_if_ge {x : Int32} {off : Int} {tgt : Nat} (hd : decode me.2.1 pc = .ok (.ifCond .ge off, 3)) (ht : (pc : Int) + off = (tgt : Int)) (h1 : 0 ≤ x → Ev me E d mc ms r Mf tgt loc stk M k n) (h2 : ¬ 0 ≤ x → Ev me E d mc ms r Mf (pc + 3) loc stk M k n) : Ev me E d mc ms r Mf pc loc (.int x :: stk) M k n := by
  intro D p l e R s m args below meth c Z C Rt H locs ls hH hL hk hn hl
  exact lv_if_ge C.1 C.2.1 hd ht (fun q => h1 q D p l e R s m args below meth c Z C Rt H locs ls hH hL hk hn hl) (fun q => h2 q D p l e R s m args below meth c Z C Rt H locs ls hH hL hk hn hl)
theorem Ev_icmp_ge {x y : Int32} {off : Int} {tgt : Nat} (hd : decode me.2.1 pc = .ok (.if_icmp .ge off, 3)) (ht : (pc : Int) + off = (tgt : Int)) (h1 : y ≤ x → Ev me E d mc ms r Mf tgt loc stk M k n) (h2 : ¬ y ≤ x → Ev me E d mc ms r Mf (pc + 3) loc stk M k n) : Ev me E d mc ms r Mf pc loc (.int y :: .int x :: stk) M k n := by
  intro D p l e R s m args below meth c Z C Rt H locs ls hH hL hk hn hl
  exact lv_icmp_ge C.1 C.2.1 hd ht (fun q => h1 q D p l e R s m args below meth c Z C Rt H locs ls hH hL hk hn hl) (fun q => h2 q D p l e R s m args below meth c Z C Rt H locs ls hH hL hk hn hl)
theorem Ev_if_gt {x : Int32} {off : Int} {tgt : Nat} (hd : decode me.2.1 pc = .ok (.ifCond .gt off, 3)) (ht : (pc : Int) + off = (tgt : Int)) (h1 : 0 < x → Ev me E d mc ms r Mf tgt loc stk M k n) (h2 : ¬ 0 < x → Ev me E d mc ms r Mf (pc + 3) loc stk M k n) : Ev me E d mc ms r Mf pc loc (.int x :: stk) M k n := by
  intro D p l e R s m args below meth c Z C Rt H locs ls hH hL hk hn hl
  exact lv_if_gt C.1 C.2.1 hd ht (fun q => h1 q D p l e R s m args below meth c Z C Rt H locs ls hH hL hk hn hl) (fun q => h2 q D p l e R s m args below meth c Z C Rt H locs ls hH hL hk hn hl)
theorem Ev_icmp_gt {x y : Int32} {off : Int} {tgt : Nat} (hd : decode me.2.1 pc = .ok (.if_icmp .gt off, 3)) (ht : (pc : Int) + off = (tgt : Int)) (h1 : y < x → Ev me E d mc ms r Mf tgt loc stk M k n) (h2 : ¬ y < x → Ev me E d mc ms r Mf (pc + 3) loc stk M k n) : Ev me E d mc ms r Mf pc loc (.int y :: .int x :: stk) M k n := by
  intro D p l e R s m args below meth c Z C Rt H locs ls hH hL hk hn hl
  exact lv_icmp_gt C.1 C.2.1 hd ht (fun q => h1 q D p l e R s m args below meth c Z C Rt H locs ls hH hL hk hn hl) (fun q => h2 q D p l e R s m args below meth c Z C Rt H locs ls hH hL hk hn hl)
theorem Ev_if_le {x : Int32} {off : Int} {tgt : Nat} (hd : decode me.2.1 pc = .ok (.ifCond .le off, 3)) (ht : (pc : Int) + off = (tgt : Int)) (h1 : x ≤ 0 → Ev me E d mc ms r Mf tgt loc stk M k n) (h2 : ¬ x ≤ 0 → Ev me E d mc ms r Mf (pc + 3) loc stk M k n) : Ev me E d mc ms r Mf pc loc (.int x :: stk) M k n := by
  intro D p l e R s m args below meth c Z C Rt H locs ls hH hL hk hn hl
  exact lv_if_le C.1 C.2.1 hd ht (fun q => h1 q D p l e R s m args below meth c Z C Rt H locs ls hH hL hk hn hl) (fun q => h2 q D p l e R s m args below meth c Z C Rt H locs ls hH hL hk hn hl)
theorem Ev_icmp_le {x y : Int32} {off : Int} {tgt : Nat} (hd : decode me.2.1 pc = .ok (.if_icmp .le off, 3)) (ht : (pc : Int) + off = (tgt : Int)) (h1 : x ≤ y → Ev me E d mc ms r Mf tgt loc stk M k n) (h2 : ¬ x ≤ y → Ev me E d mc ms r Mf (pc + 3) loc stk M k n) : Ev me E d mc ms r Mf pc loc (.int y :: .int x :: stk) M k n := by
  intro D p l e R s m args below meth c Z C Rt H locs ls hH hL hk hn hl
  exact lv_icmp_le C.1 C.2.1 hd ht (fun q => h1 q D p l e R s m args below meth c Z C Rt H locs ls hH hL hk hn hl) (fun q => h2 q D p l e R s m args below meth c Z C Rt H locs ls hH hL hk hn hl)
theorem Ev_goto {off : Int} {tgt : Nat} (hd : decode me.2.1 pc = .ok (.goto off, 3)) (ht : (pc : Int) + off = (tgt : Int)) (h : Ev me E d mc ms r Mf tgt loc stk M k n) : Ev me E d mc ms r Mf pc loc stk M k n := by
  intro D p l e R s m args below meth c Z C Rt H locs ls hH hL hk hn hl
  exact lv_goto C.1 C.2.1 hd ht (h D p l e R s m args below meth c Z C Rt H locs ls hH hL hk hn hl)
theorem Ev_tswIn {x : Int32} {dflt lo hi : Int} {offs : Array Int} {len : Nat} {off : Int} {tgt : Nat} (hd : decode me.2.1 pc = .ok (.tableswitch dflt lo hi offs, len)) (h1 : ¬ x.toInt < lo) (h2 : ¬ hi < x.toInt) (ho : offs[(x.toInt - lo).toNat]? = some off) (ht : (pc : Int) + off = (tgt : Int)) (h : Ev me E d mc ms r Mf tgt loc stk M k n) : Ev me E d mc ms r Mf pc loc (.int x :: stk) M k n := by
  intro D p l e R s m args below meth c Z C Rt H locs ls hH hL hk hn hl
  exact lv_tableIn C.1 C.2.1 hd h1 h2 ho ht (h D p l e R s m args below meth c Z C Rt H locs ls hH hL hk hn hl)
theorem Ev_tswOut {x : Int32} {dflt lo hi : Int} {offs : Array Int} {len : Nat} {tgt : Nat} (hd : decode me.2.1 pc = .ok (.tableswitch dflt lo hi offs, len)) (h1 : x.toInt < lo ∨ hi < x.toInt) (ht : (pc : Int) + dflt = (tgt : Int)) (h : Ev me E d mc ms r Mf tgt loc stk M k n) : Ev me E d mc ms r Mf pc loc (.int x :: stk) M k n := by
  intro D p l e R s m args below meth c Z C Rt H locs ls hH hL hk hn hl
  exact lv_tableOut C.1 C.2.1 hd h1 ht (h D p l e R s m args below meth c Z C Rt H locs ls hH hL hk hn hl)
theorem Ev_ldc2 {idx : Nat} {v : Int64} (hw : Cond.constantLong me.1.cls idx v ∈ mT0) (hd : decode me.2.1 pc = .ok (.ldc2_w idx, 3)) (h : Ev me E d mc ms r Mf (pc + 3) loc (.long v :: stk) M k n) : Ev me E d mc ms r Mf pc loc stk M k n := by
  intro D p l e R s m args below meth c Z C Rt H locs ls hH hL hk hn hl
  exact lv_ldc2 C.1 C.2.1 C.2.2.2.1 (C.2.2.2.2.1 _ hw) hd (h D p l e R s m args below meth c Z C Rt H locs ls hH hL hk hn hl)
theorem Ev_ldcw {idx : Nat} {v : Int32} (hw : Cond.constant me.1.cls idx v ∈ mT0) (hd : decode me.2.1 pc = .ok (.ldc_w idx, 3)) (h : Ev me E d mc ms r Mf (pc + 3) loc (.int v :: stk) M k n) : Ev me E d mc ms r Mf pc loc stk M k n := by
  intro D p l e R s m args below meth c Z C Rt H locs ls hH hL hk hn hl
  exact lv_ldcw C.1 C.2.1 C.2.2.2.1 (C.2.2.2.2.1 _ hw) hd (h D p l e R s m args below meth c Z C Rt H locs ls hH hL hk hn hl)
theorem Ev_iret {v : Int32} {ty : FieldType} (hr : me.2.2.2 = some ty) (hnr : narrow ty (.int v) = .int v) (hd : decode me.2.1 pc = .ok (.ireturn, 1)) (he : r = some (.int v) ∧ Mf = M) : Ev me E d mc ms r Mf pc loc [.int v] M k n := by
  obtain ⟨rfl, rfl⟩ := he
  intro D p l e R s m args below meth c Z C Rt H locs ls hH hL hk hn hl
  exact Rt H locs k n ls pc _ .ireturn hH hL hk hn ⟨rfl, rfl, ty, hr, hnr⟩ hd
theorem Ev_lret {v : Int64} (hr : me.2.2.2 = some .long) (hd : decode me.2.1 pc = .ok (.lreturn, 1)) (he : r = some (.long v) ∧ Mf = M) : Ev me E d mc ms r Mf pc loc [.long v] M k n := by
  obtain ⟨rfl, rfl⟩ := he
  intro D p l e R s m args below meth c Z C Rt H locs ls hH hL hk hn hl
  exact Rt H locs k n ls pc _ .lreturn hH hL hk hn ⟨rfl, rfl, hr⟩ hd
theorem Ev_vret (hr : me.2.2.2 = none) (hd : decode me.2.1 pc = .ok (.return_, 1)) (he : r = none ∧ Mf = M) : Ev me E d mc ms r Mf pc loc [] M k n := by
  obtain ⟨rfl, rfl⟩ := he
  intro D p l e R s m args below meth c Z C Rt H locs ls hH hL hk hn hl
  exact Rt H locs k n ls pc _ .return_ hH hL hk hn ⟨rfl, rfl, hr⟩ hd
end MJ
end
section
/-! ===== rules of the small machine: fields, arrays, new cells, calls ===== -/
def gV (M : mM) (a ci k : Nat) : Option Value := match M[a]? with
  | some (.inl o) => if o.1 = ci then o.2[k]? else none
  | _ => none
def gI (M : mM) (a ci k : Nat) : Option Int32 := match gV M a ci k with
  | some (.int x) => some x
  | _ => none
def gL (M : mM) (a ci k : Nat) : Option Int64 := match gV M a ci k with
  | some (.long x) => some x
  | _ => none
def gR (M : mM) (a ci k : Nat) : Option Nat := match gV M a ci k with
  | some (.ref x) => some x
  | _ => none
def sV (M : mM) (a ci k : Nat) (v : Value) : Option mM := match M[a]? with
  | some (.inl o) => if o.1 = ci ∧ k < o.2.length ∧ 0 < a then some (M.set a (.inl (ci, o.2.set k v))) else none
  | _ => none
def aLen (M : mM) (a : Nat) : Option Int32 := match M[a]? with
  | some (.inr (.inl o)) => some (nI o.2.length)
  | _ => none
def aI (M : mM) (z : Bool) (a : Nat) (i : Int32) : Option Int32 := match M[a]? with
  | some (.inr (.inl o)) => if o.1 = z ∧ ¬ i < 0 then o.2[i.toNatClampNeg]? else none
  | _ => none
def aS (M : mM) (z : Bool) (a : Nat) (i : Int32) (x : Int32) : Option mM := match M[a]? with
  | some (.inr (.inl o)) => if o.1 = z ∧ ¬ i < 0 ∧ i.toNatClampNeg < o.2.length ∧ 0 < a then some (M.set a (.inr (.inl (z, o.2.set i.toNatClampNeg x)))) else none
  | _ => none
def qI (M : mM) (z : Bool) (a : Nat) (i : Int32) : Option Nat := match M[a]? with
  | some (.inr (.inr o)) => if o.1 = z ∧ ¬ i < 0 then (match o.2[i.toNatClampNeg]? with
    | some (.ref q) => some q
    | _ => none) else none
  | _ => none
def mcz (z : Bool) : Nat := match z with
  | false => 4
  | true => 6
def isO (M : mM) (a ci : Nat) : Bool := match M[a]? with
  | some (.inl o) => o.1 == ci
  | _ => false
def qS (M : mM) (z : Bool) (a : Nat) (i : Int32) (v : Nat) : Option mM := match M[a]? with
  | some (.inr (.inr o)) => if o.1 = z ∧ ¬ i < 0 ∧ i.toNatClampNeg < o.2.length ∧ 0 < a ∧ isO M v (mcz z) = true then some (M.set a (.inr (.inr (z, o.2.set i.toNatClampNeg (.ref v))))) else none
  | _ => none
theorem gV_spec {M : mM} {a ci k : Nat} {v : Value} (h : gV M a ci k = some v) : ∃ fs, M[a]? = some (.inl (ci, fs)) ∧ fs[k]? = some v := by
  unfold gV at h
  split at h
  · rename_i o ho
    split at h
    · rename_i hc
      obtain ⟨c, fs⟩ := o
      cases hc
      exact ⟨fs, ho, h⟩
    · cases h
  · cases h
theorem gI_spec {M : mM} {a ci k : Nat} {x : Int32} (h : gI M a ci k = some x) : gV M a ci k = some (.int x) := by
  unfold gI at h
  split at h
  · rename_i y hy
    cases h
    exact hy
  · cases h
theorem gL_spec {M : mM} {a ci k : Nat} {x : Int64} (h : gL M a ci k = some x) : gV M a ci k = some (.long x) := by
  unfold gL at h
  split at h
  · rename_i y hy
    cases h
    exact hy
  · cases h
theorem gR_spec {M : mM} {a ci k : Nat} {x : Nat} (h : gR M a ci k = some x) : gV M a ci k = some (.ref x) := by
  unfold gR at h
  split at h
  · rename_i y hy
    cases h
    exact hy
  · cases h
theorem sV_spec {M M1 : mM} {a ci k : Nat} {v : Value} (h : sV M a ci k v = some M1) : ∃ fs, M[a]? = some (.inl (ci, fs)) ∧ k < fs.length ∧ 0 < a ∧ M1 = M.set a (.inl (ci, fs.set k v)) := by
  unfold sV at h
  split at h
  · rename_i o ho
    split at h
    · rename_i hc
      obtain ⟨c, fs⟩ := o
      obtain ⟨h1, h2, h3⟩ := hc
      cases h1
      cases h
      exact ⟨fs, ho, h2, h3, rfl⟩
    · cases h
  · cases h
theorem aLen_spec {M : mM} {a : Nat} {x : Int32} (h : aLen M a = some x) : ∃ z xs, M[a]? = some (.inr (.inl (z, xs))) ∧ x = nI xs.length := by
  unfold aLen at h
  split at h
  · rename_i o ho
    cases h
    exact ⟨o.1, o.2, ho, rfl⟩
  · cases h
theorem aI_spec {M : mM} {z : Bool} {a : Nat} {i x : Int32} (h : aI M z a i = some x) : ∃ xs, M[a]? = some (.inr (.inl (z, xs))) ∧ ¬ i < 0 ∧ xs[i.toNatClampNeg]? = some x := by
  unfold aI at h
  split at h
  · rename_i o ho
    split at h
    · rename_i hc
      obtain ⟨c, fs⟩ := o
      obtain ⟨h1, h2⟩ := hc
      cases h1
      exact ⟨fs, ho, h2, h⟩
    · cases h
  · cases h
theorem aS_spec {M M1 : mM} {z : Bool} {a : Nat} {i x : Int32} (h : aS M z a i x = some M1) : ∃ xs, M[a]? = some (.inr (.inl (z, xs))) ∧ ¬ i < 0 ∧ i.toNatClampNeg < xs.length ∧ 0 < a ∧ M1 = M.set a (.inr (.inl (z, xs.set i.toNatClampNeg x))) := by
  unfold aS at h
  split at h
  · rename_i o ho
    split at h
    · rename_i hc
      obtain ⟨c, fs⟩ := o
      obtain ⟨h1, h2, h3, h4⟩ := hc
      cases h1
      cases h
      exact ⟨fs, ho, h2, h3, h4, rfl⟩
    · cases h
  · cases h
theorem qI_spec {M : mM} {z : Bool} {a : Nat} {i : Int32} {x : Nat} (h : qI M z a i = some x) : ∃ xs, M[a]? = some (.inr (.inr (z, xs))) ∧ ¬ i < 0 ∧ xs[i.toNatClampNeg]? = some (.ref x) := by
  unfold qI at h
  split at h
  · rename_i o ho
    split at h
    · rename_i hc
      obtain ⟨c, fs⟩ := o
      obtain ⟨h1, h2⟩ := hc
      cases h1
      split at h
      · rename_i q hq
        cases h
        exact ⟨fs, ho, h2, hq⟩
      · cases h
    · cases h
  · cases h
theorem isO_spec {M : mM} {a ci : Nat} (h : isO M a ci = true) : ∃ fs, M[a]? = some (.inl (ci, fs)) := by
  unfold isO at h
  split at h
  · rename_i o ho
    obtain ⟨c, fs⟩ := o
    have : c = ci := beq_iff_eq.mp h
    subst this
    exact ⟨fs, ho⟩
  · cases h
theorem qS_spec {M M1 : mM} {z : Bool} {a : Nat} {i : Int32} {v : Nat} (h : qS M z a i v = some M1) : ∃ xs, M[a]? = some (.inr (.inr (z, xs))) ∧ ¬ i < 0 ∧ i.toNatClampNeg < xs.length ∧ 0 < a ∧ (∃ fs, M[v]? = some (.inl (mcz z, fs))) ∧ M1 = M.set a (.inr (.inr (z, xs.set i.toNatClampNeg (.ref v)))) := by
  unfold qS at h
  split at h
  · rename_i o ho
    split at h
    · rename_i hc
      obtain ⟨c, fs⟩ := o
      obtain ⟨h1, h2, h3, h4, h5⟩ := hc
      cases h1
      cases h
      exact ⟨fs, ho, h2, h3, h4, isO_spec h5, rfl⟩
    · cases h
  · cases h
/-! the classes' own facts -/
def mTy (ci : Nat) : Nat → FieldType := match ci with
  | 0 => tyX0
  | 1 => tyX1
  | 2 => tyX2
  | 3 => tyX3
  | 4 => tyX4
  | 5 => tyX5
  | 6 => tyX6
  | 7 => tyX7
  | _ => tyX8
theorem uw_X0 : ∀ w ∈ u_ws RX0 TX0 3, w ∈ tables_1 ∧ goodWord w = true := by decide +kernel
theorem uw_X1 : ∀ w ∈ u_ws RX1 TX1 3, w ∈ tables_1 ∧ goodWord w = true := by decide +kernel
theorem uw_X2 : ∀ w ∈ u_ws RX2 TX2 2, w ∈ tables_1 ∧ goodWord w = true := by decide +kernel
theorem uw_X3 : ∀ w ∈ u_ws RX3 TX3 2, w ∈ tables_1 ∧ goodWord w = true := by decide +kernel
theorem uw_X4 : ∀ w ∈ u_ws RX4 TX4 3, w ∈ tables_1 ∧ goodWord w = true := by decide +kernel
theorem uw_X5 : ∀ w ∈ u_ws RX5 TX5 2, w ∈ tables_1 ∧ goodWord w = true := by decide +kernel
theorem uw_X6 : ∀ w ∈ u_ws RX6 TX6 3, w ∈ tables_1 ∧ goodWord w = true := by decide +kernel
theorem uw_X7 : ∀ w ∈ u_ws RX7 TX7 13, w ∈ tables_1 ∧ goodWord w = true := by decide +kernel
theorem uw_X8 : ∀ w ∈ u_ws RX8 TX8 24, w ∈ tables_1 ∧ goodWord w = true := by decide +kernel
theorem mT0_of {w : Cond} (h : w ∈ tables_1 ∧ goodWord w = true) : w ∈ mT0 := List.mem_filter.mpr ⟨List.mem_append_right _ h.1, h.2⟩
theorem mCl_ok : ∀ (ci : Nat) (r : vw_C), vwCl[ci]? = some r → (∀ w ∈ u_ws r.1 r.2.1 r.2.2, w ∈ mT0) ∧ (∀ k, k < r.2.2 → parseFieldDescriptor (r.2.1 k).2.2.1 = some (mTy ci k)) ∧ (∀ a, a < r.2.2 → ∀ b, b < r.2.2 → a ≠ b → (r.2.1 a).2.1 ≠ (r.2.1 b).2.1)
  | 0, r, h => by cases h; exact ⟨fun w hw => mT0_of (uw_X0 w hw), tyX0_ok, nmX0⟩
  | 1, r, h => by cases h; exact ⟨fun w hw => mT0_of (uw_X1 w hw), tyX1_ok, nmX1⟩
  | 2, r, h => by cases h; exact ⟨fun w hw => mT0_of (uw_X2 w hw), tyX2_ok, nmX2⟩
  | 3, r, h => by cases h; exact ⟨fun w hw => mT0_of (uw_X3 w hw), tyX3_ok, nmX3⟩
  | 4, r, h => by cases h; exact ⟨fun w hw => mT0_of (uw_X4 w hw), tyX4_ok, nmX4⟩
  | 5, r, h => by cases h; exact ⟨fun w hw => mT0_of (uw_X5 w hw), tyX5_ok, nmX5⟩
  | 6, r, h => by cases h; exact ⟨fun w hw => mT0_of (uw_X6 w hw), tyX6_ok, nmX6⟩
  | 7, r, h => by cases h; exact ⟨fun w hw => mT0_of (uw_X7 w hw), tyX7_ok, nmX7⟩
  | 8, r, h => by cases h; exact ⟨fun w hw => mT0_of (uw_X8 w hw), tyX8_ok, nmX8⟩
  | n + 9, r, h => by simp [vwCl] at h
/-- a field of a class, as a pool entry of the class 'own' names it -/
def mFl (own : String) (idx ci k : Nat) : Prop := ∃ r : vw_C, vwCl[ci]? = some r ∧ k < r.2.2 ∧ (Cond.fieldLink own idx (r.2.1 k).1 (r.2.1 k).2.1 (r.2.1 k).2.2.1 ∈ mT0 ∨ ∃ host, Cond.fieldLinkNest own idx (r.2.1 k).1 (r.2.1 k).2.1 (r.2.1 k).2.2.1 host ∈ mNw)
theorem vp_V_map {E : mE} {fs : List Value} {k : Nat} {v : Value} (h : fs[k]? = some v) : vp_V (fs.map (mtr E)) k = mtr E v := by
  simp [vp_V, h]
section MJ
variable {me : mMe} {E : mE} {d mc ms : Nat} {r : Option Value} {Mf : mM} {pc : Nat} {loc : mL} {stk : List Value} {M M1 : mM} {k n : Nat}
theorem Ev_get {idx a ci i : Nat} {v : Value} (hf : mFl me.1.cls idx ci i) (hd : decode me.2.1 pc = .ok (.getfield idx, 3)) (hg : gV M a ci i = some v) (h : Ev me E d mc ms r Mf (pc + 3) loc (v :: stk) M k n) : Ev me E d mc ms r Mf pc loc (.ref a :: stk) M k n := by
  intro D p l e R s m args below meth c Z C Rt H locs ls hH hL hk hn hl
  obtain ⟨fs, hM, hv⟩ := gV_spec hg
  obtain ⟨q, hc, hkN, hlk⟩ := hf
  obtain ⟨r', h1, -, cell, q1, q2, q3, q4⟩ := hH.1 a _ hM
  cases h1.symm.trans hc
  obtain ⟨u1, u2, u3⟩ := mCl_ok ci _ hc
  obtain ⟨hS, hfc, kC, hkC, hkind⟩ := C.2.2.2.2.2.1.1 ci _ hc
  obtain ⟨cf, kf, fi, f, hi, hsl⟩ := hS i hkN
  have hslot : cell.slots[f.slot]? = some (mtr E v) := by rw [hsl, q4 i hkN, vp_V_map hv]
  have hst := (u_facts hfc hkC (u_lays C.2.2.2.2.1 u1 hkN) hi).1
  have hun : cell.vm ≠ .unknown := by rw [q3]; exact fun h => by cases h
  rcases hlk with hlk | ⟨host, hlk⟩
  · exact W.getf C.1 C.2.1 C.2.2.2.1 (C.2.2.2.2.1 _ hlk) hi hst q1 hun hslot rfl rfl hd (h D p l e R s m args below meth c Z C Rt H locs ls hH hL hk hn hl)
  · exact va_Wgetf C.1 C.2.1 C.2.2.2.1 (va_Nw.use rfl (C.2.2.2.2.2.1.2.1 _ hlk)) hi hst q1 hun hslot rfl rfl hd (h D p l e R s m args below meth c Z C Rt H locs ls hH hL hk hn hl)
theorem Ev_getI {idx a ci i : Nat} {v : Int32} (hf : mFl me.1.cls idx ci i) (hd : decode me.2.1 pc = .ok (.getfield idx, 3)) (hg : gI M a ci i = some v) (h : Ev me E d mc ms r Mf (pc + 3) loc (.int v :: stk) M k n) : Ev me E d mc ms r Mf pc loc (.ref a :: stk) M k n := Ev_get hf hd (gI_spec hg) h
theorem Ev_getL {idx a ci i : Nat} {v : Int64} (hf : mFl me.1.cls idx ci i) (hd : decode me.2.1 pc = .ok (.getfield idx, 3)) (hg : gL M a ci i = some v) (h : Ev me E d mc ms r Mf (pc + 3) loc (.long v :: stk) M k n) : Ev me E d mc ms r Mf pc loc (.ref a :: stk) M k n := Ev_get hf hd (gL_spec hg) h
theorem Ev_getR {idx a ci i : Nat} {v : Nat} (hf : mFl me.1.cls idx ci i) (hd : decode me.2.1 pc = .ok (.getfield idx, 3)) (hg : gR M a ci i = some v) (h : Ev me E d mc ms r Mf (pc + 3) loc (.ref v :: stk) M k n) : Ev me E d mc ms r Mf pc loc (.ref a :: stk) M k n := Ev_get hf hd (gR_spec hg) h
theorem lL_app {E : mE} {locs : List Loc} {a i : Nat} (h : ∀ q ∈ locs, E.2 ≤ q.base) (ha : E.2 ≤ a) : ∀ q ∈ locs ++ [(⟨a, i⟩ : Loc)], E.2 ≤ q.base := by
  intro q hq
  rcases List.mem_append.mp hq with h1 | h1
  · exact h q h1
  · rw [List.mem_singleton] at h1
    subst h1
    exact ha
/-- a field written: in a constructor of its class, or one that isn't final -/
theorem Ev_put {idx a ci i : Nat} {v : Value} (hf : mFl me.1.cls idx ci i) (hfit : narrow (mTy ci i) (mtr E v) = mtr E v ∧ fits (mTy ci i) (mtr E v) = true) (hfin : ∀ q, vwCl[ci]? = some q → (q.2.1 i).2.2.2 = false ∨ ((q.2.1 i).2.2.2 = true ∧ me.1.name = "<init>" ∧ (q.2.1 i).1 = me.1.cls ∧ ∃ w, w ∈ mT0 ∧ w = Cond.fieldLink me.1.cls idx (q.2.1 i).1 (q.2.1 i).2.1 (q.2.1 i).2.2.1)) (hd : decode me.2.1 pc = .ok (.putfield idx, 3)) (hg : sV M a ci i v = some M1) (h : Ev me E d mc ms r Mf (pc + 3) loc stk M1 k n) : Ev me E d mc ms r Mf pc loc (v :: .ref a :: stk) M k n := by
  intro D p l e R s m args below meth c Z C Rt H locs ls hH hL hk hn hl
  obtain ⟨fs, hM, hv, ha0, rfl⟩ := sV_spec hg
  obtain ⟨q, hc, hkN, hlk⟩ := hf
  obtain ⟨r', h1, hlen, cell, q1, q2, q3, q4⟩ := hH.1 a _ hM
  cases h1.symm.trans hc
  obtain ⟨u1, u2, u3⟩ := mCl_ok ci _ hc
  obtain ⟨hS, hfc, kC, hkC, hkind⟩ := C.2.2.2.2.2.1.1 ci _ hc
  obtain ⟨cf, kf, fi, f, hi, hsl⟩ := hS i hkN
  have hap := va_apart (own := me.1.cls) C.2.2.2.2.1 u1 (mTy ci) u2 u3 C.2.2.2.2.2.1.va hc
  have hst := (u_facts hfc hkC (u_lays C.2.2.2.2.1 u1 hkN) hi).1
  have key : ∀ H' : Heap, H'[mad E a]? = some (cell.setSlot f.slot (mtr E v)) → H'.size = H.size → (∀ q : Nat, q ≠ mad E a → H'[q]? = H[q]?) → mHold E D s (M.set a (.inl (ci, fs.set i v))) H' := by
    intro H' e1 e2 e3
    rw [hsl] at e1
    refine hH.set hM e2 e3 ⟨_, hc, by rw [← hlen]; exact List.length_set, ?_⟩
    have hv' : i < (fs.map (mtr E)).length := by rw [List.length_map]; exact hv
    have := t_OB.to (V := updV (vp_V (fs.map (mtr E))) i (mtr E v)) (V' := vp_V ((fs.map (mtr E)).set i (mtr E v))) (⟨_, e1, q2, q3, t_set q4 hap hkN (mtr E v)⟩ : t_OB (mad E a) (D.1 ci) _ (D.2 ci) H' _) (fun j _ => vp_updV_set hv' (mtr E v) j)
    rw [List.map_set]
    exact this
  have hlay := C.2.2.2.2.1 _ (u1 _ (u_in_lay hkN))
  unfold u_lay at hlay
  rcases hfin _ hc with hfn | ⟨hfn, hnm, hdecl, w, hw, rfl⟩
  · rw [if_neg (by rw [hfn]; decide)] at hlay
    have h6 := u_store hfc hkC hkind hlay hi (u2 i hkN) hfit.1 hfit.2
    rcases hlk with hlk | ⟨host, hlk⟩
    · exact W.putK C.1 C.2.1 (f := f) ⟨C.2.2.2.1, C.2.2.2.2.1 _ hlk, ⟨_, _, _, hi⟩, hst⟩ (by rw [q2]; exact h6) q1 q3 (by rw [hsl]; exact k2_hasslot (q4 i hkN)) rfl rfl hd fun H' e1 e2 e3 => h D p l e R s m args below meth c Z C Rt H' _ ls (key H' e1 e2 e3) (lL_app hL (mad_base ha0)) hk hn hl
    · exact va_WputK C.1 C.2.1 (f := f) C.2.2.2.1 (va_Nw.use rfl (C.2.2.2.2.2.1.2.1 _ hlk)) hi hst (by rw [q2]; exact h6) q1 q3 (by rw [hsl]; exact k2_hasslot (q4 i hkN)) rfl rfl hd fun H' e1 e2 e3 => h D p l e R s m args below meth c Z C Rt H' _ ls (key H' e1 e2 e3) (lL_app hL (mad_base ha0)) hk hn hl
  · rw [if_pos hfn] at hlay
    have hcf : m.cls = cf := by
      obtain ⟨_, _, c', _, _, _, -, -, hf', -, -, -, hown2, -⟩ := Cond.laysFinal_spec hlay
      have e1 : c' = cf := by have := hi.symm.trans hf'; simp at this; exact this.1.symm
      rw [hdecl] at hown2
      rw [← e1]; exact Option.some.inj (C.2.2.2.1.symm.trans hown2)
    have h6 := u_fits hfc hkC hkind (Or.inr hlay) hi (u2 i hkN) hfit.1 hfit.2
    exact W.putFinK C.1 C.2.1 C.2.2.2.1 (C.2.2.2.2.1 _ hw) hi hst hcf (C.2.2.2.2.2.2.1.trans hnm) (by rw [q2]; exact h6) q1 q3 (by rw [hsl]; exact k2_hasslot (q4 i hkN)) rfl rfl hd fun H' e1 e2 e3 => h D p l e R s m args below meth c Z C Rt H' _ ls (key H' e1 e2 e3) (lL_app hL (mad_base ha0)) hk hn hl
theorem Ev_alen {a : Nat} {v : Int32} (hd : decode me.2.1 pc = .ok (.arraylength, 1)) (hg : aLen M a = some v) (h : Ev me E d mc ms r Mf (pc + 1) loc (.int v :: stk) M k n) : Ev me E d mc ms r Mf pc loc (.ref a :: stk) M k n := by
  intro D p l e R s m args below meth c Z C Rt H locs ls hH hL hk hn hl
  obtain ⟨z, xs, hM, rfl⟩ := aLen_spec hg
  obtain ⟨cell, h1, h2, h3, h4, h5⟩ := hH.1 a _ hM
  exact W.alen C.1 C.2.1 h1 h2 (by rw [h4]; rfl) rfl rfl hd (h D p l e R s m args below meth c Z C Rt H locs ls hH hL hk hn hl)
theorem mclamp {i : Int32} {N : Nat} (h0 : ¬ i < 0) (h1 : i.toNatClampNeg < N) : ¬ (i < 0 ∨ N ≤ i.toNatClampNeg) := by
  rintro (h | h)
  · exact h0 h
  · omega
theorem Ev_iald {a : Nat} {i v : Int32} (hd : decode me.2.1 pc = .ok (.iaload, 1)) (hg : aI M false a i = some v) (h : Ev me E d mc ms r Mf (pc + 1) loc (.int v :: stk) M k n) : Ev me E d mc ms r Mf pc loc (.int i :: .ref a :: stk) M k n := by
  intro D p l e R s m args below meth c Z C Rt H locs ls hH hL hk hn hl
  obtain ⟨xs, hM, h0, hv⟩ := aI_spec hg
  obtain ⟨cell, h1, h2, h3, h4, h5⟩ := hH.1 a _ hM
  have hlt := (List.getElem?_eq_some_iff.mp hv).1
  exact W.iald C.1 C.2.1 h1 h2 h3 (by rw [h4]; exact mclamp h0 hlt) (v := .int v) (by rw [h5 _ hlt]; simp [hv]) rfl rfl hd (h D p l e R s m args below meth c Z C Rt H locs ls hH hL hk hn hl)
theorem Ev_zald {a : Nat} {i v : Int32} (hd : decode me.2.1 pc = .ok (.baload, 1)) (hg : aI M true a i = some v) (h : Ev me E d mc ms r Mf (pc + 1) loc (.int v :: stk) M k n) : Ev me E d mc ms r Mf pc loc (.int i :: .ref a :: stk) M k n := by
  intro D p l e R s m args below meth c Z C Rt H locs ls hH hL hk hn hl
  obtain ⟨xs, hM, h0, hv⟩ := aI_spec hg
  obtain ⟨cell, h1, h2, h3, h4, h5⟩ := hH.1 a _ hM
  have hlt := (List.getElem?_eq_some_iff.mp hv).1
  exact W.zald C.1 C.2.1 h1 h2 h3 (by rw [h4]; exact mclamp h0 hlt) (v := .int v) (by rw [h5 _ hlt]; simp [hv]) rfl rfl hd (h D p l e R s m args below meth c Z C Rt H locs ls hH hL hk hn hl)
theorem mAt_ast {E : mE} {D : va_G} {s : State} {z : Bool} {a j : Nat} {xs : List Int32} {x : Int32} {cell : Cell} {H' : Heap} (h2 : s.isArrayOf cell (mty z)) (h3 : cell.vm ≠ .unknown) (h4 : cell.slots.size = xs.length) (h5 : ∀ j, j < xs.length → cell.slots[j]? = some (.int (xs.getD j 0))) (hj : j < xs.length) (e1 : H'[mad E a]? = some (cell.setSlot j (.int x))) : mAt E D s a (.inr (.inl (z, xs.set j x))) H' := by
  refine ⟨_, e1, h2, h3, by rw [List.length_set, ← h4]; simp [Cell.setSlot], fun q hq => ?_⟩
  rw [List.length_set] at hq
  by_cases hqj : q = j
  · subst hqj
    rw [Cell.slots_setSlot_self _ (by rw [h4]; exact hq)]
    simp [hq]
  · rw [slot_ne _ _ (Ne.symm hqj), h5 q hq]
    simp [List.getElem?_set_ne (Ne.symm hqj)]
theorem Ev_iast {a : Nat} {i v : Int32} (hd : decode me.2.1 pc = .ok (.iastore, 1)) (hg : aS M false a i v = some M1) (h : Ev me E d mc ms r Mf (pc + 1) loc stk M1 k n) : Ev me E d mc ms r Mf pc loc (.int v :: .int i :: .ref a :: stk) M k n := by
  intro D p l e R s m args below meth c Z C Rt H locs ls hH hL hk hn hl
  obtain ⟨xs, hM, h0, hlt, ha0, rfl⟩ := aS_spec hg
  obtain ⟨cell, h1, h2, h3, h4, h5⟩ := hH.1 a _ hM
  exact W.iast C.1 C.2.1 h1 h2 h3 (by rw [h4]; exact mclamp h0 hlt) rfl rfl hd fun H' e1 e2 e3 => h D p l e R s m args below meth c Z C Rt H' _ ls (hH.set hM e2 e3 (mAt_ast h2 h3 h4 h5 hlt e1)) (lL_app hL (mad_base ha0)) hk hn hl
theorem Ev_zast {a : Nat} {i v w : Int32} (hw : narrow .boolean (.int v) = .int w) (hd : decode me.2.1 pc = .ok (.bastore, 1)) (hg : aS M true a i w = some M1) (h : Ev me E d mc ms r Mf (pc + 1) loc stk M1 k n) : Ev me E d mc ms r Mf pc loc (.int v :: .int i :: .ref a :: stk) M k n := by
  intro D p l e R s m args below meth c Z C Rt H locs ls hH hL hk hn hl
  obtain ⟨xs, hM, h0, hlt, ha0, rfl⟩ := aS_spec hg
  obtain ⟨cell, h1, h2, h3, h4, h5⟩ := hH.1 a _ hM
  exact W.zast C.1 C.2.1 h1 h2 h3 (by rw [h4]; exact mclamp h0 hlt) rfl rfl hd fun H' e1 e2 e3 => h D p l e R s m args below meth c Z C Rt H' _ ls (hH.set hM e2 e3 (mAt_ast h2 h3 h4 h5 hlt (by rw [e1, hw]))) (lL_app hL (mad_base ha0)) hk hn hl
theorem Ev_aald {z : Bool} {a : Nat} {i : Int32} {v : Nat} (hd : decode me.2.1 pc = .ok (.aaload, 1)) (hg : qI M z a i = some v) (h : Ev me E d mc ms r Mf (pc + 1) loc (.ref v :: stk) M k n) : Ev me E d mc ms r Mf pc loc (.int i :: .ref a :: stk) M k n := by
  intro D p l e R s m args below meth c Z C Rt H locs ls hH hL hk hn hl
  obtain ⟨xs, hM, h0, hv⟩ := qI_spec hg
  obtain ⟨cA, h1, h2, h3⟩ := hH.1 a _ hM
  have hlt := (List.getElem?_eq_some_iff.mp hv).1
  exact W.aald (v := mtr E (.ref v)) (ty := .object (mel z)) C.1 C.2.1 h1 (h2 _ _) rfl (fun q => by cases q) (by rw [arrV_size]; exact mclamp h0 hlt) (by rw [arrV_read _ _ hlt, vp_V_map hv]) rfl rfl hd (h D p l e R s m args below meth c Z C Rt H locs ls hH hL hk hn hl)
theorem mel_cl (z : Bool) : ∃ q : vw_C, vwCl[mcz z]? = some q ∧ q.1 = mel z := by cases z <;> exact ⟨_, rfl, rfl⟩
theorem Ev_aast {z : Bool} {a : Nat} {i : Int32} {v : Nat} (hd : decode me.2.1 pc = .ok (.aastore, 1)) (hg : qS M z a i v = some M1) (h : Ev me E d mc ms r Mf (pc + 1) loc stk M1 k n) : Ev me E d mc ms r Mf pc loc (.ref v :: .int i :: .ref a :: stk) M k n := by
  intro D p l e R s m args below meth c Z C Rt H locs ls hH hL hk hn hl
  obtain ⟨xs, hM, h0, hlt, ha0, ⟨fs, hMv⟩, rfl⟩ := qS_spec hg
  obtain ⟨cA, h1, h2, h3⟩ := hH.1 a _ hM
  obtain ⟨r', hr', -, cellV, g1, g2, g3, -⟩ := hH.1 v _ hMv
  obtain ⟨q, hq, hqe⟩ := mel_cl z
  cases hr'.symm.trans hq
  have hcls := (C.2.2.2.2.2.1.1 _ _ hq).2
  rw [hqe] at hcls
  have h3' := h3
  obtain ⟨kA, comp, k1, k2, k3, -⟩ := h3
  have hcomp : comp = D.1 (mcz z) := Option.some.inj (k3.symm.trans hcls.1)
  subst hcomp
  obtain ⟨kC, hkC, -⟩ := hcls.2
  refine W.aast C.1 C.2.1 h1 (fun q h => by cases h) (fun h => by cases h) k1 k2 rfl hkC ⟨h0, by rw [arrV_size]; exact hlt⟩ g1 (fun q h => by rw [g3] at h; cases h) (by rw [g2]; exact hkC) (by rw [g2]; exact va_assign hcls) rfl rfl hd fun H' e1 e2 e3 => ?_
  refine h D p l e R s m args below meth c Z C Rt H' _ ls (hH.set hM e2 e3 ⟨cA, ?_, h2, h3'⟩) (lL_app hL (mad_base ha0)) hk hn hl
  rw [e1, arrV_store]
  simp only [List.length_set]
  congr 2
  funext j
  rw [List.map_set]
  exact vp_updV_set (by rw [List.length_map]; exact hlt) _ j
end MJ
end
section
/-! ===== rules of the small machine: new cells, calls ===== -/
section MJ
variable {me : mMe} {E : mE} {d mc ms : Nat} {r : Option Value} {Mf : mM} {pc : Nat} {loc : mL} {stk : List Value} {M M1 : mM} {k n : Nat}
theorem Ev_new {idx ci : Nat} {q : vw_C} {fs : List Value} (hc : vwCl[ci]? = some q) (hw1 : Cond.classLink me.1.cls idx q.1 ∈ mT0) (hw2 : Cond.instantiable q.1 q.2.2 ∈ mT0) (hw3 : Cond.initialized q.1 ∈ mT0) (hlen : fs.length = q.2.2) (hfs : ∀ j, j < q.2.2 → defaultValue (mTy ci j) = vp_V fs j) (hno : fs.map (mtr E) = fs) (hkc : k + 1 ≤ mc) (hns : n + q.2.2 ≤ ms) (hd : decode me.2.1 pc = .ok (.new idx, 3)) (h : Ev me E d mc ms r Mf (pc + 3) loc (.ref M.length :: stk) (M ++ [.inl (ci, fs)]) (k + 1) (n + q.2.2)) : Ev me E d mc ms r Mf pc loc stk M k n := by
  intro D p l e R s m args below meth c Z C Rt H locs ls hH hL hk hn hl
  obtain ⟨u1, u2, u3⟩ := mCl_ok ci _ hc
  have hKn := C.2.2.2.2.2.1.1 ci _ hc
  have hRc := C.2.2.2.2.2.2.2.2.2.1
  have hRs := C.2.2.2.2.2.2.2.2.2.2
  refine W.newcK C.1 C.2.1 C.2.2.2.1 (C.2.2.2.2.1 _ hw1) (C.2.2.2.2.1 _ hw2) (C.2.2.2.2.1 _ hw3) rfl hd (by omega) (by omega) hKn.2.1 rfl fun H1 kC hkC e1 z1 o1 => ?_
  have hP : mHold E D s (M ++ [.inl (ci, fs)]) H1 := hH.push z1 o1 ⟨q, hc, hlen, by
    rw [hH.new, hno]
    exact (u_born (mTy ci) C.2.2.2.2.1 u1 hKn hkC e1 u2).to hfs⟩
  have := h D p l e R s m args below meth c Z C Rt H1 locs ls hP hL hkc hns hl
  rw [List.map_cons, show mtr E (.ref M.length) = .ref H.size from by show Value.ref (mad E M.length) = _; rw [hH.new]] at this
  exact this
theorem Ev_newa {z : Bool} {aty : ArrayType} (hz : newarray.typeOf aty = mty z) (hw : Cond.arrayClass (mty z) ∈ mT0) {v : Int32} {N : Nat} (hv : ¬ v < 0) (hN : v.toNatClampNeg = N) (hb : N * componentBytes (mty z) ≤ 536870912) (hkc : k + 1 ≤ mc) (hns : n + N ≤ ms) (hd : decode me.2.1 pc = .ok (.newarray aty, 2)) (h : Ev me E d mc ms r Mf (pc + 2) loc (.ref M.length :: stk) (M ++ [.inr (.inl (z, List.replicate N 0))]) (k + 1) (n + N)) : Ev me E d mc ms r Mf pc loc (.int v :: stk) M k n := by
  intro D p l e R s m args below meth c Z C Rt H locs ls hH hL hk hn hl
  have hRc := C.2.2.2.2.2.2.2.2.2.1
  have hRs := C.2.2.2.2.2.2.2.2.2.2
  refine va_newaK C.1 C.2.1 (by rw [hz]; exact C.2.2.2.2.1 _ hw) rfl hd rfl hv hN (by rw [hz]; exact hb) (by omega) (by omega) rfl fun H1 cA e1 z1 o1 hAr hNm => ?_
  rw [hz] at e1 hAr
  have hP : mHold E D s (M ++ [.inr (.inl (z, List.replicate N 0))]) H1 := hH.push z1 o1 ⟨_, by rw [hH.new]; exact e1, hAr _ _, (fun q => by cases q), by rw [arrV_size, List.length_replicate], fun j hj => by
    rw [List.length_replicate] at hj
    rw [arrV_read _ _ hj]
    cases z <;> simp [mty, defaultValue, hj]⟩
  have := h D p l e R s m args below meth c Z C Rt H1 locs ls hP hL hkc hns hl
  rw [List.map_cons, show mtr E (.ref M.length) = .ref H.size from by show Value.ref (mad E M.length) = _; rw [hH.new]] at this
  exact this
theorem Ev_anew {z : Bool} {idx : Nat} (hw : Cond.classLink me.1.cls idx (mel z) ∈ mT0) {v : Int32} {N : Nat} (hv : ¬ v < 0) (hN : v.toNatClampNeg = N) (hb : N * 4 ≤ 536870912) (hkc : k + 1 ≤ mc) (hns : n + N ≤ ms) (hd : decode me.2.1 pc = .ok (.anewarray idx, 3)) (h : Ev me E d mc ms r Mf (pc + 3) loc (.ref M.length :: stk) (M ++ [.inr (.inr (z, List.replicate N .null))]) (k + 1) (n + N)) : Ev me E d mc ms r Mf pc loc (.int v :: stk) M k n := by
  intro D p l e R s m args below meth c Z C Rt H locs ls hH hL hk hn hl
  have hRc := C.2.2.2.2.2.2.2.2.2.1
  have hRs := C.2.2.2.2.2.2.2.2.2.2
  have hAO : va_AO (mel z) s := by
    cases z
    · exact C.2.2.2.2.2.1.2.2.1
    · exact C.2.2.2.2.2.1.2.2.2
  subst hN
  refine W.anew C.1 C.2.1 C.2.2.2.1 (C.2.2.2.2.1 _ hw) (va_AO.use hAO) rfl hd rfl hv hb (by omega) (by omega) fun cA kA comp f1 f2 f3 f4 => ?_
  generalize hH1 : H.push ({ cls := cA, slots := Array.replicate v.toNatClampNeg .null, vm := .none } : Cell) = H1
  have z1 : H1.size = H.size + 1 := by rw [← hH1, Array.size_push]
  have e1 : H1[H.size]? = some (arrV cA v.toNatClampNeg (fun _ => .null)) := by rw [← hH1, Array.getElem?_push_size, ← arrV_new]
  have o1 : ∀ q : Nat, q < H.size → H1[q]? = H[q]? := fun q hq => by rw [← hH1, Array.getElem?_push, if_neg (Nat.ne_of_lt hq)]
  have hP : mHold E D s (M ++ [.inr (.inr (z, List.replicate v.toNatClampNeg .null))]) H1 := hH.push z1 o1 ⟨cA, by
    rw [hH.new, e1]
    simp only [List.length_replicate]
    congr 2
    funext j
    simp only [vp_V, List.map_replicate, mtr]
    rw [List.getD_eq_getElem?_getD, List.getElem?_replicate]
    split <;> rfl, fun N z => ⟨(fun k h => by cases h), kA, f2, comp, f3⟩, ⟨kA, comp, f2, f3, f4, f1⟩⟩
  have := h D p l e R s m args below meth c Z C Rt H1 locs ls hP hL hkc hns hl
  rw [List.map_cons, show mtr E (.ref M.length) = .ref H.size from by show Value.ref (mad E M.length) = _; rw [hH.new]] at this
  exact this
theorem Ev_objInit {idx a : Nat} (hw1 : Cond.methodLink me.1.cls idx Lib.objectInit ∈ mT0) (hw2 : Cond.instanceMethod Lib.objectInit ∈ mT0) (hw3 : Cond.code Lib.objectInit ⟨#[0xb1]⟩ 1 none ∈ mT0) (h1 : 1 ≤ d) (hrest : (stk.map fun v => v.category).sum ≤ 8) (hd : decode me.2.1 pc = .ok (.invokespecial idx, 3)) (h : Ev me E d mc ms r Mf (pc + 3) loc stk M k n) : Ev me E d mc ms r Mf pc loc (.ref a :: stk) M k n := by
  intro D p l e R s m args below meth c Z C Rt H locs ls hH hL hk hn hl
  have hRf := C.2.2.2.2.2.2.2.1
  have hRl := C.2.2.2.2.2.2.2.2.1
  have hcat : ((stk.map (mtr E)).map fun v => v.category).sum ≤ 8 := by
    rw [List.map_map, show ((fun v : Value => v.category) ∘ mtr E) = (fun v : Value => v.category) from funext (mtr_cat E)]
    exact hrest
  refine W.objInit C.1 C.2.1 C.2.2.2.1 (C.2.2.2.2.1 _ hw1) (C.2.2.2.2.1 _ hw2) (C.2.2.2.2.1 _ hw3) rfl (by rw [C.2.2.1]; exact hl.1) rfl hd (by omega) ?_ (h D p l e R s m args below meth c Z C Rt H locs ls hH hL hk hn hl)
  have := lv_room (m := m) (pc := pc) (ls := ls) (rest := .ref (mad E a) :: stk.map (mtr E)) hcat
  exact Nat.le_trans (Nat.add_le_add_right this 12) (by omega)
/-! calls -/
theorem mK.same {D : va_G} {u U : State} (hvm : u.vm = U.vm) (h : mK D u) : mK D U := by
  have hal : u.vm.Alike U.vm := by rw [hvm]; exact Vm.Alike.refl _
  refine ⟨fun c q hq => u_Kn_moved hal (h.1 c q hq), fun w hw => ?_, h.2.2.1.moved hal, h.2.2.2.moved hal⟩
  have h1 := h.2.1 w hw
  have h2 : mNest w = true := (List.mem_filter.mp hw).2
  cases w <;> first | exact va_Nw.same rfl hvm h1 | cases h2
theorem mPc.blind {E : mE} {D : va_G} {vs : List Value} {M : mM} : FrameBlind (mPc E D vs M) := fun a U g mk q => ⟨q.1, mHold.moved (u := U) (U := U.calling g mk a) (Vm.Alike.refl U.vm) q.2.1, q.2.2.same (u := U) (U := U.calling g mk a) rfl⟩
theorem mPc.at {E : mE} {D : va_G} {vs : List Value} {M : mM} {s : State} {H : Heap} (hH : mHold E D s M H) (hK : mK D s) : ∀ U : State, U.heap = H → s.WarmedH U.vm → mPc E D vs M (vs.map (mtr E)).toArray U := fun U hU hW => ⟨rfl, by rw [hU]; exact hH.moved hW.alike, hK.warm hW⟩
theorem mcont {p : Program} {l : Launch} {e : Env} {R : Room} {s : State} {m : MethodId} {args : Array Value} {below : List Frame} {meth : Method} {c : Code} {H : Heap} {locs : List Loc} {cells slots mc2 ms2 : Nat} {Q : State → Prop} {ls : Array Slot} {st0 rest : List Value} {pc : Nat} {E : mE} {D : va_G} {r1 : Option Value} {M1 : mM} {a : Array Value}
    (hr : va_Run p l e R s m args below meth c H locs cells slots mc2 ms2 (F0 m pc ls st0) rest (mQc E D r1 M1 a) (fun q => E.2 ≤ q)) (hL : ∀ q ∈ locs, E.2 ≤ q.base)
    (kk : ∀ (H1 : Heap) (locs1 : List Loc), mHold E D s M1 H1 → (∀ q ∈ locs1, E.2 ≤ q.base) → W p l e R s m args below meth c H1 locs1 (cells + mc2) (slots + ms2) Q (F0 m (pc + 3) ls ((r1.map (mtr E)).toList ++ rest))) : W p l e R s m args below meth c H locs cells slots Q (F0 m pc ls st0) := by
  intro T hT X
  obtain ⟨v, st₀, t, T', L, h0, X', hL', e1, e2, ⟨hv, hH1⟩, st⟩ := hr T hT X
  cases hv
  have hal : s.vm.Alike t.vm := by rw [← e2]; exact X'.warmed.alike
  obtain ⟨t2, a1, b1⟩ := kk T'.heap (locs ++ L) (by rw [e1]; exact hH1.moved hal.symm) (fun q hq => by
      rcases List.mem_append.mp hq with h | h
      · exact hL q h
      · exact hL' q h) T' rfl X'
  exact ⟨t2, st t2 a1, b1⟩
theorem mstk (E : mE) (r1 : Option Value) (stk : List Value) : (r1.map (mtr E)).toList ++ stk.map (mtr E) = (r1.toList ++ stk).map (mtr E) := by cases r1 <;> rfl
theorem mcat (E : mE) {stk : List Value} (h : (stk.map fun v => v.category).sum ≤ 8) : ((stk.map (mtr E)).map fun v => v.category).sum ≤ 8 := by
  rw [List.map_map, show ((fun v : Value => v.category) ∘ mtr E) = (fun v : Value => v.category) from funext (mtr_cat E)]
  exact h
/-- what the tables say of a method, whoever calls it; n: its parameters -/
def mMd (me : mMe) (n : Nat) : Prop := Cond.code me.1 me.2.1 me.2.2.1 me.2.2.2 ∈ mT0 ∧ Cond.initialized me.1.cls ∈ mT0 ∧ (me.1.cls ≠ "java/lang/invoke/MethodHandle" ∧ me.1.cls ≠ "java/lang/invoke/VarHandle" ∧ (parseMethodDescriptor me.1.desc).map (fun d => d.parameters.length) = some n) ∧ me.2.2.1 ≤ 21
def mMv (me : mMe) (n : Nat) : Prop := mMd me n ∧ Cond.instanceMethod me.1 ∈ mT0 ∧ Cond.selects me.1.cls me.1 me.1 ∈ mT0
def mMs (me : mMe) (n : Nat) : Prop := mMd me n ∧ Cond.static me.1 ∈ mT0
def mMi (me : mMe) (n : Nat) : Prop := mMd me n ∧ Cond.instanceMethod me.1 ∈ mT0 ∧ me.1.name = "<init>" ∧ me.2.2.2 = none
theorem mgood {me : mMe} (h : Cond.code me.1 me.2.1 me.2.2.1 me.2.2.2 ∈ mT0) : GoodIn mT0 (mws me) := by
  intro w hw
  rcases List.mem_cons.mp hw with rfl | hw
  · exact ⟨h, good_of_word (List.mem_filter.mp h).2⟩
  · exact ⟨hw, good_of_word (List.mem_filter.mp hw).2⟩
theorem mCallB {me2 : mMe} {p : Program} {R : Room} {s : State} {m : MethodId} {args : Array Value} {meth : Method} {c : Code} {D : va_G} {d2 mc2 ms2 np idx : Nat} (C : mCtx me D d mc ms p R s m args meth c) (hM : mMd me2 np) (hlk : Cond.methodLink me.1.cls idx me2.1 ∈ mT0) (hdd : d2 + 1 ≤ d) : CallB R s args me.1.cls idx me2.1 me2.2.1 me2.2.2.1 me2.2.2.2 (mws me2) (mrm d2 mc2 ms2) mc2 ms2 np := by
  have hRf := C.2.2.2.2.2.2.2.1
  have hRl := C.2.2.2.2.2.2.2.2.1
  have hm := hM.2.2.2
  exact callB_of np C.2.2.2.2.1 (mgood hM.1) rfl rfl rfl (C.2.2.2.2.1 _ hM.2.1) (C.2.2.2.2.1 _ hlk) hM.2.2.1 ⟨by show d2 + 1 ≤ _; omega, by show 8 + (me2.2.2.1 + 11) + 40 * d2 ≤ _; omega⟩
theorem Ev_callV {me2 : mMe} {idx a ci np d2 : Nat} {vs rest : List Value} {r1 : Option Value} (hM : mMv me2 np) (hlk : Cond.methodLink me.1.cls idx me2.1 ∈ mT0) (hq : ∃ q : vw_C, vwCl[ci]? = some q ∧ q.1 = me2.1.cls) (hO : isO M a ci = true) (hC : EvC me2 E d2 0 0 (.ref a :: vs) M r1 M1) (hst : stk = vs.reverse ++ .ref a :: rest) (hnp : vs.length = np) (hdd : d2 + 1 ≤ d) (hrest : (rest.map fun v => v.category).sum ≤ 8) (hd : decode me.2.1 pc = .ok (.invokevirtual idx, 3)) (h : Ev me E d mc ms r Mf (pc + 3) loc (r1.toList ++ rest) M1 k n) : Ev me E d mc ms r Mf pc loc stk M k n := by
  intro D p l e R s m args below meth c Z C Rt H locs ls hH hL hk hn hl
  subst hst
  have hRc := C.2.2.2.2.2.2.2.2.2.1
  have hRs := C.2.2.2.2.2.2.2.2.2.2
  obtain ⟨q, hq1, hq2⟩ := hq
  obtain ⟨fs, hMa⟩ := isO_spec hO
  obtain ⟨r', h1, -, cell, q1, q2, q3, -⟩ := hH.1 a _ hMa
  cases h1.symm.trans hq1
  have hcl := (C.2.2.2.2.2.1.1 ci _ hq1).2.1
  rw [hq2] at hcl
  refine mcont (r1 := r1) (M1 := M1) (D := D) (E := E) (rest := rest.map (mtr E)) (va_runV (As := vs.map (mtr E)) (b := mad E a) (Ts := mT0) (nL := me.2.2.1) ⟨C.1, C.2.1, C.2.2.1, C.2.2.2.1, C.2.2.2.2.1⟩ (hC D l) ⟨mCallB C hM.1 hlk hdd, C.2.2.2.2.1 _ hM.2.1, C.2.2.2.2.1 _ hM.2.2⟩ ⟨mPc.blind, ⟨cell, q1, by rw [q3]; rfl, by rw [q2]; exact hcl⟩, mPc.at (vs := .ref a :: vs) hH C.2.2.2.2.2.1⟩ rfl (by rw [List.length_map]; exact hnp) hl.1 (by simp [mtr]) (lv_room (mcat E hrest)) hd ⟨by omega, by omega⟩) hL fun H1 locs1 hH1 hL1 => ?_
  have := h D p l e R s m args below meth c Z C Rt H1 locs1 ls hH1 hL1 hk hn hl
  rw [mstk]
  exact this
theorem Ev_callS {me2 : mMe} {idx np d2 : Nat} {vs rest : List Value} {r1 : Option Value} (hM : mMs me2 np) (hlk : Cond.methodLink me.1.cls idx me2.1 ∈ mT0) (hC : EvC me2 E d2 0 0 vs M r1 M1) (hst : stk = vs.reverse ++ rest) (hnp : vs.length = np) (hdd : d2 + 1 ≤ d) (hrest : (rest.map fun v => v.category).sum ≤ 8) (hd : decode me.2.1 pc = .ok (.invokestatic idx, 3)) (h : Ev me E d mc ms r Mf (pc + 3) loc (r1.toList ++ rest) M1 k n) : Ev me E d mc ms r Mf pc loc stk M k n := by
  intro D p l e R s m args below meth c Z C Rt H locs ls hH hL hk hn hl
  subst hst
  have hRc := C.2.2.2.2.2.2.2.2.2.1
  have hRs := C.2.2.2.2.2.2.2.2.2.2
  refine mcont (r1 := r1) (M1 := M1) (D := D) (E := E) (rest := rest.map (mtr E)) (va_runS (As := vs.map (mtr E)) (Ts := mT0) (nL := me.2.2.1) ⟨C.1, C.2.1, C.2.2.1, C.2.2.2.1, C.2.2.2.2.1⟩ (hC D l) ⟨mCallB C hM.1 hlk hdd, C.2.2.2.2.1 _ hM.2⟩ ⟨mPc.blind, mPc.at hH C.2.2.2.2.2.1⟩ rfl (by rw [List.length_map]; exact hnp) hl.1 (by simp) (lv_room (mcat E hrest)) hd ⟨by omega, by omega⟩) hL fun H1 locs1 hH1 hL1 => ?_
  have := h D p l e R s m args below meth c Z C Rt H1 locs1 ls hH1 hL1 hk hn hl
  rw [mstk]
  exact this
theorem Ev_callI {me2 : mMe} {idx a np d2 mc2 ms2 : Nat} {vs rest : List Value} (hM : mMi me2 np) (hlk : Cond.methodLink me.1.cls idx me2.1 ∈ mT0 ∨ ∃ host, Cond.methodLinkNest me.1.cls idx me2.1 host ∈ mNw) (hC : EvC me2 E d2 mc2 ms2 (.ref a :: vs) M none M1) (hst : stk = vs.reverse ++ .ref a :: rest) (hnp : vs.length = np) (hdd : d2 + 1 ≤ d) (hkc : k + mc2 ≤ mc) (hns : n + ms2 ≤ ms) (hrest : (rest.map fun v => v.category).sum ≤ 8) (hd : decode me.2.1 pc = .ok (.invokespecial idx, 3)) (h : Ev me E d mc ms r Mf (pc + 3) loc rest M1 (k + mc2) (n + ms2)) : Ev me E d mc ms r Mf pc loc stk M k n := by
  intro D p l e R s m args below meth c Z C Rt H locs ls hH hL hk hn hl
  subst hst
  have hRc := C.2.2.2.2.2.2.2.2.2.1
  have hRs := C.2.2.2.2.2.2.2.2.2.2
  have hRf := C.2.2.2.2.2.2.2.1
  have hRl := C.2.2.2.2.2.2.2.2.1
  have hm := hM.1.2.2.2
  obtain ⟨y2, cc2, L2, ret2⟩ := me2
  obtain ⟨hMd, hin, hini, hrt⟩ := hM
  dsimp only at hrt hini
  subst hrt
  rcases hlk with hlk | ⟨host, hlk⟩
  · refine mcont (r1 := none) (M1 := M1) (D := D) (E := E) (rest := rest.map (mtr E)) (va_runI (As := vs.map (mtr E)) (b := mad E a) (Ts := mT0) (nL := me.2.2.1) ⟨C.1, C.2.1, C.2.2.1, C.2.2.2.1, C.2.2.2.2.1⟩ (hC D l) ⟨mCallB C hMd hlk hdd, hini, C.2.2.2.2.1 _ hin⟩ ⟨mPc.blind, mPc.at (vs := .ref a :: vs) hH C.2.2.2.2.2.1⟩ rfl (by rw [List.length_map]; exact hnp) hl.1 (by simp [mtr]) (lv_room (mcat E hrest)) hd ⟨by omega, by omega⟩) hL fun H1 locs1 hH1 hL1 => ?_
    exact h D p l e R s m args below meth c Z C Rt H1 locs1 ls hH1 hL1 hkc hns hl
  · refine mcont (r1 := none) (M1 := M1) (D := D) (E := E) (rest := rest.map (mtr E)) (va_runIN (As := vs.map (mtr E)) (b := mad E a) (Ts := mT0) (nL := me.2.2.1) (host := host) ⟨C.1, C.2.1, C.2.2.1, C.2.2.2.1, C.2.2.2.2.1⟩ (hC D l) ⟨va_cnB np C.2.2.2.2.1 (mgood hMd.1) rfl rfl rfl (C.2.2.2.2.2.1.2.1 _ hlk) (C.2.2.2.2.1 _ hMd.2.1) hMd.2.2.1 ⟨by show d2 + 1 ≤ _; omega, by show 8 + (L2 + 11) + 40 * d2 ≤ _; dsimp only at hm; omega⟩, hini, C.2.2.2.2.1 _ hin⟩ ⟨mPc.blind, mPc.at (vs := .ref a :: vs) hH C.2.2.2.2.2.1⟩ rfl (by rw [List.length_map]; exact hnp) hl.1 (by simp [mtr]) (lv_room (mcat E hrest)) hd ⟨by omega, by omega⟩) hL fun H1 locs1 hH1 hL1 => ?_
    exact h D p l e R s m args below meth c Z C Rt H1 locs1 ls hH1 hL1 hkc hns hl
end MJ
end
section
/-! ===== printed by wip/whole/gen_links.py: methods, and what the tables say of them ===== -/
def mX0_init : mMe := (yX0_init, cX0_init, 2, none)
def mX0_clear : mMe := (yX0_clear, cX0_clear, 1, none)
def mX0_remember : mMe := (yX0_remember, cX0_remember, 2, none)
def mX0_takeBack : mMe := (yX0_takeBack, cX0_takeBack, 2, some .int)
def mX1_init : mMe := (yX1_init, cX1_init, 1, none)
def mX1_add : mMe := (yX1_add, cX1_add, 3, some .int)
def mX1_clear : mMe := (yX1_clear, cX1_clear, 2, some .int)
def mX1_isSo : mMe := (yX1_isSo, cX1_isSo, 4, some .boolean)
def mX2_init : mMe := (yX2_init, cX2_init, 2, none)
def mX2_clear : mMe := (yX2_clear, cX2_clear, 1, none)
def mX2_add : mMe := (yX2_add, cX2_add, 2, none)
def mX2_setTo : mMe := (yX2_setTo, cX2_setTo, 3, none)
def mX2_setFigures : mMe := (yX2_setFigures, cX2_setFigures, 7, none)
def mX2_figures : mMe := (yX2_figures, cX2_figures, 4, some .long)
def mX2_loseLast : mMe := (yX2_loseLast, cX2_loseLast, 1, none)
def mX2_loseFirst : mMe := (yX2_loseFirst, cX2_loseFirst, 2, none)
def mX2_reverse : mMe := (yX2_reverse, cX2_reverse, 3, none)
def mX2_overlapWith : mMe := (yX2_overlapWith, cX2_overlapWith, 3, some .int)
def mX2_endsAs : mMe := (yX2_endsAs, cX2_endsAs, 4, some .boolean)
def mX2_addBehind : mMe := (yX2_addBehind, cX2_addBehind, 3, none)
def mX2_bearsAt : mMe := (yX2_bearsAt, cX2_bearsAt, 4, some .boolean)
def mX2_firstPlaceOf : mMe := (yX2_firstPlaceOf, cX2_firstPlaceOf, 3, some .int)
def mX2_bitsAt : mMe := (yX2_bitsAt, cX2_bitsAt, 2, some .int)
def mX2_placesUnder : mMe := (yX2_placesUnder, cX2_placesUnder, 4, some .int)
def mX3_init : mMe := (yX3_init, cX3_init, 2, none)
def mX3_clear : mMe := (yX3_clear, cX3_clear, 1, none)
def mX3_put : mMe := (yX3_put, cX3_put, 3, some .int)
def mX3_bringBack : mMe := (yX3_bringBack, cX3_bringBack, 3, some .int)
def mX4_init : mMe := (yX4_init, cX4_init, 1, none)
def mX4_setTo : mMe := (yX4_setTo, cX4_setTo, 2, none)
def mX5_init : mMe := (yX5_init, cX5_init, 1, none)
def mX5_add : mMe := (yX5_add, cX5_add, 2, some .int)
def mX5_clear : mMe := (yX5_clear, cX5_clear, 2, some .int)
def mX5_firstFault : mMe := (yX5_firstFault, cX5_firstFault, 4, some .int)
def mX5_stateAfter : mMe := (yX5_stateAfter, cX5_stateAfter, 3, some .int)
def mX5_isFigure : mMe := (yX5_isFigure, cX5_isFigure, 2, some .boolean)
def mX5_isBend : mMe := (yX5_isBend, cX5_isBend, 1, some .boolean)
def mX5_tellTo : mMe := (yX5_tellTo, cX5_tellTo, 3, none)
def mX6_init : mMe := (yX6_init, cX6_init, 2, none)
def mX6_clear : mMe := (yX6_clear, cX6_clear, 1, none)
def mX6_setTo : mMe := (yX6_setTo, cX6_setTo, 3, none)
def mX6_begin : mMe := (yX6_begin, cX6_begin, 3, none)
def mX6_bendLast : mMe := (yX6_bendLast, cX6_bendLast, 2, none)
def mX6_has : mMe := (yX6_has, cX6_has, 2, some .boolean)
def mX6_whoIsThere : mMe := (yX6_whoIsThere, cX6_whoIsThere, 3, some .int)
def mX6_bendsFrom : mMe := (yX6_bendsFrom, cX6_bendsFrom, 4, some .int)
def mX6_housesInUse : mMe := (yX6_housesInUse, cX6_housesInUse, 3, some .int)
def mX6_countIn : mMe := (yX6_countIn, cX6_countIn, 4, some .int)
def mX6_passWinter : mMe := (yX6_passWinter, cX6_passWinter, 3, some .int)
def mX6_winterOf : mMe := (yX6_winterOf, cX6_winterOf, 3, none)
def mX6_floodFrom : mMe := (yX6_floodFrom, cX6_floodFrom, 3, none)
def mX6_hangIn : mMe := (yX6_hangIn, cX6_hangIn, 3, some .int)
def mX6_turnAbout : mMe := (yX6_turnAbout, cX6_turnAbout, 2, some .int)
def mX6_snipEnd : mMe := (yX6_snipEnd, cX6_snipEnd, 3, some .int)
def mX6_joinTo : mMe := (yX6_joinTo, cX6_joinTo, 5, some .int)
def mX7_init : mMe := (yX7_init, cX7_init, 1, none)
def mX7_write : mMe := (yX7_write, cX7_write, 2, some .int)
def mX7_wipe : mMe := (yX7_wipe, cX7_wipe, 1, some .int)
def mX7_fault : mMe := (yX7_fault, cX7_fault, 1, some .int)
def mX7_valley : mMe := (yX7_valley, cX7_valley, 1, some .int)
def mX7_bed : mMe := (yX7_bed, cX7_bed, 5, some .int)
def mX7_strand : mMe := (yX7_strand, cX7_strand, 4, some .int)
def mX7_bends : mMe := (yX7_bends, cX7_bends, 2, some .long)
def mX7_isRowOfBends : mMe := (yX7_isRowOfBends, cX7_isRowOfBends, 8, some .boolean)
def mX7_winter : mMe := (yX7_winter, cX7_winter, 1, some .int)
def mX7_hang : mMe := (yX7_hang, cX7_hang, 3, some .int)
def mX7_turn : mMe := (yX7_turn, cX7_turn, 2, some .int)
def mX7_snip : mMe := (yX7_snip, cX7_snip, 2, some .int)
def mX7_join : mMe := (yX7_join, cX7_join, 3, some .int)
def mX7_undo : mMe := (yX7_undo, cX7_undo, 1, some .int)
def mX7_take : mMe := (yX7_take, cX7_take, 2, some .int)
def mX7_later : mMe := (yX7_later, cX7_later, 4, some .int)
def mX7_lasts : mMe := (yX7_lasts, cX7_lasts, 3, some .int)
def mX7_overlap : mMe := (yX7_overlap, cX7_overlap, 3, some .int)
def mX7_river : mMe := (yX7_river, cX7_river, 7, some .int)
def mX7_isOrder : mMe := (yX7_isOrder, cX7_isOrder, 5, some .boolean)
def mX7_flow : mMe := (yX7_flow, cX7_flow, 6, some .int)
def mX7_figureOf : mMe := (yX7_figureOf, cX7_figureOf, 3, some .int)
def mX7_covered : mMe := (yX7_covered, cX7_covered, 3, some .int)
def mX7_findCovers : mMe := (yX7_findCovers, cX7_findCovers, 2, none)
def mX7_wholeBed : mMe := (yX7_wholeBed, cX7_wholeBed, 1, some .int)
def mX7_ways : mMe := (yX7_ways, cX7_ways, 1, some .int)
def mX7_waysFrom : mMe := (yX7_waysFrom, cX7_waysFrom, 7, some .int)
def mX7_judge : mMe := (yX7_judge, cX7_judge, 9, some .int)
def mX7_canBe : mMe := (yX7_canBe, cX7_canBe, 4, some .boolean)
def mX7_lay : mMe := (yX7_lay, cX7_lay, 3, some .int)
def mX7_unlay : mMe := (yX7_unlay, cX7_unlay, 1, some .int)
def mX7_which : mMe := (yX7_which, cX7_which, 5, some .int)
def mX7_guessRow : mMe := (yX7_guessRow, cX7_guessRow, 4, none)
def mX7_share : mMe := (yX7_share, cX7_share, 5, some .int)
def mX7_coversOn : mMe := (yX7_coversOn, cX7_coversOn, 4, some .int)
def mX7_rests : mMe := (yX7_rests, cX7_rests, 6, some .int)
def mX7_findGains : mMe := (yX7_findGains, cX7_findGains, 4, none)
def mX7_gainOf : mMe := (yX7_gainOf, cX7_gainOf, 3, some .int)
def mX7_isRest : mMe := (yX7_isRest, cX7_isRest, 5, some .boolean)
def mX7_lost : mMe := (yX7_lost, cX7_lost, 7, some .int)
def mX7_coveredBy : mMe := (yX7_coveredBy, cX7_coveredBy, 4, some .int)
def mX7_chanceOf : mMe := (yX7_chanceOf, cX7_chanceOf, 5, some .int)
def mX7_partOfFraction : mMe := (yX7_partOfFraction, cX7_partOfFraction, 4, some .int)
def mX7_commonDivisor : mMe := (yX7_commonDivisor, cX7_commonDivisor, 6, some .int)
def mX7_seed : mMe := (yX7_seed, cX7_seed, 5, some .long)
def mX7_years : mMe := (yX7_years, cX7_years, 4, some .int)
def mX7_doByChance : mMe := (yX7_doByChance, cX7_doByChance, 2, none)
def mX7_keep : mMe := (yX7_keep, cX7_keep, 2, some .int)
def mX7_again : mMe := (yX7_again, cX7_again, 3, some .int)
def mX7_count : mMe := (yX7_count, cX7_count, 2, some .int)
def mX8_init : mMe := (yX8_init, cX8_init, 1, none)
def mX8_in : mMe := (yX8_in, cX8_in, 6, some .boolean)
def mX8_has : mMe := (yX8_has, cX8_has, 2, some .boolean)
def mX8_ones : mMe := (yX8_ones, cX8_ones, 3, some .int)
def mX8_write : mMe := (yX8_write, cX8_write, 2, some .int)
def mX8_wipe : mMe := (yX8_wipe, cX8_wipe, 2, some .int)
def mX8_nextOf : mMe := (yX8_nextOf, cX8_nextOf, 5, some .int)
def mX8_isBend : mMe := (yX8_isBend, cX8_isBend, 1, some .boolean)
def mX8_readText : mMe := (yX8_readText, cX8_readText, 1, some .int)
def mX8_readPart : mMe := (yX8_readPart, cX8_readPart, 3, none)
def mX8_fault : mMe := (yX8_fault, cX8_fault, 1, some .int)
def mX8_valley : mMe := (yX8_valley, cX8_valley, 3, some .int)
def mX8_isThere : mMe := (yX8_isThere, cX8_isThere, 3, some .boolean)
def mX8_bendAt : mMe := (yX8_bendAt, cX8_bendAt, 4, some .int)
def mX8_loseLast : mMe := (yX8_loseLast, cX8_loseLast, 4, none)
def mX8_loseFirst : mMe := (yX8_loseFirst, cX8_loseFirst, 5, none)
def mX8_inHouse : mMe := (yX8_inHouse, cX8_inHouse, 5, some .int)
def mX8_hurt : mMe := (yX8_hurt, cX8_hurt, 5, none)
def mX8_whoIs : mMe := (yX8_whoIs, cX8_whoIs, 4, some .int)
def mX8_passOn : mMe := (yX8_passOn, cX8_passOn, 4, some .int)
def mX8_turnOn : mMe := (yX8_turnOn, cX8_turnOn, 7, none)
def mX8_overlapOf : mMe := (yX8_overlapOf, cX8_overlapOf, 9, some .int)
def mX8_joinedMany : mMe := (yX8_joinedMany, cX8_joinedMany, 4, some .int)
def mX8_isOneHouse : mMe := (yX8_isOneHouse, cX8_isOneHouse, 4, some .boolean)
def mX8_canJoin : mMe := (yX8_canJoin, cX8_canJoin, 4, some .boolean)
def mX8_joinOn : mMe := (yX8_joinOn, cX8_joinOn, 8, none)
def mX8_tenTo : mMe := (yX8_tenTo, cX8_tenTo, 4, some .long)
def mX8_bed : mMe := (yX8_bed, cX8_bed, 6, some .int)
def mX8_liesAt : mMe := (yX8_liesAt, cX8_liesAt, 7, some .boolean)
def mX8_firstPlace : mMe := (yX8_firstPlace, cX8_firstPlace, 4, some .int)
def mX8_coverOf : mMe := (yX8_coverOf, cX8_coverOf, 5, some .int)
def mX8_strand : mMe := (yX8_strand, cX8_strand, 3, some .int)
def mX8_bends : mMe := (yX8_bends, cX8_bends, 5, some .long)
def mX8_keepAct : mMe := (yX8_keepAct, cX8_keepAct, 2, none)
def mX8_winter : mMe := (yX8_winter, cX8_winter, 1, some .int)
def mX8_hang : mMe := (yX8_hang, cX8_hang, 3, some .int)
def mX8_turn : mMe := (yX8_turn, cX8_turn, 2, some .int)
def mX8_snip : mMe := (yX8_snip, cX8_snip, 2, some .int)
def mX8_join : mMe := (yX8_join, cX8_join, 3, some .int)
def mX8_undo : mMe := (yX8_undo, cX8_undo, 2, some .int)
def mX8_layTrial : mMe := (yX8_layTrial, cX8_layTrial, 2, none)
def mX8_later : mMe := (yX8_later, cX8_later, 4, some .int)
def mX8_lasts : mMe := (yX8_lasts, cX8_lasts, 3, some .int)
def mX8_overlap : mMe := (yX8_overlap, cX8_overlap, 3, some .int)
def mX8_flowOn : mMe := (yX8_flowOn, cX8_flowOn, 5, none)
def mX8_goesOn : mMe := (yX8_goesOn, cX8_goesOn, 5, some .boolean)
def mX8_riverBy : mMe := (yX8_riverBy, cX8_riverBy, 7, some .int)
def mX8_river : mMe := (yX8_river, cX8_river, 10, some .int)
def mX8_covered : mMe := (yX8_covered, cX8_covered, 1, some .int)
def mX8_ways : mMe := (yX8_ways, cX8_ways, 3, some .int)
def mX8_isWay : mMe := (yX8_isWay, cX8_isWay, 6, some .boolean)
def mX8_tryThing : mMe := (yX8_tryThing, cX8_tryThing, 8, some .boolean)
def mX8_thousandTo : mMe := (yX8_thousandTo, cX8_thousandTo, 1, some .long)
def mX8_judge : mMe := (yX8_judge, cX8_judge, 6, some .int)
def mX8_lay : mMe := (yX8_lay, cX8_lay, 3, some .int)
def mX8_unlay : mMe := (yX8_unlay, cX8_unlay, 2, some .int)
def mX8_fitsAt : mMe := (yX8_fitsAt, cX8_fitsAt, 7, some .boolean)
def mX8_mayBeLaid : mMe := (yX8_mayBeLaid, cX8_mayBeLaid, 5, some .boolean)
def mX8_areBends : mMe := (yX8_areBends, cX8_areBends, 3, some .boolean)
def mX8_which : mMe := (yX8_which, cX8_which, 6, some .int)
def mX8_factorial : mMe := (yX8_factorial, cX8_factorial, 3, some .int)
def mX8_common : mMe := (yX8_common, cX8_common, 5, some .int)
def mX8_share : mMe := (yX8_share, cX8_share, 8, some .int)
def mX8_gain : mMe := (yX8_gain, cX8_gain, 6, some .int)
def mX8_isRest : mMe := (yX8_isRest, cX8_isRest, 7, some .boolean)
def mX8_rests : mMe := (yX8_rests, cX8_rests, 7, some .int)
def mX8_power : mMe := (yX8_power, cX8_power, 4, some .int)
def mX8_lost : mMe := (yX8_lost, cX8_lost, 8, some .int)
def mX8_seed : mMe := (yX8_seed, cX8_seed, 5, some .long)
def mX8_bendsOfAll : mMe := (yX8_bendsOfAll, cX8_bendsOfAll, 4, some .int)
def mX8_years : mMe := (yX8_years, cX8_years, 5, some .int)
def mX8_keep : mMe := (yX8_keep, cX8_keep, 3, some .int)
def mX8_again : mMe := (yX8_again, cX8_again, 3, some .int)
def mX8_usedHouses : mMe := (yX8_usedHouses, cX8_usedHouses, 3, some .int)
def mX8_count : mMe := (yX8_count, cX8_count, 2, some .int)
def mJ6_bitCount_0f7a4 : mMe := (yJ6_bitCount_0f7a4, cJ6_bitCount_0f7a4, 1, some .int)
def mJ9_max_7cf53 : mMe := (yJ9_max_7cf53, cJ9_max_7cf53, 2, some .int)
def mJ9_max_f86c9 : mMe := (yJ9_max_f86c9, cJ9_max_f86c9, 4, some .long)
def mJ9_min_7cf53 : mMe := (yJ9_min_7cf53, cJ9_min_7cf53, 2, some .int)
def mL_law : mMe := (yL_law, cL_law, 4, some .boolean)
theorem md_oi1 : Cond.instanceMethod Lib.objectInit ∈ mT0 := mT0_tbl (i := 18) (by decide +kernel) (by decide +kernel)
theorem md_oi2 : Cond.code Lib.objectInit ⟨#[0xb1]⟩ 1 none ∈ mT0 := mT0_tbl (i := 19) (by decide +kernel) (by decide +kernel)
theorem mdX0_init : mMi mX0_init 0 := ⟨⟨mT0_tbl (i := 101) (by decide +kernel) (by decide +kernel), mT0_tbl (i := 7) (by decide +kernel) (by decide +kernel), (by decide +kernel), (by decide +kernel)⟩, mT0_tbl (i := 100) (by decide +kernel) (by decide +kernel), rfl, rfl⟩
theorem pnX0_init : plainName mX0_init.1.cls = true := (by decide +kernel)
theorem mdX0_clear : mMv mX0_clear 0 := ⟨⟨mT0_tbl (i := 256) (by decide +kernel) (by decide +kernel), mT0_tbl (i := 7) (by decide +kernel) (by decide +kernel), (by decide +kernel), (by decide +kernel)⟩, mT0_tbl (i := 254) (by decide +kernel) (by decide +kernel), mT0_tbl (i := 255) (by decide +kernel) (by decide +kernel)⟩
theorem pnX0_clear : plainName mX0_clear.1.cls = true := (by decide +kernel)
theorem mdX0_remember : mMv mX0_remember 1 := ⟨⟨mT0_tbl (i := 361) (by decide +kernel) (by decide +kernel), mT0_tbl (i := 7) (by decide +kernel) (by decide +kernel), (by decide +kernel), (by decide +kernel)⟩, mT0_tbl (i := 359) (by decide +kernel) (by decide +kernel), mT0_tbl (i := 360) (by decide +kernel) (by decide +kernel)⟩
theorem pnX0_remember : plainName mX0_remember.1.cls = true := (by decide +kernel)
theorem mdX0_takeBack : mMv mX0_takeBack 1 := ⟨⟨mT0_tbl (i := 420) (by decide +kernel) (by decide +kernel), mT0_tbl (i := 7) (by decide +kernel) (by decide +kernel), (by decide +kernel), (by decide +kernel)⟩, mT0_tbl (i := 418) (by decide +kernel) (by decide +kernel), mT0_tbl (i := 419) (by decide +kernel) (by decide +kernel)⟩
theorem pnX0_takeBack : plainName mX0_takeBack.1.cls = true := (by decide +kernel)
theorem mdX1_init : mMi mX1_init 0 := ⟨⟨mT0_tbl (i := 136) (by decide +kernel) (by decide +kernel), mT0_tbl (i := 9) (by decide +kernel) (by decide +kernel), (by decide +kernel), (by decide +kernel)⟩, mT0_tbl (i := 135) (by decide +kernel) (by decide +kernel), rfl, rfl⟩
theorem pnX1_init : plainName mX1_init.1.cls = true := (by decide +kernel)
theorem mdX1_add : mMv mX1_add 2 := ⟨⟨mT0_tbl (i := 502) (by decide +kernel) (by decide +kernel), mT0_tbl (i := 9) (by decide +kernel) (by decide +kernel), (by decide +kernel), (by decide +kernel)⟩, mT0_tbl (i := 500) (by decide +kernel) (by decide +kernel), mT0_tbl (i := 501) (by decide +kernel) (by decide +kernel)⟩
theorem pnX1_add : plainName mX1_add.1.cls = true := (by decide +kernel)
theorem mdX1_clear : mMv mX1_clear 0 := ⟨⟨mT0_tbl (i := 510) (by decide +kernel) (by decide +kernel), mT0_tbl (i := 9) (by decide +kernel) (by decide +kernel), (by decide +kernel), (by decide +kernel)⟩, mT0_tbl (i := 508) (by decide +kernel) (by decide +kernel), mT0_tbl (i := 509) (by decide +kernel) (by decide +kernel)⟩
theorem pnX1_clear : plainName mX1_clear.1.cls = true := (by decide +kernel)
theorem mdX1_isSo : mMv mX1_isSo 2 := ⟨⟨mT0_tbl (i := 523) (by decide +kernel) (by decide +kernel), mT0_tbl (i := 9) (by decide +kernel) (by decide +kernel), (by decide +kernel), (by decide +kernel)⟩, mT0_tbl (i := 521) (by decide +kernel) (by decide +kernel), mT0_tbl (i := 522) (by decide +kernel) (by decide +kernel)⟩
theorem pnX1_isSo : plainName mX1_isSo.1.cls = true := (by decide +kernel)
theorem mdX2_init : mMi mX2_init 1 := ⟨⟨mT0_tbl (i := 52) (by decide +kernel) (by decide +kernel), mT0_tbl (i := 5) (by decide +kernel) (by decide +kernel), (by decide +kernel), (by decide +kernel)⟩, mT0_tbl (i := 51) (by decide +kernel) (by decide +kernel), rfl, rfl⟩
theorem pnX2_init : plainName mX2_init.1.cls = true := (by decide +kernel)
theorem mdX2_clear : mMv mX2_clear 0 := ⟨⟨mT0_tbl (i := 252) (by decide +kernel) (by decide +kernel), mT0_tbl (i := 5) (by decide +kernel) (by decide +kernel), (by decide +kernel), (by decide +kernel)⟩, mT0_tbl (i := 250) (by decide +kernel) (by decide +kernel), mT0_tbl (i := 251) (by decide +kernel) (by decide +kernel)⟩
theorem pnX2_clear : plainName mX2_clear.1.cls = true := (by decide +kernel)
theorem mdX2_add : mMv mX2_add 1 := ⟨⟨mT0_tbl (i := 244) (by decide +kernel) (by decide +kernel), mT0_tbl (i := 5) (by decide +kernel) (by decide +kernel), (by decide +kernel), (by decide +kernel)⟩, mT0_tbl (i := 242) (by decide +kernel) (by decide +kernel), mT0_tbl (i := 243) (by decide +kernel) (by decide +kernel)⟩
theorem pnX2_add : plainName mX2_add.1.cls = true := (by decide +kernel)
theorem mdX2_setTo : mMv mX2_setTo 1 := ⟨⟨mT0_tbl (i := 318) (by decide +kernel) (by decide +kernel), mT0_tbl (i := 5) (by decide +kernel) (by decide +kernel), (by decide +kernel), (by decide +kernel)⟩, mT0_tbl (i := 316) (by decide +kernel) (by decide +kernel), mT0_tbl (i := 317) (by decide +kernel) (by decide +kernel)⟩
theorem pnX2_setTo : plainName mX2_setTo.1.cls = true := (by decide +kernel)
theorem mdX2_setFigures : mMv mX2_setFigures 2 := ⟨⟨mT0_tbl (i := 273) (by decide +kernel) (by decide +kernel), mT0_tbl (i := 5) (by decide +kernel) (by decide +kernel), (by decide +kernel), (by decide +kernel)⟩, mT0_tbl (i := 271) (by decide +kernel) (by decide +kernel), mT0_tbl (i := 272) (by decide +kernel) (by decide +kernel)⟩
theorem pnX2_setFigures : plainName mX2_setFigures.1.cls = true := (by decide +kernel)
theorem mdX2_figures : mMv mX2_figures 0 := ⟨⟨mT0_tbl (i := 301) (by decide +kernel) (by decide +kernel), mT0_tbl (i := 5) (by decide +kernel) (by decide +kernel), (by decide +kernel), (by decide +kernel)⟩, mT0_tbl (i := 299) (by decide +kernel) (by decide +kernel), mT0_tbl (i := 300) (by decide +kernel) (by decide +kernel)⟩
theorem pnX2_figures : plainName mX2_figures.1.cls = true := (by decide +kernel)
theorem mdX2_loseLast : mMv mX2_loseLast 0 := ⟨⟨mT0_tbl (i := 353) (by decide +kernel) (by decide +kernel), mT0_tbl (i := 5) (by decide +kernel) (by decide +kernel), (by decide +kernel), (by decide +kernel)⟩, mT0_tbl (i := 351) (by decide +kernel) (by decide +kernel), mT0_tbl (i := 352) (by decide +kernel) (by decide +kernel)⟩
theorem pnX2_loseLast : plainName mX2_loseLast.1.cls = true := (by decide +kernel)
theorem mdX2_loseFirst : mMv mX2_loseFirst 0 := ⟨⟨mT0_tbl (i := 345) (by decide +kernel) (by decide +kernel), mT0_tbl (i := 5) (by decide +kernel) (by decide +kernel), (by decide +kernel), (by decide +kernel)⟩, mT0_tbl (i := 343) (by decide +kernel) (by decide +kernel), mT0_tbl (i := 344) (by decide +kernel) (by decide +kernel)⟩
theorem pnX2_loseFirst : plainName mX2_loseFirst.1.cls = true := (by decide +kernel)
theorem mdX2_reverse : mMv mX2_reverse 0 := ⟨⟨mT0_tbl (i := 382) (by decide +kernel) (by decide +kernel), mT0_tbl (i := 5) (by decide +kernel) (by decide +kernel), (by decide +kernel), (by decide +kernel)⟩, mT0_tbl (i := 380) (by decide +kernel) (by decide +kernel), mT0_tbl (i := 381) (by decide +kernel) (by decide +kernel)⟩
theorem pnX2_reverse : plainName mX2_reverse.1.cls = true := (by decide +kernel)
theorem mdX2_overlapWith : mMv mX2_overlapWith 1 := ⟨⟨mT0_tbl (i := 402) (by decide +kernel) (by decide +kernel), mT0_tbl (i := 5) (by decide +kernel) (by decide +kernel), (by decide +kernel), (by decide +kernel)⟩, mT0_tbl (i := 400) (by decide +kernel) (by decide +kernel), mT0_tbl (i := 401) (by decide +kernel) (by decide +kernel)⟩
theorem pnX2_overlapWith : plainName mX2_overlapWith.1.cls = true := (by decide +kernel)
theorem mdX2_endsAs : mMv mX2_endsAs 2 := ⟨⟨mT0_tbl (i := 406) (by decide +kernel) (by decide +kernel), mT0_tbl (i := 5) (by decide +kernel) (by decide +kernel), (by decide +kernel), (by decide +kernel)⟩, mT0_tbl (i := 405) (by decide +kernel) (by decide +kernel), mT0_prv (i := 4) (by decide +kernel) (by decide +kernel)⟩
theorem pnX2_endsAs : plainName mX2_endsAs.1.cls = true := (by decide +kernel)
theorem mdX2_addBehind : mMv mX2_addBehind 1 := ⟨⟨mT0_tbl (i := 410) (by decide +kernel) (by decide +kernel), mT0_tbl (i := 5) (by decide +kernel) (by decide +kernel), (by decide +kernel), (by decide +kernel)⟩, mT0_tbl (i := 408) (by decide +kernel) (by decide +kernel), mT0_tbl (i := 409) (by decide +kernel) (by decide +kernel)⟩
theorem pnX2_addBehind : plainName mX2_addBehind.1.cls = true := (by decide +kernel)
theorem mdX2_bearsAt : mMv mX2_bearsAt 2 := ⟨⟨mT0_tbl (i := 293) (by decide +kernel) (by decide +kernel), mT0_tbl (i := 5) (by decide +kernel) (by decide +kernel), (by decide +kernel), (by decide +kernel)⟩, mT0_tbl (i := 291) (by decide +kernel) (by decide +kernel), mT0_tbl (i := 292) (by decide +kernel) (by decide +kernel)⟩
theorem pnX2_bearsAt : plainName mX2_bearsAt.1.cls = true := (by decide +kernel)
theorem mdX2_firstPlaceOf : mMv mX2_firstPlaceOf 1 := ⟨⟨mT0_tbl (i := 289) (by decide +kernel) (by decide +kernel), mT0_tbl (i := 5) (by decide +kernel) (by decide +kernel), (by decide +kernel), (by decide +kernel)⟩, mT0_tbl (i := 287) (by decide +kernel) (by decide +kernel), mT0_tbl (i := 288) (by decide +kernel) (by decide +kernel)⟩
theorem pnX2_firstPlaceOf : plainName mX2_firstPlaceOf.1.cls = true := (by decide +kernel)
theorem mdX2_bitsAt : mMv mX2_bitsAt 1 := ⟨⟨mT0_tbl (i := 468) (by decide +kernel) (by decide +kernel), mT0_tbl (i := 5) (by decide +kernel) (by decide +kernel), (by decide +kernel), (by decide +kernel)⟩, mT0_tbl (i := 466) (by decide +kernel) (by decide +kernel), mT0_tbl (i := 467) (by decide +kernel) (by decide +kernel)⟩
theorem pnX2_bitsAt : plainName mX2_bitsAt.1.cls = true := (by decide +kernel)
theorem mdX2_placesUnder : mMv mX2_placesUnder 1 := ⟨⟨mT0_tbl (i := 464) (by decide +kernel) (by decide +kernel), mT0_tbl (i := 5) (by decide +kernel) (by decide +kernel), (by decide +kernel), (by decide +kernel)⟩, mT0_tbl (i := 462) (by decide +kernel) (by decide +kernel), mT0_tbl (i := 463) (by decide +kernel) (by decide +kernel)⟩
theorem pnX2_placesUnder : plainName mX2_placesUnder.1.cls = true := (by decide +kernel)
theorem mdX3_init : mMi mX3_init 0 := ⟨⟨mT0_tbl (i := 121) (by decide +kernel) (by decide +kernel), mT0_tbl (i := 8) (by decide +kernel) (by decide +kernel), (by decide +kernel), (by decide +kernel)⟩, mT0_tbl (i := 120) (by decide +kernel) (by decide +kernel), rfl, rfl⟩
theorem pnX3_init : plainName mX3_init.1.cls = true := (by decide +kernel)
theorem mdX3_clear : mMv mX3_clear 0 := ⟨⟨mT0_tbl (i := 260) (by decide +kernel) (by decide +kernel), mT0_tbl (i := 8) (by decide +kernel) (by decide +kernel), (by decide +kernel), (by decide +kernel)⟩, mT0_tbl (i := 258) (by decide +kernel) (by decide +kernel), mT0_tbl (i := 259) (by decide +kernel) (by decide +kernel)⟩
theorem pnX3_clear : plainName mX3_clear.1.cls = true := (by decide +kernel)
theorem mdX3_put : mMv mX3_put 2 := ⟨⟨mT0_tbl (i := 592) (by decide +kernel) (by decide +kernel), mT0_tbl (i := 8) (by decide +kernel) (by decide +kernel), (by decide +kernel), (by decide +kernel)⟩, mT0_tbl (i := 590) (by decide +kernel) (by decide +kernel), mT0_tbl (i := 591) (by decide +kernel) (by decide +kernel)⟩
theorem pnX3_put : plainName mX3_put.1.cls = true := (by decide +kernel)
theorem mdX3_bringBack : mMv mX3_bringBack 2 := ⟨⟨mT0_tbl (i := 601) (by decide +kernel) (by decide +kernel), mT0_tbl (i := 8) (by decide +kernel) (by decide +kernel), (by decide +kernel), (by decide +kernel)⟩, mT0_tbl (i := 599) (by decide +kernel) (by decide +kernel), mT0_tbl (i := 600) (by decide +kernel) (by decide +kernel)⟩
theorem pnX3_bringBack : plainName mX3_bringBack.1.cls = true := (by decide +kernel)
theorem mdX4_init : mMi mX4_init 0 := ⟨⟨mT0_tbl (i := 46) (by decide +kernel) (by decide +kernel), mT0_tbl (i := 4) (by decide +kernel) (by decide +kernel), (by decide +kernel), (by decide +kernel)⟩, mT0_tbl (i := 45) (by decide +kernel) (by decide +kernel), rfl, rfl⟩
theorem pnX4_init : plainName mX4_init.1.cls = true := (by decide +kernel)
theorem mdX4_setTo : mMv mX4_setTo 1 := ⟨⟨mT0_tbl (i := 314) (by decide +kernel) (by decide +kernel), mT0_tbl (i := 4) (by decide +kernel) (by decide +kernel), (by decide +kernel), (by decide +kernel)⟩, mT0_tbl (i := 312) (by decide +kernel) (by decide +kernel), mT0_tbl (i := 313) (by decide +kernel) (by decide +kernel)⟩
theorem pnX4_setTo : plainName mX4_setTo.1.cls = true := (by decide +kernel)
theorem mdX5_init : mMi mX5_init 0 := ⟨⟨mT0_tbl (i := 24) (by decide +kernel) (by decide +kernel), mT0_tbl (i := 2) (by decide +kernel) (by decide +kernel), (by decide +kernel), (by decide +kernel)⟩, mT0_tbl (i := 23) (by decide +kernel) (by decide +kernel), rfl, rfl⟩
theorem pnX5_init : plainName mX5_init.1.cls = true := (by decide +kernel)
theorem mdX5_add : mMv mX5_add 1 := ⟨⟨mT0_tbl (i := 199) (by decide +kernel) (by decide +kernel), mT0_tbl (i := 2) (by decide +kernel) (by decide +kernel), (by decide +kernel), (by decide +kernel)⟩, mT0_tbl (i := 197) (by decide +kernel) (by decide +kernel), mT0_tbl (i := 198) (by decide +kernel) (by decide +kernel)⟩
theorem pnX5_add : plainName mX5_add.1.cls = true := (by decide +kernel)
theorem mdX5_clear : mMv mX5_clear 0 := ⟨⟨mT0_tbl (i := 207) (by decide +kernel) (by decide +kernel), mT0_tbl (i := 2) (by decide +kernel) (by decide +kernel), (by decide +kernel), (by decide +kernel)⟩, mT0_tbl (i := 205) (by decide +kernel) (by decide +kernel), mT0_tbl (i := 206) (by decide +kernel) (by decide +kernel)⟩
theorem pnX5_clear : plainName mX5_clear.1.cls = true := (by decide +kernel)
theorem mdX5_firstFault : mMv mX5_firstFault 0 := ⟨⟨mT0_tbl (i := 215) (by decide +kernel) (by decide +kernel), mT0_tbl (i := 2) (by decide +kernel) (by decide +kernel), (by decide +kernel), (by decide +kernel)⟩, mT0_tbl (i := 213) (by decide +kernel) (by decide +kernel), mT0_tbl (i := 214) (by decide +kernel) (by decide +kernel)⟩
theorem pnX5_firstFault : plainName mX5_firstFault.1.cls = true := (by decide +kernel)
theorem mdX5_stateAfter : mMs mX5_stateAfter 3 := ⟨⟨mT0_tbl (i := 218) (by decide +kernel) (by decide +kernel), mT0_tbl (i := 2) (by decide +kernel) (by decide +kernel), (by decide +kernel), (by decide +kernel)⟩, mT0_tbl (i := 217) (by decide +kernel) (by decide +kernel)⟩
theorem pnX5_stateAfter : plainName mX5_stateAfter.1.cls = true := (by decide +kernel)
theorem mdX5_isFigure : mMs mX5_isFigure 2 := ⟨⟨mT0_tbl (i := 221) (by decide +kernel) (by decide +kernel), mT0_tbl (i := 2) (by decide +kernel) (by decide +kernel), (by decide +kernel), (by decide +kernel)⟩, mT0_tbl (i := 220) (by decide +kernel) (by decide +kernel)⟩
theorem pnX5_isFigure : plainName mX5_isFigure.1.cls = true := (by decide +kernel)
theorem mdX5_isBend : mMs mX5_isBend 1 := ⟨⟨mT0_tbl (i := 224) (by decide +kernel) (by decide +kernel), mT0_tbl (i := 2) (by decide +kernel) (by decide +kernel), (by decide +kernel), (by decide +kernel)⟩, mT0_tbl (i := 223) (by decide +kernel) (by decide +kernel)⟩
theorem pnX5_isBend : plainName mX5_isBend.1.cls = true := (by decide +kernel)
theorem mdX5_tellTo : mMv mX5_tellTo 1 := ⟨⟨mT0_tbl (i := 232) (by decide +kernel) (by decide +kernel), mT0_tbl (i := 2) (by decide +kernel) (by decide +kernel), (by decide +kernel), (by decide +kernel)⟩, mT0_tbl (i := 230) (by decide +kernel) (by decide +kernel), mT0_tbl (i := 231) (by decide +kernel) (by decide +kernel)⟩
theorem pnX5_tellTo : plainName mX5_tellTo.1.cls = true := (by decide +kernel)
theorem mdX6_init : mMi mX6_init 0 := ⟨⟨mT0_tbl (i := 39) (by decide +kernel) (by decide +kernel), mT0_tbl (i := 3) (by decide +kernel) (by decide +kernel), (by decide +kernel), (by decide +kernel)⟩, mT0_tbl (i := 38) (by decide +kernel) (by decide +kernel), rfl, rfl⟩
theorem pnX6_init : plainName mX6_init.1.cls = true := (by decide +kernel)
theorem mdX6_clear : mMv mX6_clear 0 := ⟨⟨mT0_tbl (i := 236) (by decide +kernel) (by decide +kernel), mT0_tbl (i := 3) (by decide +kernel) (by decide +kernel), (by decide +kernel), (by decide +kernel)⟩, mT0_tbl (i := 234) (by decide +kernel) (by decide +kernel), mT0_tbl (i := 235) (by decide +kernel) (by decide +kernel)⟩
theorem pnX6_clear : plainName mX6_clear.1.cls = true := (by decide +kernel)
theorem mdX6_setTo : mMv mX6_setTo 1 := ⟨⟨mT0_tbl (i := 310) (by decide +kernel) (by decide +kernel), mT0_tbl (i := 3) (by decide +kernel) (by decide +kernel), (by decide +kernel), (by decide +kernel)⟩, mT0_tbl (i := 308) (by decide +kernel) (by decide +kernel), mT0_tbl (i := 309) (by decide +kernel) (by decide +kernel)⟩
theorem pnX6_setTo : plainName mX6_setTo.1.cls = true := (by decide +kernel)
theorem mdX6_begin : mMv mX6_begin 2 := ⟨⟨mT0_tbl (i := 248) (by decide +kernel) (by decide +kernel), mT0_tbl (i := 3) (by decide +kernel) (by decide +kernel), (by decide +kernel), (by decide +kernel)⟩, mT0_tbl (i := 246) (by decide +kernel) (by decide +kernel), mT0_tbl (i := 247) (by decide +kernel) (by decide +kernel)⟩
theorem pnX6_begin : plainName mX6_begin.1.cls = true := (by decide +kernel)
theorem mdX6_bendLast : mMv mX6_bendLast 1 := ⟨⟨mT0_tbl (i := 240) (by decide +kernel) (by decide +kernel), mT0_tbl (i := 3) (by decide +kernel) (by decide +kernel), (by decide +kernel), (by decide +kernel)⟩, mT0_tbl (i := 238) (by decide +kernel) (by decide +kernel), mT0_tbl (i := 239) (by decide +kernel) (by decide +kernel)⟩
theorem pnX6_bendLast : plainName mX6_bendLast.1.cls = true := (by decide +kernel)
theorem mdX6_has : mMv mX6_has 1 := ⟨⟨mT0_tbl (i := 285) (by decide +kernel) (by decide +kernel), mT0_tbl (i := 3) (by decide +kernel) (by decide +kernel), (by decide +kernel), (by decide +kernel)⟩, mT0_tbl (i := 283) (by decide +kernel) (by decide +kernel), mT0_tbl (i := 284) (by decide +kernel) (by decide +kernel)⟩
theorem pnX6_has : plainName mX6_has.1.cls = true := (by decide +kernel)
theorem mdX6_whoIsThere : mMv mX6_whoIsThere 0 := ⟨⟨mT0_tbl (i := 326) (by decide +kernel) (by decide +kernel), mT0_tbl (i := 3) (by decide +kernel) (by decide +kernel), (by decide +kernel), (by decide +kernel)⟩, mT0_tbl (i := 324) (by decide +kernel) (by decide +kernel), mT0_tbl (i := 325) (by decide +kernel) (by decide +kernel)⟩
theorem pnX6_whoIsThere : plainName mX6_whoIsThere.1.cls = true := (by decide +kernel)
theorem mdX6_bendsFrom : mMv mX6_bendsFrom 1 := ⟨⟨mT0_tbl (i := 479) (by decide +kernel) (by decide +kernel), mT0_tbl (i := 3) (by decide +kernel) (by decide +kernel), (by decide +kernel), (by decide +kernel)⟩, mT0_tbl (i := 477) (by decide +kernel) (by decide +kernel), mT0_tbl (i := 478) (by decide +kernel) (by decide +kernel)⟩
theorem pnX6_bendsFrom : plainName mX6_bendsFrom.1.cls = true := (by decide +kernel)
theorem mdX6_housesInUse : mMv mX6_housesInUse 0 := ⟨⟨mT0_tbl (i := 609) (by decide +kernel) (by decide +kernel), mT0_tbl (i := 3) (by decide +kernel) (by decide +kernel), (by decide +kernel), (by decide +kernel)⟩, mT0_tbl (i := 607) (by decide +kernel) (by decide +kernel), mT0_tbl (i := 608) (by decide +kernel) (by decide +kernel)⟩
theorem pnX6_housesInUse : plainName mX6_housesInUse.1.cls = true := (by decide +kernel)
theorem mdX6_countIn : mMv mX6_countIn 1 := ⟨⟨mT0_tbl (i := 349) (by decide +kernel) (by decide +kernel), mT0_tbl (i := 3) (by decide +kernel) (by decide +kernel), (by decide +kernel), (by decide +kernel)⟩, mT0_tbl (i := 348) (by decide +kernel) (by decide +kernel), mT0_prv (i := 2) (by decide +kernel) (by decide +kernel)⟩
theorem pnX6_countIn : plainName mX6_countIn.1.cls = true := (by decide +kernel)
theorem mdX6_passWinter : mMv mX6_passWinter 0 := ⟨⟨mT0_tbl (i := 322) (by decide +kernel) (by decide +kernel), mT0_tbl (i := 3) (by decide +kernel) (by decide +kernel), (by decide +kernel), (by decide +kernel)⟩, mT0_tbl (i := 320) (by decide +kernel) (by decide +kernel), mT0_tbl (i := 321) (by decide +kernel) (by decide +kernel)⟩
theorem pnX6_passWinter : plainName mX6_passWinter.1.cls = true := (by decide +kernel)
theorem mdX6_winterOf : mMv mX6_winterOf 1 := ⟨⟨mT0_tbl (i := 337) (by decide +kernel) (by decide +kernel), mT0_tbl (i := 3) (by decide +kernel) (by decide +kernel), (by decide +kernel), (by decide +kernel)⟩, mT0_tbl (i := 336) (by decide +kernel) (by decide +kernel), mT0_prv (i := 0) (by decide +kernel) (by decide +kernel)⟩
theorem pnX6_winterOf : plainName mX6_winterOf.1.cls = true := (by decide +kernel)
theorem mdX6_floodFrom : mMv mX6_floodFrom 1 := ⟨⟨mT0_tbl (i := 341) (by decide +kernel) (by decide +kernel), mT0_tbl (i := 3) (by decide +kernel) (by decide +kernel), (by decide +kernel), (by decide +kernel)⟩, mT0_tbl (i := 340) (by decide +kernel) (by decide +kernel), mT0_prv (i := 1) (by decide +kernel) (by decide +kernel)⟩
theorem pnX6_floodFrom : plainName mX6_floodFrom.1.cls = true := (by decide +kernel)
theorem mdX6_hangIn : mMv mX6_hangIn 2 := ⟨⟨mT0_tbl (i := 370) (by decide +kernel) (by decide +kernel), mT0_tbl (i := 3) (by decide +kernel) (by decide +kernel), (by decide +kernel), (by decide +kernel)⟩, mT0_tbl (i := 368) (by decide +kernel) (by decide +kernel), mT0_tbl (i := 369) (by decide +kernel) (by decide +kernel)⟩
theorem pnX6_hangIn : plainName mX6_hangIn.1.cls = true := (by decide +kernel)
theorem mdX6_turnAbout : mMv mX6_turnAbout 1 := ⟨⟨mT0_tbl (i := 378) (by decide +kernel) (by decide +kernel), mT0_tbl (i := 3) (by decide +kernel) (by decide +kernel), (by decide +kernel), (by decide +kernel)⟩, mT0_tbl (i := 376) (by decide +kernel) (by decide +kernel), mT0_tbl (i := 377) (by decide +kernel) (by decide +kernel)⟩
theorem pnX6_turnAbout : plainName mX6_turnAbout.1.cls = true := (by decide +kernel)
theorem mdX6_snipEnd : mMv mX6_snipEnd 1 := ⟨⟨mT0_tbl (i := 390) (by decide +kernel) (by decide +kernel), mT0_tbl (i := 3) (by decide +kernel) (by decide +kernel), (by decide +kernel), (by decide +kernel)⟩, mT0_tbl (i := 388) (by decide +kernel) (by decide +kernel), mT0_tbl (i := 389) (by decide +kernel) (by decide +kernel)⟩
theorem pnX6_snipEnd : plainName mX6_snipEnd.1.cls = true := (by decide +kernel)
theorem mdX6_joinTo : mMv mX6_joinTo 2 := ⟨⟨mT0_tbl (i := 398) (by decide +kernel) (by decide +kernel), mT0_tbl (i := 3) (by decide +kernel) (by decide +kernel), (by decide +kernel), (by decide +kernel)⟩, mT0_tbl (i := 396) (by decide +kernel) (by decide +kernel), mT0_tbl (i := 397) (by decide +kernel) (by decide +kernel)⟩
theorem pnX6_joinTo : plainName mX6_joinTo.1.cls = true := (by decide +kernel)
theorem mdX7_init : mMi mX7_init 0 := ⟨⟨mT0_tbl (i := 16) (by decide +kernel) (by decide +kernel), mT0_tbl (i := 1) (by decide +kernel) (by decide +kernel), (by decide +kernel), (by decide +kernel)⟩, mT0_tbl (i := 15) (by decide +kernel) (by decide +kernel), rfl, rfl⟩
theorem pnX7_init : plainName mX7_init.1.cls = true := (by decide +kernel)
theorem mdX7_write : mMv mX7_write 1 := ⟨⟨mT0_tbl (i := 195) (by decide +kernel) (by decide +kernel), mT0_tbl (i := 1) (by decide +kernel) (by decide +kernel), (by decide +kernel), (by decide +kernel)⟩, mT0_tbl (i := 193) (by decide +kernel) (by decide +kernel), mT0_tbl (i := 194) (by decide +kernel) (by decide +kernel)⟩
theorem pnX7_write : plainName mX7_write.1.cls = true := (by decide +kernel)
theorem mdX7_wipe : mMv mX7_wipe 0 := ⟨⟨mT0_tbl (i := 203) (by decide +kernel) (by decide +kernel), mT0_tbl (i := 1) (by decide +kernel) (by decide +kernel), (by decide +kernel), (by decide +kernel)⟩, mT0_tbl (i := 201) (by decide +kernel) (by decide +kernel), mT0_tbl (i := 202) (by decide +kernel) (by decide +kernel)⟩
theorem pnX7_wipe : plainName mX7_wipe.1.cls = true := (by decide +kernel)
theorem mdX7_fault : mMv mX7_fault 0 := ⟨⟨mT0_tbl (i := 211) (by decide +kernel) (by decide +kernel), mT0_tbl (i := 1) (by decide +kernel) (by decide +kernel), (by decide +kernel), (by decide +kernel)⟩, mT0_tbl (i := 209) (by decide +kernel) (by decide +kernel), mT0_tbl (i := 210) (by decide +kernel) (by decide +kernel)⟩
theorem pnX7_fault : plainName mX7_fault.1.cls = true := (by decide +kernel)
theorem mdX7_valley : mMv mX7_valley 0 := ⟨⟨mT0_tbl (i := 228) (by decide +kernel) (by decide +kernel), mT0_tbl (i := 1) (by decide +kernel) (by decide +kernel), (by decide +kernel), (by decide +kernel)⟩, mT0_tbl (i := 226) (by decide +kernel) (by decide +kernel), mT0_tbl (i := 227) (by decide +kernel) (by decide +kernel)⟩
theorem pnX7_valley : plainName mX7_valley.1.cls = true := (by decide +kernel)
theorem mdX7_bed : mMv mX7_bed 2 := ⟨⟨mT0_tbl (i := 264) (by decide +kernel) (by decide +kernel), mT0_tbl (i := 1) (by decide +kernel) (by decide +kernel), (by decide +kernel), (by decide +kernel)⟩, mT0_tbl (i := 262) (by decide +kernel) (by decide +kernel), mT0_tbl (i := 263) (by decide +kernel) (by decide +kernel)⟩
theorem pnX7_bed : plainName mX7_bed.1.cls = true := (by decide +kernel)
theorem mdX7_strand : mMv mX7_strand 2 := ⟨⟨mT0_tbl (i := 281) (by decide +kernel) (by decide +kernel), mT0_tbl (i := 1) (by decide +kernel) (by decide +kernel), (by decide +kernel), (by decide +kernel)⟩, mT0_tbl (i := 279) (by decide +kernel) (by decide +kernel), mT0_tbl (i := 280) (by decide +kernel) (by decide +kernel)⟩
theorem pnX7_strand : plainName mX7_strand.1.cls = true := (by decide +kernel)
theorem mdX7_bends : mMv mX7_bends 1 := ⟨⟨mT0_tbl (i := 297) (by decide +kernel) (by decide +kernel), mT0_tbl (i := 1) (by decide +kernel) (by decide +kernel), (by decide +kernel), (by decide +kernel)⟩, mT0_tbl (i := 295) (by decide +kernel) (by decide +kernel), mT0_tbl (i := 296) (by decide +kernel) (by decide +kernel)⟩
theorem pnX7_bends : plainName mX7_bends.1.cls = true := (by decide +kernel)
theorem mdX7_isRowOfBends : mMs mX7_isRowOfBends 2 := ⟨⟨mT0_tbl (i := 267) (by decide +kernel) (by decide +kernel), mT0_tbl (i := 1) (by decide +kernel) (by decide +kernel), (by decide +kernel), (by decide +kernel)⟩, mT0_tbl (i := 266) (by decide +kernel) (by decide +kernel)⟩
theorem pnX7_isRowOfBends : plainName mX7_isRowOfBends.1.cls = true := (by decide +kernel)
theorem mdX7_winter : mMv mX7_winter 0 := ⟨⟨mT0_tbl (i := 306) (by decide +kernel) (by decide +kernel), mT0_tbl (i := 1) (by decide +kernel) (by decide +kernel), (by decide +kernel), (by decide +kernel)⟩, mT0_tbl (i := 304) (by decide +kernel) (by decide +kernel), mT0_tbl (i := 305) (by decide +kernel) (by decide +kernel)⟩
theorem pnX7_winter : plainName mX7_winter.1.cls = true := (by decide +kernel)
theorem mdX7_hang : mMv mX7_hang 2 := ⟨⟨mT0_tbl (i := 366) (by decide +kernel) (by decide +kernel), mT0_tbl (i := 1) (by decide +kernel) (by decide +kernel), (by decide +kernel), (by decide +kernel)⟩, mT0_tbl (i := 364) (by decide +kernel) (by decide +kernel), mT0_tbl (i := 365) (by decide +kernel) (by decide +kernel)⟩
theorem pnX7_hang : plainName mX7_hang.1.cls = true := (by decide +kernel)
theorem mdX7_turn : mMv mX7_turn 1 := ⟨⟨mT0_tbl (i := 374) (by decide +kernel) (by decide +kernel), mT0_tbl (i := 1) (by decide +kernel) (by decide +kernel), (by decide +kernel), (by decide +kernel)⟩, mT0_tbl (i := 372) (by decide +kernel) (by decide +kernel), mT0_tbl (i := 373) (by decide +kernel) (by decide +kernel)⟩
theorem pnX7_turn : plainName mX7_turn.1.cls = true := (by decide +kernel)
theorem mdX7_snip : mMv mX7_snip 1 := ⟨⟨mT0_tbl (i := 386) (by decide +kernel) (by decide +kernel), mT0_tbl (i := 1) (by decide +kernel) (by decide +kernel), (by decide +kernel), (by decide +kernel)⟩, mT0_tbl (i := 384) (by decide +kernel) (by decide +kernel), mT0_tbl (i := 385) (by decide +kernel) (by decide +kernel)⟩
theorem pnX7_snip : plainName mX7_snip.1.cls = true := (by decide +kernel)
theorem mdX7_join : mMv mX7_join 2 := ⟨⟨mT0_tbl (i := 394) (by decide +kernel) (by decide +kernel), mT0_tbl (i := 1) (by decide +kernel) (by decide +kernel), (by decide +kernel), (by decide +kernel)⟩, mT0_tbl (i := 392) (by decide +kernel) (by decide +kernel), mT0_tbl (i := 393) (by decide +kernel) (by decide +kernel)⟩
theorem pnX7_join : plainName mX7_join.1.cls = true := (by decide +kernel)
theorem mdX7_undo : mMv mX7_undo 0 := ⟨⟨mT0_tbl (i := 416) (by decide +kernel) (by decide +kernel), mT0_tbl (i := 1) (by decide +kernel) (by decide +kernel), (by decide +kernel), (by decide +kernel)⟩, mT0_tbl (i := 414) (by decide +kernel) (by decide +kernel), mT0_tbl (i := 415) (by decide +kernel) (by decide +kernel)⟩
theorem pnX7_undo : plainName mX7_undo.1.cls = true := (by decide +kernel)
theorem mdX7_take : mMv mX7_take 1 := ⟨⟨mT0_tbl (i := 357) (by decide +kernel) (by decide +kernel), mT0_tbl (i := 1) (by decide +kernel) (by decide +kernel), (by decide +kernel), (by decide +kernel)⟩, mT0_tbl (i := 356) (by decide +kernel) (by decide +kernel), mT0_prv (i := 3) (by decide +kernel) (by decide +kernel)⟩
theorem pnX7_take : plainName mX7_take.1.cls = true := (by decide +kernel)
theorem mdX7_later : mMv mX7_later 2 := ⟨⟨mT0_tbl (i := 424) (by decide +kernel) (by decide +kernel), mT0_tbl (i := 1) (by decide +kernel) (by decide +kernel), (by decide +kernel), (by decide +kernel)⟩, mT0_tbl (i := 422) (by decide +kernel) (by decide +kernel), mT0_tbl (i := 423) (by decide +kernel) (by decide +kernel)⟩
theorem pnX7_later : plainName mX7_later.1.cls = true := (by decide +kernel)
theorem mdX7_lasts : mMv mX7_lasts 1 := ⟨⟨mT0_tbl (i := 428) (by decide +kernel) (by decide +kernel), mT0_tbl (i := 1) (by decide +kernel) (by decide +kernel), (by decide +kernel), (by decide +kernel)⟩, mT0_tbl (i := 426) (by decide +kernel) (by decide +kernel), mT0_tbl (i := 427) (by decide +kernel) (by decide +kernel)⟩
theorem pnX7_lasts : plainName mX7_lasts.1.cls = true := (by decide +kernel)
theorem mdX7_overlap : mMv mX7_overlap 2 := ⟨⟨mT0_tbl (i := 432) (by decide +kernel) (by decide +kernel), mT0_tbl (i := 1) (by decide +kernel) (by decide +kernel), (by decide +kernel), (by decide +kernel)⟩, mT0_tbl (i := 430) (by decide +kernel) (by decide +kernel), mT0_tbl (i := 431) (by decide +kernel) (by decide +kernel)⟩
theorem pnX7_overlap : plainName mX7_overlap.1.cls = true := (by decide +kernel)
theorem mdX7_river : mMv mX7_river 1 := ⟨⟨mT0_tbl (i := 437) (by decide +kernel) (by decide +kernel), mT0_tbl (i := 1) (by decide +kernel) (by decide +kernel), (by decide +kernel), (by decide +kernel)⟩, mT0_tbl (i := 435) (by decide +kernel) (by decide +kernel), mT0_tbl (i := 436) (by decide +kernel) (by decide +kernel)⟩
theorem pnX7_river : plainName mX7_river.1.cls = true := (by decide +kernel)
theorem mdX7_isOrder : mMv mX7_isOrder 2 := ⟨⟨mT0_tbl (i := 443) (by decide +kernel) (by decide +kernel), mT0_tbl (i := 1) (by decide +kernel) (by decide +kernel), (by decide +kernel), (by decide +kernel)⟩, mT0_tbl (i := 442) (by decide +kernel) (by decide +kernel), mT0_prv (i := 5) (by decide +kernel) (by decide +kernel)⟩
theorem pnX7_isOrder : plainName mX7_isOrder.1.cls = true := (by decide +kernel)
theorem mdX7_flow : mMv mX7_flow 2 := ⟨⟨mT0_tbl (i := 450) (by decide +kernel) (by decide +kernel), mT0_tbl (i := 1) (by decide +kernel) (by decide +kernel), (by decide +kernel), (by decide +kernel)⟩, mT0_tbl (i := 449) (by decide +kernel) (by decide +kernel), mT0_prv (i := 6) (by decide +kernel) (by decide +kernel)⟩
theorem pnX7_flow : plainName mX7_flow.1.cls = true := (by decide +kernel)
theorem mdX7_figureOf : mMs mX7_figureOf 3 := ⟨⟨mT0_tbl (i := 446) (by decide +kernel) (by decide +kernel), mT0_tbl (i := 1) (by decide +kernel) (by decide +kernel), (by decide +kernel), (by decide +kernel)⟩, mT0_tbl (i := 445) (by decide +kernel) (by decide +kernel)⟩
theorem pnX7_figureOf : plainName mX7_figureOf.1.cls = true := (by decide +kernel)
theorem mdX7_covered : mMv mX7_covered 0 := ⟨⟨mT0_tbl (i := 456) (by decide +kernel) (by decide +kernel), mT0_tbl (i := 1) (by decide +kernel) (by decide +kernel), (by decide +kernel), (by decide +kernel)⟩, mT0_tbl (i := 454) (by decide +kernel) (by decide +kernel), mT0_tbl (i := 455) (by decide +kernel) (by decide +kernel)⟩
theorem pnX7_covered : plainName mX7_covered.1.cls = true := (by decide +kernel)
theorem mdX7_findCovers : mMv mX7_findCovers 0 := ⟨⟨mT0_tbl (i := 460) (by decide +kernel) (by decide +kernel), mT0_tbl (i := 1) (by decide +kernel) (by decide +kernel), (by decide +kernel), (by decide +kernel)⟩, mT0_tbl (i := 459) (by decide +kernel) (by decide +kernel), mT0_prv (i := 7) (by decide +kernel) (by decide +kernel)⟩
theorem pnX7_findCovers : plainName mX7_findCovers.1.cls = true := (by decide +kernel)
theorem mdX7_wholeBed : mMv mX7_wholeBed 0 := ⟨⟨mT0_tbl (i := 567) (by decide +kernel) (by decide +kernel), mT0_tbl (i := 1) (by decide +kernel) (by decide +kernel), (by decide +kernel), (by decide +kernel)⟩, mT0_tbl (i := 566) (by decide +kernel) (by decide +kernel), mT0_prv (i := 15) (by decide +kernel) (by decide +kernel)⟩
theorem pnX7_wholeBed : plainName mX7_wholeBed.1.cls = true := (by decide +kernel)
theorem mdX7_ways : mMv mX7_ways 0 := ⟨⟨mT0_tbl (i := 472) (by decide +kernel) (by decide +kernel), mT0_tbl (i := 1) (by decide +kernel) (by decide +kernel), (by decide +kernel), (by decide +kernel)⟩, mT0_tbl (i := 470) (by decide +kernel) (by decide +kernel), mT0_tbl (i := 471) (by decide +kernel) (by decide +kernel)⟩
theorem pnX7_ways : plainName mX7_ways.1.cls = true := (by decide +kernel)
theorem mdX7_waysFrom : mMs mX7_waysFrom 4 := ⟨⟨mT0_tbl (i := 475) (by decide +kernel) (by decide +kernel), mT0_tbl (i := 1) (by decide +kernel) (by decide +kernel), (by decide +kernel), (by decide +kernel)⟩, mT0_tbl (i := 474) (by decide +kernel) (by decide +kernel)⟩
theorem pnX7_waysFrom : plainName mX7_waysFrom.1.cls = true := (by decide +kernel)
theorem mdX7_judge : mMv mX7_judge 2 := ⟨⟨mT0_tbl (i := 486) (by decide +kernel) (by decide +kernel), mT0_tbl (i := 1) (by decide +kernel) (by decide +kernel), (by decide +kernel), (by decide +kernel)⟩, mT0_tbl (i := 484) (by decide +kernel) (by decide +kernel), mT0_tbl (i := 485) (by decide +kernel) (by decide +kernel)⟩
theorem pnX7_judge : plainName mX7_judge.1.cls = true := (by decide +kernel)
theorem mdX7_canBe : mMv mX7_canBe 1 := ⟨⟨mT0_tbl (i := 494) (by decide +kernel) (by decide +kernel), mT0_tbl (i := 1) (by decide +kernel) (by decide +kernel), (by decide +kernel), (by decide +kernel)⟩, mT0_tbl (i := 493) (by decide +kernel) (by decide +kernel), mT0_prv (i := 8) (by decide +kernel) (by decide +kernel)⟩
theorem pnX7_canBe : plainName mX7_canBe.1.cls = true := (by decide +kernel)
theorem mdX7_lay : mMv mX7_lay 2 := ⟨⟨mT0_tbl (i := 498) (by decide +kernel) (by decide +kernel), mT0_tbl (i := 1) (by decide +kernel) (by decide +kernel), (by decide +kernel), (by decide +kernel)⟩, mT0_tbl (i := 496) (by decide +kernel) (by decide +kernel), mT0_tbl (i := 497) (by decide +kernel) (by decide +kernel)⟩
theorem pnX7_lay : plainName mX7_lay.1.cls = true := (by decide +kernel)
theorem mdX7_unlay : mMv mX7_unlay 0 := ⟨⟨mT0_tbl (i := 506) (by decide +kernel) (by decide +kernel), mT0_tbl (i := 1) (by decide +kernel) (by decide +kernel), (by decide +kernel), (by decide +kernel)⟩, mT0_tbl (i := 504) (by decide +kernel) (by decide +kernel), mT0_tbl (i := 505) (by decide +kernel) (by decide +kernel)⟩
theorem pnX7_unlay : plainName mX7_unlay.1.cls = true := (by decide +kernel)
theorem mdX7_which : mMv mX7_which 1 := ⟨⟨mT0_tbl (i := 514) (by decide +kernel) (by decide +kernel), mT0_tbl (i := 1) (by decide +kernel) (by decide +kernel), (by decide +kernel), (by decide +kernel)⟩, mT0_tbl (i := 512) (by decide +kernel) (by decide +kernel), mT0_tbl (i := 513) (by decide +kernel) (by decide +kernel)⟩
theorem pnX7_which : plainName mX7_which.1.cls = true := (by decide +kernel)
theorem mdX7_guessRow : mMv mX7_guessRow 2 := ⟨⟨mT0_tbl (i := 518) (by decide +kernel) (by decide +kernel), mT0_tbl (i := 1) (by decide +kernel) (by decide +kernel), (by decide +kernel), (by decide +kernel)⟩, mT0_tbl (i := 517) (by decide +kernel) (by decide +kernel), mT0_prv (i := 9) (by decide +kernel) (by decide +kernel)⟩
theorem pnX7_guessRow : plainName mX7_guessRow.1.cls = true := (by decide +kernel)
theorem mdX7_share : mMv mX7_share 2 := ⟨⟨mT0_tbl (i := 528) (by decide +kernel) (by decide +kernel), mT0_tbl (i := 1) (by decide +kernel) (by decide +kernel), (by decide +kernel), (by decide +kernel)⟩, mT0_tbl (i := 526) (by decide +kernel) (by decide +kernel), mT0_tbl (i := 527) (by decide +kernel) (by decide +kernel)⟩
theorem pnX7_share : plainName mX7_share.1.cls = true := (by decide +kernel)
theorem mdX7_coversOn : mMv mX7_coversOn 1 := ⟨⟨mT0_tbl (i := 532) (by decide +kernel) (by decide +kernel), mT0_tbl (i := 1) (by decide +kernel) (by decide +kernel), (by decide +kernel), (by decide +kernel)⟩, mT0_tbl (i := 531) (by decide +kernel) (by decide +kernel), mT0_prv (i := 10) (by decide +kernel) (by decide +kernel)⟩
theorem pnX7_coversOn : plainName mX7_coversOn.1.cls = true := (by decide +kernel)
theorem mdX7_rests : mMv mX7_rests 3 := ⟨⟨mT0_tbl (i := 543) (by decide +kernel) (by decide +kernel), mT0_tbl (i := 1) (by decide +kernel) (by decide +kernel), (by decide +kernel), (by decide +kernel)⟩, mT0_tbl (i := 541) (by decide +kernel) (by decide +kernel), mT0_tbl (i := 542) (by decide +kernel) (by decide +kernel)⟩
theorem pnX7_rests : plainName mX7_rests.1.cls = true := (by decide +kernel)
theorem mdX7_findGains : mMv mX7_findGains 2 := ⟨⟨mT0_tbl (i := 547) (by decide +kernel) (by decide +kernel), mT0_tbl (i := 1) (by decide +kernel) (by decide +kernel), (by decide +kernel), (by decide +kernel)⟩, mT0_tbl (i := 546) (by decide +kernel) (by decide +kernel), mT0_prv (i := 11) (by decide +kernel) (by decide +kernel)⟩
theorem pnX7_findGains : plainName mX7_findGains.1.cls = true := (by decide +kernel)
theorem mdX7_gainOf : mMv mX7_gainOf 1 := ⟨⟨mT0_tbl (i := 551) (by decide +kernel) (by decide +kernel), mT0_tbl (i := 1) (by decide +kernel) (by decide +kernel), (by decide +kernel), (by decide +kernel)⟩, mT0_tbl (i := 550) (by decide +kernel) (by decide +kernel), mT0_prv (i := 12) (by decide +kernel) (by decide +kernel)⟩
theorem pnX7_gainOf : plainName mX7_gainOf.1.cls = true := (by decide +kernel)
theorem mdX7_isRest : mMv mX7_isRest 1 := ⟨⟨mT0_tbl (i := 555) (by decide +kernel) (by decide +kernel), mT0_tbl (i := 1) (by decide +kernel) (by decide +kernel), (by decide +kernel), (by decide +kernel)⟩, mT0_tbl (i := 554) (by decide +kernel) (by decide +kernel), mT0_prv (i := 13) (by decide +kernel) (by decide +kernel)⟩
theorem pnX7_isRest : plainName mX7_isRest.1.cls = true := (by decide +kernel)
theorem mdX7_lost : mMv mX7_lost 2 := ⟨⟨mT0_tbl (i := 559) (by decide +kernel) (by decide +kernel), mT0_tbl (i := 1) (by decide +kernel) (by decide +kernel), (by decide +kernel), (by decide +kernel)⟩, mT0_tbl (i := 557) (by decide +kernel) (by decide +kernel), mT0_tbl (i := 558) (by decide +kernel) (by decide +kernel)⟩
theorem pnX7_lost : plainName mX7_lost.1.cls = true := (by decide +kernel)
theorem mdX7_coveredBy : mMv mX7_coveredBy 1 := ⟨⟨mT0_tbl (i := 563) (by decide +kernel) (by decide +kernel), mT0_tbl (i := 1) (by decide +kernel) (by decide +kernel), (by decide +kernel), (by decide +kernel)⟩, mT0_tbl (i := 562) (by decide +kernel) (by decide +kernel), mT0_prv (i := 14) (by decide +kernel) (by decide +kernel)⟩
theorem pnX7_coveredBy : plainName mX7_coveredBy.1.cls = true := (by decide +kernel)
theorem mdX7_chanceOf : mMs mX7_chanceOf 3 := ⟨⟨mT0_tbl (i := 570) (by decide +kernel) (by decide +kernel), mT0_tbl (i := 1) (by decide +kernel) (by decide +kernel), (by decide +kernel), (by decide +kernel)⟩, mT0_tbl (i := 569) (by decide +kernel) (by decide +kernel)⟩
theorem pnX7_chanceOf : plainName mX7_chanceOf.1.cls = true := (by decide +kernel)
theorem mdX7_partOfFraction : mMs mX7_partOfFraction 3 := ⟨⟨mT0_tbl (i := 536) (by decide +kernel) (by decide +kernel), mT0_tbl (i := 1) (by decide +kernel) (by decide +kernel), (by decide +kernel), (by decide +kernel)⟩, mT0_tbl (i := 535) (by decide +kernel) (by decide +kernel)⟩
theorem pnX7_partOfFraction : plainName mX7_partOfFraction.1.cls = true := (by decide +kernel)
theorem mdX7_commonDivisor : mMs mX7_commonDivisor 2 := ⟨⟨mT0_tbl (i := 539) (by decide +kernel) (by decide +kernel), mT0_tbl (i := 1) (by decide +kernel) (by decide +kernel), (by decide +kernel), (by decide +kernel)⟩, mT0_tbl (i := 538) (by decide +kernel) (by decide +kernel)⟩
theorem pnX7_commonDivisor : plainName mX7_commonDivisor.1.cls = true := (by decide +kernel)
theorem mdX7_seed : mMv mX7_seed 1 := ⟨⟨mT0_tbl (i := 574) (by decide +kernel) (by decide +kernel), mT0_tbl (i := 1) (by decide +kernel) (by decide +kernel), (by decide +kernel), (by decide +kernel)⟩, mT0_tbl (i := 572) (by decide +kernel) (by decide +kernel), mT0_tbl (i := 573) (by decide +kernel) (by decide +kernel)⟩
theorem pnX7_seed : plainName mX7_seed.1.cls = true := (by decide +kernel)
theorem mdX7_years : mMv mX7_years 1 := ⟨⟨mT0_tbl (i := 578) (by decide +kernel) (by decide +kernel), mT0_tbl (i := 1) (by decide +kernel) (by decide +kernel), (by decide +kernel), (by decide +kernel)⟩, mT0_tbl (i := 576) (by decide +kernel) (by decide +kernel), mT0_tbl (i := 577) (by decide +kernel) (by decide +kernel)⟩
theorem pnX7_years : plainName mX7_years.1.cls = true := (by decide +kernel)
theorem mdX7_doByChance : mMv mX7_doByChance 1 := ⟨⟨mT0_tbl (i := 584) (by decide +kernel) (by decide +kernel), mT0_tbl (i := 1) (by decide +kernel) (by decide +kernel), (by decide +kernel), (by decide +kernel)⟩, mT0_tbl (i := 583) (by decide +kernel) (by decide +kernel), mT0_prv (i := 16) (by decide +kernel) (by decide +kernel)⟩
theorem pnX7_doByChance : plainName mX7_doByChance.1.cls = true := (by decide +kernel)
theorem mdX7_keep : mMv mX7_keep 1 := ⟨⟨mT0_tbl (i := 588) (by decide +kernel) (by decide +kernel), mT0_tbl (i := 1) (by decide +kernel) (by decide +kernel), (by decide +kernel), (by decide +kernel)⟩, mT0_tbl (i := 586) (by decide +kernel) (by decide +kernel), mT0_tbl (i := 587) (by decide +kernel) (by decide +kernel)⟩
theorem pnX7_keep : plainName mX7_keep.1.cls = true := (by decide +kernel)
theorem mdX7_again : mMv mX7_again 1 := ⟨⟨mT0_tbl (i := 597) (by decide +kernel) (by decide +kernel), mT0_tbl (i := 1) (by decide +kernel) (by decide +kernel), (by decide +kernel), (by decide +kernel)⟩, mT0_tbl (i := 595) (by decide +kernel) (by decide +kernel), mT0_tbl (i := 596) (by decide +kernel) (by decide +kernel)⟩
theorem pnX7_again : plainName mX7_again.1.cls = true := (by decide +kernel)
theorem mdX7_count : mMv mX7_count 1 := ⟨⟨mT0_tbl (i := 605) (by decide +kernel) (by decide +kernel), mT0_tbl (i := 1) (by decide +kernel) (by decide +kernel), (by decide +kernel), (by decide +kernel)⟩, mT0_tbl (i := 603) (by decide +kernel) (by decide +kernel), mT0_tbl (i := 604) (by decide +kernel) (by decide +kernel)⟩
theorem pnX7_count : plainName mX7_count.1.cls = true := (by decide +kernel)
theorem mdX8_init : mMi mX8_init 0 := ⟨⟨mT0_tbl (i := 614) (by decide +kernel) (by decide +kernel), mT0_tbl (i := 10) (by decide +kernel) (by decide +kernel), (by decide +kernel), (by decide +kernel)⟩, mT0_tbl (i := 613) (by decide +kernel) (by decide +kernel), rfl, rfl⟩
theorem pnX8_init : plainName mX8_init.1.cls = true := (by decide +kernel)
theorem mdX8_in : mMs mX8_in 3 := ⟨⟨mT0_tbl (i := 696) (by decide +kernel) (by decide +kernel), mT0_tbl (i := 10) (by decide +kernel) (by decide +kernel), (by decide +kernel), (by decide +kernel)⟩, mT0_tbl (i := 695) (by decide +kernel) (by decide +kernel)⟩
theorem pnX8_in : plainName mX8_in.1.cls = true := (by decide +kernel)
theorem mdX8_has : mMs mX8_has 2 := ⟨⟨mT0_tbl (i := 788) (by decide +kernel) (by decide +kernel), mT0_tbl (i := 10) (by decide +kernel) (by decide +kernel), (by decide +kernel), (by decide +kernel)⟩, mT0_tbl (i := 787) (by decide +kernel) (by decide +kernel)⟩
theorem pnX8_has : plainName mX8_has.1.cls = true := (by decide +kernel)
theorem mdX8_ones : mMs mX8_ones 1 := ⟨⟨mT0_tbl (i := 799) (by decide +kernel) (by decide +kernel), mT0_tbl (i := 10) (by decide +kernel) (by decide +kernel), (by decide +kernel), (by decide +kernel)⟩, mT0_tbl (i := 798) (by decide +kernel) (by decide +kernel)⟩
theorem pnX8_ones : plainName mX8_ones.1.cls = true := (by decide +kernel)
theorem mdX8_write : mMv mX8_write 1 := ⟨⟨mT0_tbl (i := 692) (by decide +kernel) (by decide +kernel), mT0_tbl (i := 10) (by decide +kernel) (by decide +kernel), (by decide +kernel), (by decide +kernel)⟩, mT0_tbl (i := 690) (by decide +kernel) (by decide +kernel), mT0_tbl (i := 691) (by decide +kernel) (by decide +kernel)⟩
theorem pnX8_write : plainName mX8_write.1.cls = true := (by decide +kernel)
theorem mdX8_wipe : mMv mX8_wipe 0 := ⟨⟨mT0_tbl (i := 700) (by decide +kernel) (by decide +kernel), mT0_tbl (i := 10) (by decide +kernel) (by decide +kernel), (by decide +kernel), (by decide +kernel)⟩, mT0_tbl (i := 698) (by decide +kernel) (by decide +kernel), mT0_tbl (i := 699) (by decide +kernel) (by decide +kernel)⟩
theorem pnX8_wipe : plainName mX8_wipe.1.cls = true := (by decide +kernel)
theorem mdX8_nextOf : mMv mX8_nextOf 2 := ⟨⟨mT0_tbl (i := 716) (by decide +kernel) (by decide +kernel), mT0_tbl (i := 10) (by decide +kernel) (by decide +kernel), (by decide +kernel), (by decide +kernel)⟩, mT0_tbl (i := 715) (by decide +kernel) (by decide +kernel), mT0_prv (i := 19) (by decide +kernel) (by decide +kernel)⟩
theorem pnX8_nextOf : plainName mX8_nextOf.1.cls = true := (by decide +kernel)
theorem mdX8_isBend : mMv mX8_isBend 0 := ⟨⟨mT0_tbl (i := 720) (by decide +kernel) (by decide +kernel), mT0_tbl (i := 10) (by decide +kernel) (by decide +kernel), (by decide +kernel), (by decide +kernel)⟩, mT0_tbl (i := 719) (by decide +kernel) (by decide +kernel), mT0_prv (i := 20) (by decide +kernel) (by decide +kernel)⟩
theorem pnX8_isBend : plainName mX8_isBend.1.cls = true := (by decide +kernel)
theorem mdX8_readText : mMv mX8_readText 0 := ⟨⟨mT0_tbl (i := 708) (by decide +kernel) (by decide +kernel), mT0_tbl (i := 10) (by decide +kernel) (by decide +kernel), (by decide +kernel), (by decide +kernel)⟩, mT0_tbl (i := 707) (by decide +kernel) (by decide +kernel), mT0_prv (i := 17) (by decide +kernel) (by decide +kernel)⟩
theorem pnX8_readText : plainName mX8_readText.1.cls = true := (by decide +kernel)
theorem mdX8_readPart : mMv mX8_readPart 1 := ⟨⟨mT0_tbl (i := 712) (by decide +kernel) (by decide +kernel), mT0_tbl (i := 10) (by decide +kernel) (by decide +kernel), (by decide +kernel), (by decide +kernel)⟩, mT0_tbl (i := 711) (by decide +kernel) (by decide +kernel), mT0_prv (i := 18) (by decide +kernel) (by decide +kernel)⟩
theorem pnX8_readPart : plainName mX8_readPart.1.cls = true := (by decide +kernel)
theorem mdX8_fault : mMv mX8_fault 0 := ⟨⟨mT0_tbl (i := 704) (by decide +kernel) (by decide +kernel), mT0_tbl (i := 10) (by decide +kernel) (by decide +kernel), (by decide +kernel), (by decide +kernel)⟩, mT0_tbl (i := 702) (by decide +kernel) (by decide +kernel), mT0_tbl (i := 703) (by decide +kernel) (by decide +kernel)⟩
theorem pnX8_fault : plainName mX8_fault.1.cls = true := (by decide +kernel)
theorem mdX8_valley : mMv mX8_valley 0 := ⟨⟨mT0_tbl (i := 726) (by decide +kernel) (by decide +kernel), mT0_tbl (i := 10) (by decide +kernel) (by decide +kernel), (by decide +kernel), (by decide +kernel)⟩, mT0_tbl (i := 724) (by decide +kernel) (by decide +kernel), mT0_tbl (i := 725) (by decide +kernel) (by decide +kernel)⟩
theorem pnX8_valley : plainName mX8_valley.1.cls = true := (by decide +kernel)
theorem mdX8_isThere : mMv mX8_isThere 2 := ⟨⟨mT0_tbl (i := 744) (by decide +kernel) (by decide +kernel), mT0_tbl (i := 10) (by decide +kernel) (by decide +kernel), (by decide +kernel), (by decide +kernel)⟩, mT0_tbl (i := 743) (by decide +kernel) (by decide +kernel), mT0_prv (i := 21) (by decide +kernel) (by decide +kernel)⟩
theorem pnX8_isThere : plainName mX8_isThere.1.cls = true := (by decide +kernel)
theorem mdX8_bendAt : mMv mX8_bendAt 3 := ⟨⟨mT0_tbl (i := 756) (by decide +kernel) (by decide +kernel), mT0_tbl (i := 10) (by decide +kernel) (by decide +kernel), (by decide +kernel), (by decide +kernel)⟩, mT0_tbl (i := 755) (by decide +kernel) (by decide +kernel), mT0_prv (i := 24) (by decide +kernel) (by decide +kernel)⟩
theorem pnX8_bendAt : plainName mX8_bendAt.1.cls = true := (by decide +kernel)
theorem mdX8_loseLast : mMv mX8_loseLast 2 := ⟨⟨mT0_tbl (i := 796) (by decide +kernel) (by decide +kernel), mT0_tbl (i := 10) (by decide +kernel) (by decide +kernel), (by decide +kernel), (by decide +kernel)⟩, mT0_tbl (i := 795) (by decide +kernel) (by decide +kernel), mT0_prv (i := 31) (by decide +kernel) (by decide +kernel)⟩
theorem pnX8_loseLast : plainName mX8_loseLast.1.cls = true := (by decide +kernel)
theorem mdX8_loseFirst : mMv mX8_loseFirst 2 := ⟨⟨mT0_tbl (i := 792) (by decide +kernel) (by decide +kernel), mT0_tbl (i := 10) (by decide +kernel) (by decide +kernel), (by decide +kernel), (by decide +kernel)⟩, mT0_tbl (i := 791) (by decide +kernel) (by decide +kernel), mT0_prv (i := 30) (by decide +kernel) (by decide +kernel)⟩
theorem pnX8_loseFirst : plainName mX8_loseFirst.1.cls = true := (by decide +kernel)
theorem mdX8_inHouse : mMv mX8_inHouse 2 := ⟨⟨mT0_tbl (i := 785) (by decide +kernel) (by decide +kernel), mT0_tbl (i := 10) (by decide +kernel) (by decide +kernel), (by decide +kernel), (by decide +kernel)⟩, mT0_tbl (i := 784) (by decide +kernel) (by decide +kernel), mT0_prv (i := 29) (by decide +kernel) (by decide +kernel)⟩
theorem pnX8_inHouse : plainName mX8_inHouse.1.cls = true := (by decide +kernel)
theorem mdX8_hurt : mMv mX8_hurt 2 := ⟨⟨mT0_tbl (i := 781) (by decide +kernel) (by decide +kernel), mT0_tbl (i := 10) (by decide +kernel) (by decide +kernel), (by decide +kernel), (by decide +kernel)⟩, mT0_tbl (i := 780) (by decide +kernel) (by decide +kernel), mT0_prv (i := 28) (by decide +kernel) (by decide +kernel)⟩
theorem pnX8_hurt : plainName mX8_hurt.1.cls = true := (by decide +kernel)
theorem mdX8_whoIs : mMv mX8_whoIs 1 := ⟨⟨mT0_tbl (i := 777) (by decide +kernel) (by decide +kernel), mT0_tbl (i := 10) (by decide +kernel) (by decide +kernel), (by decide +kernel), (by decide +kernel)⟩, mT0_tbl (i := 776) (by decide +kernel) (by decide +kernel), mT0_prv (i := 27) (by decide +kernel) (by decide +kernel)⟩
theorem pnX8_whoIs : plainName mX8_whoIs.1.cls = true := (by decide +kernel)
theorem mdX8_passOn : mMv mX8_passOn 1 := ⟨⟨mT0_tbl (i := 773) (by decide +kernel) (by decide +kernel), mT0_tbl (i := 10) (by decide +kernel) (by decide +kernel), (by decide +kernel), (by decide +kernel)⟩, mT0_tbl (i := 772) (by decide +kernel) (by decide +kernel), mT0_prv (i := 26) (by decide +kernel) (by decide +kernel)⟩
theorem pnX8_passOn : plainName mX8_passOn.1.cls = true := (by decide +kernel)
theorem mdX8_turnOn : mMv mX8_turnOn 2 := ⟨⟨mT0_tbl (i := 812) (by decide +kernel) (by decide +kernel), mT0_tbl (i := 10) (by decide +kernel) (by decide +kernel), (by decide +kernel), (by decide +kernel)⟩, mT0_tbl (i := 811) (by decide +kernel) (by decide +kernel), mT0_prv (i := 32) (by decide +kernel) (by decide +kernel)⟩
theorem pnX8_turnOn : plainName mX8_turnOn.1.cls = true := (by decide +kernel)
theorem mdX8_overlapOf : mMv mX8_overlapOf 3 := ⟨⟨mT0_tbl (i := 836) (by decide +kernel) (by decide +kernel), mT0_tbl (i := 10) (by decide +kernel) (by decide +kernel), (by decide +kernel), (by decide +kernel)⟩, mT0_tbl (i := 835) (by decide +kernel) (by decide +kernel), mT0_prv (i := 36) (by decide +kernel) (by decide +kernel)⟩
theorem pnX8_overlapOf : plainName mX8_overlapOf.1.cls = true := (by decide +kernel)
theorem mdX8_joinedMany : mMv mX8_joinedMany 3 := ⟨⟨mT0_tbl (i := 832) (by decide +kernel) (by decide +kernel), mT0_tbl (i := 10) (by decide +kernel) (by decide +kernel), (by decide +kernel), (by decide +kernel)⟩, mT0_tbl (i := 831) (by decide +kernel) (by decide +kernel), mT0_prv (i := 35) (by decide +kernel) (by decide +kernel)⟩
theorem pnX8_joinedMany : plainName mX8_joinedMany.1.cls = true := (by decide +kernel)
theorem mdX8_isOneHouse : mMv mX8_isOneHouse 3 := ⟨⟨mT0_tbl (i := 824) (by decide +kernel) (by decide +kernel), mT0_tbl (i := 10) (by decide +kernel) (by decide +kernel), (by decide +kernel), (by decide +kernel)⟩, mT0_tbl (i := 823) (by decide +kernel) (by decide +kernel), mT0_prv (i := 33) (by decide +kernel) (by decide +kernel)⟩
theorem pnX8_isOneHouse : plainName mX8_isOneHouse.1.cls = true := (by decide +kernel)
theorem mdX8_canJoin : mMv mX8_canJoin 3 := ⟨⟨mT0_tbl (i := 828) (by decide +kernel) (by decide +kernel), mT0_tbl (i := 10) (by decide +kernel) (by decide +kernel), (by decide +kernel), (by decide +kernel)⟩, mT0_tbl (i := 827) (by decide +kernel) (by decide +kernel), mT0_prv (i := 34) (by decide +kernel) (by decide +kernel)⟩
theorem pnX8_canJoin : plainName mX8_canJoin.1.cls = true := (by decide +kernel)
theorem mdX8_joinOn : mMv mX8_joinOn 3 := ⟨⟨mT0_tbl (i := 840) (by decide +kernel) (by decide +kernel), mT0_tbl (i := 10) (by decide +kernel) (by decide +kernel), (by decide +kernel), (by decide +kernel)⟩, mT0_tbl (i := 839) (by decide +kernel) (by decide +kernel), mT0_prv (i := 37) (by decide +kernel) (by decide +kernel)⟩
theorem pnX8_joinOn : plainName mX8_joinOn.1.cls = true := (by decide +kernel)
theorem mdX8_tenTo : mMs mX8_tenTo 1 := ⟨⟨mT0_tbl (i := 734) (by decide +kernel) (by decide +kernel), mT0_tbl (i := 10) (by decide +kernel) (by decide +kernel), (by decide +kernel), (by decide +kernel)⟩, mT0_tbl (i := 733) (by decide +kernel) (by decide +kernel)⟩
theorem pnX8_tenTo : plainName mX8_tenTo.1.cls = true := (by decide +kernel)
theorem mdX8_bed : mMv mX8_bed 2 := ⟨⟨mT0_tbl (i := 730) (by decide +kernel) (by decide +kernel), mT0_tbl (i := 10) (by decide +kernel) (by decide +kernel), (by decide +kernel), (by decide +kernel)⟩, mT0_tbl (i := 728) (by decide +kernel) (by decide +kernel), mT0_tbl (i := 729) (by decide +kernel) (by decide +kernel)⟩
theorem pnX8_bed : plainName mX8_bed.1.cls = true := (by decide +kernel)
theorem mdX8_liesAt : mMv mX8_liesAt 3 := ⟨⟨mT0_tbl (i := 752) (by decide +kernel) (by decide +kernel), mT0_tbl (i := 10) (by decide +kernel) (by decide +kernel), (by decide +kernel), (by decide +kernel)⟩, mT0_tbl (i := 751) (by decide +kernel) (by decide +kernel), mT0_prv (i := 23) (by decide +kernel) (by decide +kernel)⟩
theorem pnX8_liesAt : plainName mX8_liesAt.1.cls = true := (by decide +kernel)
theorem mdX8_firstPlace : mMv mX8_firstPlace 2 := ⟨⟨mT0_tbl (i := 748) (by decide +kernel) (by decide +kernel), mT0_tbl (i := 10) (by decide +kernel) (by decide +kernel), (by decide +kernel), (by decide +kernel)⟩, mT0_tbl (i := 747) (by decide +kernel) (by decide +kernel), mT0_prv (i := 22) (by decide +kernel) (by decide +kernel)⟩
theorem pnX8_firstPlace : plainName mX8_firstPlace.1.cls = true := (by decide +kernel)
theorem mdX8_coverOf : mMv mX8_coverOf 1 := ⟨⟨mT0_tbl (i := 885) (by decide +kernel) (by decide +kernel), mT0_tbl (i := 10) (by decide +kernel) (by decide +kernel), (by decide +kernel), (by decide +kernel)⟩, mT0_tbl (i := 884) (by decide +kernel) (by decide +kernel), mT0_prv (i := 42) (by decide +kernel) (by decide +kernel)⟩
theorem pnX8_coverOf : plainName mX8_coverOf.1.cls = true := (by decide +kernel)
theorem mdX8_strand : mMv mX8_strand 2 := ⟨⟨mT0_tbl (i := 740) (by decide +kernel) (by decide +kernel), mT0_tbl (i := 10) (by decide +kernel) (by decide +kernel), (by decide +kernel), (by decide +kernel)⟩, mT0_tbl (i := 738) (by decide +kernel) (by decide +kernel), mT0_tbl (i := 739) (by decide +kernel) (by decide +kernel)⟩
theorem pnX8_strand : plainName mX8_strand.1.cls = true := (by decide +kernel)
theorem mdX8_bends : mMv mX8_bends 1 := ⟨⟨mT0_tbl (i := 760) (by decide +kernel) (by decide +kernel), mT0_tbl (i := 10) (by decide +kernel) (by decide +kernel), (by decide +kernel), (by decide +kernel)⟩, mT0_tbl (i := 758) (by decide +kernel) (by decide +kernel), mT0_tbl (i := 759) (by decide +kernel) (by decide +kernel)⟩
theorem pnX8_bends : plainName mX8_bends.1.cls = true := (by decide +kernel)
theorem mdX8_keepAct : mMv mX8_keepAct 0 := ⟨⟨mT0_tbl (i := 769) (by decide +kernel) (by decide +kernel), mT0_tbl (i := 10) (by decide +kernel) (by decide +kernel), (by decide +kernel), (by decide +kernel)⟩, mT0_tbl (i := 768) (by decide +kernel) (by decide +kernel), mT0_prv (i := 25) (by decide +kernel) (by decide +kernel)⟩
theorem pnX8_keepAct : plainName mX8_keepAct.1.cls = true := (by decide +kernel)
theorem mdX8_winter : mMv mX8_winter 0 := ⟨⟨mT0_tbl (i := 765) (by decide +kernel) (by decide +kernel), mT0_tbl (i := 10) (by decide +kernel) (by decide +kernel), (by decide +kernel), (by decide +kernel)⟩, mT0_tbl (i := 763) (by decide +kernel) (by decide +kernel), mT0_tbl (i := 764) (by decide +kernel) (by decide +kernel)⟩
theorem pnX8_winter : plainName mX8_winter.1.cls = true := (by decide +kernel)
theorem mdX8_hang : mMv mX8_hang 2 := ⟨⟨mT0_tbl (i := 803) (by decide +kernel) (by decide +kernel), mT0_tbl (i := 10) (by decide +kernel) (by decide +kernel), (by decide +kernel), (by decide +kernel)⟩, mT0_tbl (i := 801) (by decide +kernel) (by decide +kernel), mT0_tbl (i := 802) (by decide +kernel) (by decide +kernel)⟩
theorem pnX8_hang : plainName mX8_hang.1.cls = true := (by decide +kernel)
theorem mdX8_turn : mMv mX8_turn 1 := ⟨⟨mT0_tbl (i := 808) (by decide +kernel) (by decide +kernel), mT0_tbl (i := 10) (by decide +kernel) (by decide +kernel), (by decide +kernel), (by decide +kernel)⟩, mT0_tbl (i := 806) (by decide +kernel) (by decide +kernel), mT0_tbl (i := 807) (by decide +kernel) (by decide +kernel)⟩
theorem pnX8_turn : plainName mX8_turn.1.cls = true := (by decide +kernel)
theorem mdX8_snip : mMv mX8_snip 1 := ⟨⟨mT0_tbl (i := 816) (by decide +kernel) (by decide +kernel), mT0_tbl (i := 10) (by decide +kernel) (by decide +kernel), (by decide +kernel), (by decide +kernel)⟩, mT0_tbl (i := 814) (by decide +kernel) (by decide +kernel), mT0_tbl (i := 815) (by decide +kernel) (by decide +kernel)⟩
theorem pnX8_snip : plainName mX8_snip.1.cls = true := (by decide +kernel)
theorem mdX8_join : mMv mX8_join 2 := ⟨⟨mT0_tbl (i := 820) (by decide +kernel) (by decide +kernel), mT0_tbl (i := 10) (by decide +kernel) (by decide +kernel), (by decide +kernel), (by decide +kernel)⟩, mT0_tbl (i := 818) (by decide +kernel) (by decide +kernel), mT0_tbl (i := 819) (by decide +kernel) (by decide +kernel)⟩
theorem pnX8_join : plainName mX8_join.1.cls = true := (by decide +kernel)
theorem mdX8_undo : mMv mX8_undo 0 := ⟨⟨mT0_tbl (i := 844) (by decide +kernel) (by decide +kernel), mT0_tbl (i := 10) (by decide +kernel) (by decide +kernel), (by decide +kernel), (by decide +kernel)⟩, mT0_tbl (i := 842) (by decide +kernel) (by decide +kernel), mT0_tbl (i := 843) (by decide +kernel) (by decide +kernel)⟩
theorem pnX8_undo : plainName mX8_undo.1.cls = true := (by decide +kernel)
theorem mdX8_layTrial : mMv mX8_layTrial 0 := ⟨⟨mT0_tbl (i := 853) (by decide +kernel) (by decide +kernel), mT0_tbl (i := 10) (by decide +kernel) (by decide +kernel), (by decide +kernel), (by decide +kernel)⟩, mT0_tbl (i := 852) (by decide +kernel) (by decide +kernel), mT0_prv (i := 38) (by decide +kernel) (by decide +kernel)⟩
theorem pnX8_layTrial : plainName mX8_layTrial.1.cls = true := (by decide +kernel)
theorem mdX8_later : mMv mX8_later 2 := ⟨⟨mT0_tbl (i := 848) (by decide +kernel) (by decide +kernel), mT0_tbl (i := 10) (by decide +kernel) (by decide +kernel), (by decide +kernel), (by decide +kernel)⟩, mT0_tbl (i := 846) (by decide +kernel) (by decide +kernel), mT0_tbl (i := 847) (by decide +kernel) (by decide +kernel)⟩
theorem pnX8_later : plainName mX8_later.1.cls = true := (by decide +kernel)
theorem mdX8_lasts : mMv mX8_lasts 1 := ⟨⟨mT0_tbl (i := 857) (by decide +kernel) (by decide +kernel), mT0_tbl (i := 10) (by decide +kernel) (by decide +kernel), (by decide +kernel), (by decide +kernel)⟩, mT0_tbl (i := 855) (by decide +kernel) (by decide +kernel), mT0_tbl (i := 856) (by decide +kernel) (by decide +kernel)⟩
theorem pnX8_lasts : plainName mX8_lasts.1.cls = true := (by decide +kernel)
theorem mdX8_overlap : mMv mX8_overlap 2 := ⟨⟨mT0_tbl (i := 861) (by decide +kernel) (by decide +kernel), mT0_tbl (i := 10) (by decide +kernel) (by decide +kernel), (by decide +kernel), (by decide +kernel)⟩, mT0_tbl (i := 859) (by decide +kernel) (by decide +kernel), mT0_tbl (i := 860) (by decide +kernel) (by decide +kernel)⟩
theorem pnX8_overlap : plainName mX8_overlap.1.cls = true := (by decide +kernel)
theorem mdX8_flowOn : mMv mX8_flowOn 1 := ⟨⟨mT0_tbl (i := 873) (by decide +kernel) (by decide +kernel), mT0_tbl (i := 10) (by decide +kernel) (by decide +kernel), (by decide +kernel), (by decide +kernel)⟩, mT0_tbl (i := 872) (by decide +kernel) (by decide +kernel), mT0_prv (i := 40) (by decide +kernel) (by decide +kernel)⟩
theorem pnX8_flowOn : plainName mX8_flowOn.1.cls = true := (by decide +kernel)
theorem mdX8_goesOn : mMv mX8_goesOn 2 := ⟨⟨mT0_tbl (i := 877) (by decide +kernel) (by decide +kernel), mT0_tbl (i := 10) (by decide +kernel) (by decide +kernel), (by decide +kernel), (by decide +kernel)⟩, mT0_tbl (i := 876) (by decide +kernel) (by decide +kernel), mT0_prv (i := 41) (by decide +kernel) (by decide +kernel)⟩
theorem pnX8_goesOn : plainName mX8_goesOn.1.cls = true := (by decide +kernel)
theorem mdX8_riverBy : mMv mX8_riverBy 2 := ⟨⟨mT0_tbl (i := 869) (by decide +kernel) (by decide +kernel), mT0_tbl (i := 10) (by decide +kernel) (by decide +kernel), (by decide +kernel), (by decide +kernel)⟩, mT0_tbl (i := 868) (by decide +kernel) (by decide +kernel), mT0_prv (i := 39) (by decide +kernel) (by decide +kernel)⟩
theorem pnX8_riverBy : plainName mX8_riverBy.1.cls = true := (by decide +kernel)
theorem mdX8_river : mMv mX8_river 1 := ⟨⟨mT0_tbl (i := 865) (by decide +kernel) (by decide +kernel), mT0_tbl (i := 10) (by decide +kernel) (by decide +kernel), (by decide +kernel), (by decide +kernel)⟩, mT0_tbl (i := 863) (by decide +kernel) (by decide +kernel), mT0_tbl (i := 864) (by decide +kernel) (by decide +kernel)⟩
theorem pnX8_river : plainName mX8_river.1.cls = true := (by decide +kernel)
theorem mdX8_covered : mMv mX8_covered 0 := ⟨⟨mT0_tbl (i := 881) (by decide +kernel) (by decide +kernel), mT0_tbl (i := 10) (by decide +kernel) (by decide +kernel), (by decide +kernel), (by decide +kernel)⟩, mT0_tbl (i := 879) (by decide +kernel) (by decide +kernel), mT0_tbl (i := 880) (by decide +kernel) (by decide +kernel)⟩
theorem pnX8_covered : plainName mX8_covered.1.cls = true := (by decide +kernel)
theorem mdX8_ways : mMv mX8_ways 0 := ⟨⟨mT0_tbl (i := 889) (by decide +kernel) (by decide +kernel), mT0_tbl (i := 10) (by decide +kernel) (by decide +kernel), (by decide +kernel), (by decide +kernel)⟩, mT0_tbl (i := 887) (by decide +kernel) (by decide +kernel), mT0_tbl (i := 888) (by decide +kernel) (by decide +kernel)⟩
theorem pnX8_ways : plainName mX8_ways.1.cls = true := (by decide +kernel)
theorem mdX8_isWay : mMv mX8_isWay 1 := ⟨⟨mT0_tbl (i := 893) (by decide +kernel) (by decide +kernel), mT0_tbl (i := 10) (by decide +kernel) (by decide +kernel), (by decide +kernel), (by decide +kernel)⟩, mT0_tbl (i := 892) (by decide +kernel) (by decide +kernel), mT0_prv (i := 43) (by decide +kernel) (by decide +kernel)⟩
theorem pnX8_isWay : plainName mX8_isWay.1.cls = true := (by decide +kernel)
theorem mdX8_tryThing : mMv mX8_tryThing 3 := ⟨⟨mT0_tbl (i := 905) (by decide +kernel) (by decide +kernel), mT0_tbl (i := 10) (by decide +kernel) (by decide +kernel), (by decide +kernel), (by decide +kernel)⟩, mT0_tbl (i := 904) (by decide +kernel) (by decide +kernel), mT0_prv (i := 44) (by decide +kernel) (by decide +kernel)⟩
theorem pnX8_tryThing : plainName mX8_tryThing.1.cls = true := (by decide +kernel)
theorem mdX8_thousandTo : mMs mX8_thousandTo 1 := ⟨⟨mT0_tbl (i := 900) (by decide +kernel) (by decide +kernel), mT0_tbl (i := 10) (by decide +kernel) (by decide +kernel), (by decide +kernel), (by decide +kernel)⟩, mT0_tbl (i := 899) (by decide +kernel) (by decide +kernel)⟩
theorem pnX8_thousandTo : plainName mX8_thousandTo.1.cls = true := (by decide +kernel)
theorem mdX8_judge : mMv mX8_judge 2 := ⟨⟨mT0_tbl (i := 897) (by decide +kernel) (by decide +kernel), mT0_tbl (i := 10) (by decide +kernel) (by decide +kernel), (by decide +kernel), (by decide +kernel)⟩, mT0_tbl (i := 895) (by decide +kernel) (by decide +kernel), mT0_tbl (i := 896) (by decide +kernel) (by decide +kernel)⟩
theorem pnX8_judge : plainName mX8_judge.1.cls = true := (by decide +kernel)
theorem mdX8_lay : mMv mX8_lay 2 := ⟨⟨mT0_tbl (i := 909) (by decide +kernel) (by decide +kernel), mT0_tbl (i := 10) (by decide +kernel) (by decide +kernel), (by decide +kernel), (by decide +kernel)⟩, mT0_tbl (i := 907) (by decide +kernel) (by decide +kernel), mT0_tbl (i := 908) (by decide +kernel) (by decide +kernel)⟩
theorem pnX8_lay : plainName mX8_lay.1.cls = true := (by decide +kernel)
theorem mdX8_unlay : mMv mX8_unlay 0 := ⟨⟨mT0_tbl (i := 914) (by decide +kernel) (by decide +kernel), mT0_tbl (i := 10) (by decide +kernel) (by decide +kernel), (by decide +kernel), (by decide +kernel)⟩, mT0_tbl (i := 912) (by decide +kernel) (by decide +kernel), mT0_tbl (i := 913) (by decide +kernel) (by decide +kernel)⟩
theorem pnX8_unlay : plainName mX8_unlay.1.cls = true := (by decide +kernel)
theorem mdX8_fitsAt : mMv mX8_fitsAt 3 := ⟨⟨mT0_tbl (i := 929) (by decide +kernel) (by decide +kernel), mT0_tbl (i := 10) (by decide +kernel) (by decide +kernel), (by decide +kernel), (by decide +kernel)⟩, mT0_tbl (i := 928) (by decide +kernel) (by decide +kernel), mT0_prv (i := 46) (by decide +kernel) (by decide +kernel)⟩
theorem pnX8_fitsAt : plainName mX8_fitsAt.1.cls = true := (by decide +kernel)
theorem mdX8_mayBeLaid : mMv mX8_mayBeLaid 2 := ⟨⟨mT0_tbl (i := 925) (by decide +kernel) (by decide +kernel), mT0_tbl (i := 10) (by decide +kernel) (by decide +kernel), (by decide +kernel), (by decide +kernel)⟩, mT0_tbl (i := 924) (by decide +kernel) (by decide +kernel), mT0_prv (i := 45) (by decide +kernel) (by decide +kernel)⟩
theorem pnX8_mayBeLaid : plainName mX8_mayBeLaid.1.cls = true := (by decide +kernel)
theorem mdX8_areBends : mMs mX8_areBends 1 := ⟨⟨mT0_tbl (i := 921) (by decide +kernel) (by decide +kernel), mT0_tbl (i := 10) (by decide +kernel) (by decide +kernel), (by decide +kernel), (by decide +kernel)⟩, mT0_tbl (i := 920) (by decide +kernel) (by decide +kernel)⟩
theorem pnX8_areBends : plainName mX8_areBends.1.cls = true := (by decide +kernel)
theorem mdX8_which : mMv mX8_which 1 := ⟨⟨mT0_tbl (i := 918) (by decide +kernel) (by decide +kernel), mT0_tbl (i := 10) (by decide +kernel) (by decide +kernel), (by decide +kernel), (by decide +kernel)⟩, mT0_tbl (i := 916) (by decide +kernel) (by decide +kernel), mT0_tbl (i := 917) (by decide +kernel) (by decide +kernel)⟩
theorem pnX8_which : plainName mX8_which.1.cls = true := (by decide +kernel)
theorem mdX8_factorial : mMs mX8_factorial 1 := ⟨⟨mT0_tbl (i := 936) (by decide +kernel) (by decide +kernel), mT0_tbl (i := 10) (by decide +kernel) (by decide +kernel), (by decide +kernel), (by decide +kernel)⟩, mT0_tbl (i := 935) (by decide +kernel) (by decide +kernel)⟩
theorem pnX8_factorial : plainName mX8_factorial.1.cls = true := (by decide +kernel)
theorem mdX8_common : mMs mX8_common 2 := ⟨⟨mT0_tbl (i := 939) (by decide +kernel) (by decide +kernel), mT0_tbl (i := 10) (by decide +kernel) (by decide +kernel), (by decide +kernel), (by decide +kernel)⟩, mT0_tbl (i := 938) (by decide +kernel) (by decide +kernel)⟩
theorem pnX8_common : plainName mX8_common.1.cls = true := (by decide +kernel)
theorem mdX8_share : mMv mX8_share 2 := ⟨⟨mT0_tbl (i := 933) (by decide +kernel) (by decide +kernel), mT0_tbl (i := 10) (by decide +kernel) (by decide +kernel), (by decide +kernel), (by decide +kernel)⟩, mT0_tbl (i := 931) (by decide +kernel) (by decide +kernel), mT0_tbl (i := 932) (by decide +kernel) (by decide +kernel)⟩
theorem pnX8_share : plainName mX8_share.1.cls = true := (by decide +kernel)
theorem mdX8_gain : mMv mX8_gain 5 := ⟨⟨mT0_tbl (i := 951) (by decide +kernel) (by decide +kernel), mT0_tbl (i := 10) (by decide +kernel) (by decide +kernel), (by decide +kernel), (by decide +kernel)⟩, mT0_tbl (i := 950) (by decide +kernel) (by decide +kernel), mT0_prv (i := 48) (by decide +kernel) (by decide +kernel)⟩
theorem pnX8_gain : plainName mX8_gain.1.cls = true := (by decide +kernel)
theorem mdX8_isRest : mMv mX8_isRest 4 := ⟨⟨mT0_tbl (i := 947) (by decide +kernel) (by decide +kernel), mT0_tbl (i := 10) (by decide +kernel) (by decide +kernel), (by decide +kernel), (by decide +kernel)⟩, mT0_tbl (i := 946) (by decide +kernel) (by decide +kernel), mT0_prv (i := 47) (by decide +kernel) (by decide +kernel)⟩
theorem pnX8_isRest : plainName mX8_isRest.1.cls = true := (by decide +kernel)
theorem mdX8_rests : mMv mX8_rests 3 := ⟨⟨mT0_tbl (i := 943) (by decide +kernel) (by decide +kernel), mT0_tbl (i := 10) (by decide +kernel) (by decide +kernel), (by decide +kernel), (by decide +kernel)⟩, mT0_tbl (i := 941) (by decide +kernel) (by decide +kernel), mT0_tbl (i := 942) (by decide +kernel) (by decide +kernel)⟩
theorem pnX8_rests : plainName mX8_rests.1.cls = true := (by decide +kernel)
theorem mdX8_power : mMs mX8_power 2 := ⟨⟨mT0_tbl (i := 958) (by decide +kernel) (by decide +kernel), mT0_tbl (i := 10) (by decide +kernel) (by decide +kernel), (by decide +kernel), (by decide +kernel)⟩, mT0_tbl (i := 957) (by decide +kernel) (by decide +kernel)⟩
theorem pnX8_power : plainName mX8_power.1.cls = true := (by decide +kernel)
theorem mdX8_lost : mMv mX8_lost 2 := ⟨⟨mT0_tbl (i := 955) (by decide +kernel) (by decide +kernel), mT0_tbl (i := 10) (by decide +kernel) (by decide +kernel), (by decide +kernel), (by decide +kernel)⟩, mT0_tbl (i := 953) (by decide +kernel) (by decide +kernel), mT0_tbl (i := 954) (by decide +kernel) (by decide +kernel)⟩
theorem pnX8_lost : plainName mX8_lost.1.cls = true := (by decide +kernel)
theorem mdX8_seed : mMv mX8_seed 1 := ⟨⟨mT0_tbl (i := 962) (by decide +kernel) (by decide +kernel), mT0_tbl (i := 10) (by decide +kernel) (by decide +kernel), (by decide +kernel), (by decide +kernel)⟩, mT0_tbl (i := 960) (by decide +kernel) (by decide +kernel), mT0_tbl (i := 961) (by decide +kernel) (by decide +kernel)⟩
theorem pnX8_seed : plainName mX8_seed.1.cls = true := (by decide +kernel)
theorem mdX8_bendsOfAll : mMv mX8_bendsOfAll 1 := ⟨⟨mT0_tbl (i := 974) (by decide +kernel) (by decide +kernel), mT0_tbl (i := 10) (by decide +kernel) (by decide +kernel), (by decide +kernel), (by decide +kernel)⟩, mT0_tbl (i := 973) (by decide +kernel) (by decide +kernel), mT0_prv (i := 49) (by decide +kernel) (by decide +kernel)⟩
theorem pnX8_bendsOfAll : plainName mX8_bendsOfAll.1.cls = true := (by decide +kernel)
theorem mdX8_years : mMv mX8_years 1 := ⟨⟨mT0_tbl (i := 966) (by decide +kernel) (by decide +kernel), mT0_tbl (i := 10) (by decide +kernel) (by decide +kernel), (by decide +kernel), (by decide +kernel)⟩, mT0_tbl (i := 964) (by decide +kernel) (by decide +kernel), mT0_tbl (i := 965) (by decide +kernel) (by decide +kernel)⟩
theorem pnX8_years : plainName mX8_years.1.cls = true := (by decide +kernel)
theorem mdX8_keep : mMv mX8_keep 1 := ⟨⟨mT0_tbl (i := 978) (by decide +kernel) (by decide +kernel), mT0_tbl (i := 10) (by decide +kernel) (by decide +kernel), (by decide +kernel), (by decide +kernel)⟩, mT0_tbl (i := 976) (by decide +kernel) (by decide +kernel), mT0_tbl (i := 977) (by decide +kernel) (by decide +kernel)⟩
theorem pnX8_keep : plainName mX8_keep.1.cls = true := (by decide +kernel)
theorem mdX8_again : mMv mX8_again 1 := ⟨⟨mT0_tbl (i := 982) (by decide +kernel) (by decide +kernel), mT0_tbl (i := 10) (by decide +kernel) (by decide +kernel), (by decide +kernel), (by decide +kernel)⟩, mT0_tbl (i := 980) (by decide +kernel) (by decide +kernel), mT0_tbl (i := 981) (by decide +kernel) (by decide +kernel)⟩
theorem pnX8_again : plainName mX8_again.1.cls = true := (by decide +kernel)
theorem mdX8_usedHouses : mMv mX8_usedHouses 0 := ⟨⟨mT0_tbl (i := 990) (by decide +kernel) (by decide +kernel), mT0_tbl (i := 10) (by decide +kernel) (by decide +kernel), (by decide +kernel), (by decide +kernel)⟩, mT0_tbl (i := 989) (by decide +kernel) (by decide +kernel), mT0_prv (i := 50) (by decide +kernel) (by decide +kernel)⟩
theorem pnX8_usedHouses : plainName mX8_usedHouses.1.cls = true := (by decide +kernel)
theorem mdX8_count : mMv mX8_count 1 := ⟨⟨mT0_tbl (i := 986) (by decide +kernel) (by decide +kernel), mT0_tbl (i := 10) (by decide +kernel) (by decide +kernel), (by decide +kernel), (by decide +kernel)⟩, mT0_tbl (i := 984) (by decide +kernel) (by decide +kernel), mT0_tbl (i := 985) (by decide +kernel) (by decide +kernel)⟩
theorem pnX8_count : plainName mX8_count.1.cls = true := (by decide +kernel)
theorem mdJ6_bitCount_0f7a4 : mMs mJ6_bitCount_0f7a4 1 := ⟨⟨mT0_tbl (i := 330) (by decide +kernel) (by decide +kernel), mT0_tbl (i := 11) (by decide +kernel) (by decide +kernel), (by decide +kernel), (by decide +kernel)⟩, mT0_tbl (i := 329) (by decide +kernel) (by decide +kernel)⟩
theorem pnJ6_bitCount_0f7a4 : plainName mJ6_bitCount_0f7a4.1.cls = true := (by decide +kernel)
theorem mdJ9_max_7cf53 : mMs mJ9_max_7cf53 2 := ⟨⟨mT0_tbl (i := 56) (by decide +kernel) (by decide +kernel), mT0_tbl (i := 6) (by decide +kernel) (by decide +kernel), (by decide +kernel), (by decide +kernel)⟩, mT0_tbl (i := 55) (by decide +kernel) (by decide +kernel)⟩
theorem mdJ9_max_f86c9 : mMs mJ9_max_f86c9 2 := ⟨⟨mT0_tbl (i := 490) (by decide +kernel) (by decide +kernel), mT0_tbl (i := 6) (by decide +kernel) (by decide +kernel), (by decide +kernel), (by decide +kernel)⟩, mT0_tbl (i := 489) (by decide +kernel) (by decide +kernel)⟩
theorem mdJ9_min_7cf53 : mMs mJ9_min_7cf53 2 := ⟨⟨mT0_tbl (i := 276) (by decide +kernel) (by decide +kernel), mT0_tbl (i := 6) (by decide +kernel) (by decide +kernel), (by decide +kernel), (by decide +kernel)⟩, mT0_tbl (i := 275) (by decide +kernel) (by decide +kernel)⟩
theorem flX7_10 : mFl RX7 10 7 0 := ⟨(RX7, TX7, 13), rfl, by decide, Or.inl (mT0_tbl (i := 152) (by decide +kernel) (by decide +kernel))⟩
theorem flX7_19 : mFl RX7 19 7 1 := ⟨(RX7, TX7, 13), rfl, by decide, Or.inl (mT0_tbl (i := 153) (by decide +kernel) (by decide +kernel))⟩
theorem flX7_23 : mFl RX7 23 7 2 := ⟨(RX7, TX7, 13), rfl, by decide, Or.inl (mT0_tbl (i := 154) (by decide +kernel) (by decide +kernel))⟩
theorem flX7_29 : mFl RX7 29 7 3 := ⟨(RX7, TX7, 13), rfl, by decide, Or.inl (mT0_tbl (i := 155) (by decide +kernel) (by decide +kernel))⟩
theorem flX7_36 : mFl RX7 36 7 4 := ⟨(RX7, TX7, 13), rfl, by decide, Or.inl (mT0_tbl (i := 156) (by decide +kernel) (by decide +kernel))⟩
theorem flX7_43 : mFl RX7 43 7 5 := ⟨(RX7, TX7, 13), rfl, by decide, Or.inl (mT0_tbl (i := 157) (by decide +kernel) (by decide +kernel))⟩
theorem flX7_52 : mFl RX7 52 7 6 := ⟨(RX7, TX7, 13), rfl, by decide, Or.inl (mT0_tbl (i := 158) (by decide +kernel) (by decide +kernel))⟩
theorem flX7_56 : mFl RX7 56 7 7 := ⟨(RX7, TX7, 13), rfl, by decide, Or.inl (mT0_tbl (i := 159) (by decide +kernel) (by decide +kernel))⟩
theorem flX7_59 : mFl RX7 59 7 8 := ⟨(RX7, TX7, 13), rfl, by decide, Or.inl (mT0_tbl (i := 160) (by decide +kernel) (by decide +kernel))⟩
theorem flX7_62 : mFl RX7 62 7 9 := ⟨(RX7, TX7, 13), rfl, by decide, Or.inl (mT0_tbl (i := 161) (by decide +kernel) (by decide +kernel))⟩
theorem flX7_66 : mFl RX7 66 7 10 := ⟨(RX7, TX7, 13), rfl, by decide, Or.inl (mT0_tbl (i := 162) (by decide +kernel) (by decide +kernel))⟩
theorem flX7_69 : mFl RX7 69 7 11 := ⟨(RX7, TX7, 13), rfl, by decide, Or.inl (mT0_tbl (i := 163) (by decide +kernel) (by decide +kernel))⟩
theorem flX7_72 : mFl RX7 72 7 12 := ⟨(RX7, TX7, 13), rfl, by decide, Or.inl (mT0_tbl (i := 164) (by decide +kernel) (by decide +kernel))⟩
theorem flX7_94 : mFl RX7 94 6 1 := ⟨(RX6, TX6, 3), rfl, by decide, Or.inr ⟨_, mNw_tbl (w := Cond.fieldLinkNest _ _ _ _ _ "TinselRiver") (i := 86) (by decide +kernel) (by decide +kernel)⟩⟩
theorem flX7_102 : mFl RX7 102 2 1 := ⟨(RX2, TX2, 2), rfl, by decide, Or.inr ⟨_, mNw_tbl (w := Cond.fieldLinkNest _ _ _ _ _ "TinselRiver") (i := 61) (by decide +kernel) (by decide +kernel)⟩⟩
theorem flX7_113 : mFl RX7 113 6 0 := ⟨(RX6, TX6, 3), rfl, by decide, Or.inr ⟨_, mNw_tbl (w := Cond.fieldLinkNest _ _ _ _ _ "TinselRiver") (i := 84) (by decide +kernel) (by decide +kernel)⟩⟩
theorem flX7_117 : mFl RX7 117 4 1 := ⟨(RX4, TX4, 3), rfl, by decide, Or.inr ⟨_, mNw_tbl (w := Cond.fieldLinkNest _ _ _ _ _ "TinselRiver") (i := 72) (by decide +kernel) (by decide +kernel)⟩⟩
theorem flX7_122 : mFl RX7 122 4 2 := ⟨(RX4, TX4, 3), rfl, by decide, Or.inr ⟨_, mNw_tbl (w := Cond.fieldLinkNest _ _ _ _ _ "TinselRiver") (i := 75) (by decide +kernel) (by decide +kernel)⟩⟩
theorem flX7_125 : mFl RX7 125 4 0 := ⟨(RX4, TX4, 3), rfl, by decide, Or.inr ⟨_, mNw_tbl (w := Cond.fieldLinkNest _ _ _ _ _ "TinselRiver") (i := 69) (by decide +kernel) (by decide +kernel)⟩⟩
theorem flX7_287 : mFl RX7 287 5 1 := ⟨(RX5, TX5, 2), rfl, by decide, Or.inr ⟨_, mNw_tbl (w := Cond.fieldLinkNest _ _ _ _ _ "TinselRiver") (i := 28) (by decide +kernel) (by decide +kernel)⟩⟩
theorem flX7_288 : mFl RX7 288 6 2 := ⟨(RX6, TX6, 3), rfl, by decide, Or.inr ⟨_, mNw_tbl (w := Cond.fieldLinkNest _ _ _ _ _ "TinselRiver") (i := 89) (by decide +kernel) (by decide +kernel)⟩⟩
theorem flX7_294 : mFl RX7 294 0 2 := ⟨(RX0, TX0, 3), rfl, by decide, Or.inr ⟨_, mNw_tbl (w := Cond.fieldLinkNest _ _ _ _ _ "TinselRiver") (i := 109) (by decide +kernel) (by decide +kernel)⟩⟩
theorem flX7_295 : mFl RX7 295 1 2 := ⟨(RX1, TX1, 3), rfl, by decide, Or.inr ⟨_, mNw_tbl (w := Cond.fieldLinkNest _ _ _ _ _ "TinselRiver") (i := 141) (by decide +kernel) (by decide +kernel)⟩⟩
theorem flX0_11 : mFl RX0 11 0 0 := ⟨(RX0, TX0, 3), rfl, by decide, Or.inl (mT0_tbl (i := 106) (by decide +kernel) (by decide +kernel))⟩
theorem flX0_18 : mFl RX0 18 0 1 := ⟨(RX0, TX0, 3), rfl, by decide, Or.inl (mT0_tbl (i := 107) (by decide +kernel) (by decide +kernel))⟩
theorem flX0_22 : mFl RX0 22 0 2 := ⟨(RX0, TX0, 3), rfl, by decide, Or.inl (mT0_tbl (i := 108) (by decide +kernel) (by decide +kernel))⟩
theorem flX1_9 : mFl RX1 9 1 0 := ⟨(RX1, TX1, 3), rfl, by decide, Or.inl (mT0_tbl (i := 138) (by decide +kernel) (by decide +kernel))⟩
theorem flX1_15 : mFl RX1 15 1 1 := ⟨(RX1, TX1, 3), rfl, by decide, Or.inl (mT0_tbl (i := 139) (by decide +kernel) (by decide +kernel))⟩
theorem flX1_19 : mFl RX1 19 1 2 := ⟨(RX1, TX1, 3), rfl, by decide, Or.inl (mT0_tbl (i := 140) (by decide +kernel) (by decide +kernel))⟩
theorem flX2_15 : mFl RX2 15 2 0 := ⟨(RX2, TX2, 2), rfl, by decide, Or.inl (mT0_tbl (i := 57) (by decide +kernel) (by decide +kernel))⟩
theorem flX2_21 : mFl RX2 21 2 1 := ⟨(RX2, TX2, 2), rfl, by decide, Or.inl (mT0_tbl (i := 59) (by decide +kernel) (by decide +kernel))⟩
theorem flX3_11 : mFl RX3 11 3 0 := ⟨(RX3, TX3, 2), rfl, by decide, Or.inl (mT0_tbl (i := 125) (by decide +kernel) (by decide +kernel))⟩
theorem flX3_18 : mFl RX3 18 3 1 := ⟨(RX3, TX3, 2), rfl, by decide, Or.inl (mT0_tbl (i := 126) (by decide +kernel) (by decide +kernel))⟩
theorem flX3_26 : mFl RX3 26 6 2 := ⟨(RX6, TX6, 3), rfl, by decide, Or.inr ⟨_, mNw_tbl (w := Cond.fieldLinkNest _ _ _ _ _ "TinselRiver") (i := 88) (by decide +kernel) (by decide +kernel)⟩⟩
theorem flX4_14 : mFl RX4 14 4 0 := ⟨(RX4, TX4, 3), rfl, by decide, Or.inl (mT0_tbl (i := 67) (by decide +kernel) (by decide +kernel))⟩
theorem flX4_24 : mFl RX4 24 4 1 := ⟨(RX4, TX4, 3), rfl, by decide, Or.inl (mT0_tbl (i := 70) (by decide +kernel) (by decide +kernel))⟩
theorem flX4_28 : mFl RX4 28 4 2 := ⟨(RX4, TX4, 3), rfl, by decide, Or.inl (mT0_tbl (i := 73) (by decide +kernel) (by decide +kernel))⟩
theorem flX5_9 : mFl RX5 9 5 0 := ⟨(RX5, TX5, 2), rfl, by decide, Or.inl (mT0_tbl (i := 26) (by decide +kernel) (by decide +kernel))⟩
theorem flX5_15 : mFl RX5 15 5 1 := ⟨(RX5, TX5, 2), rfl, by decide, Or.inl (mT0_tbl (i := 27) (by decide +kernel) (by decide +kernel))⟩
theorem flX6_11 : mFl RX6 11 6 0 := ⟨(RX6, TX6, 3), rfl, by decide, Or.inl (mT0_tbl (i := 83) (by decide +kernel) (by decide +kernel))⟩
theorem flX6_18 : mFl RX6 18 6 1 := ⟨(RX6, TX6, 3), rfl, by decide, Or.inl (mT0_tbl (i := 85) (by decide +kernel) (by decide +kernel))⟩
theorem flX6_22 : mFl RX6 22 6 2 := ⟨(RX6, TX6, 3), rfl, by decide, Or.inl (mT0_tbl (i := 87) (by decide +kernel) (by decide +kernel))⟩
theorem flX6_29 : mFl RX6 29 4 1 := ⟨(RX4, TX4, 3), rfl, by decide, Or.inr ⟨_, mNw_tbl (w := Cond.fieldLinkNest _ _ _ _ _ "TinselRiver") (i := 71) (by decide +kernel) (by decide +kernel)⟩⟩
theorem flX6_32 : mFl RX6 32 4 2 := ⟨(RX4, TX4, 3), rfl, by decide, Or.inr ⟨_, mNw_tbl (w := Cond.fieldLinkNest _ _ _ _ _ "TinselRiver") (i := 74) (by decide +kernel) (by decide +kernel)⟩⟩
theorem flX6_35 : mFl RX6 35 4 0 := ⟨(RX4, TX4, 3), rfl, by decide, Or.inr ⟨_, mNw_tbl (w := Cond.fieldLinkNest _ _ _ _ _ "TinselRiver") (i := 68) (by decide +kernel) (by decide +kernel)⟩⟩
theorem flX6_48 : mFl RX6 48 2 1 := ⟨(RX2, TX2, 2), rfl, by decide, Or.inr ⟨_, mNw_tbl (w := Cond.fieldLinkNest _ _ _ _ _ "TinselRiver") (i := 60) (by decide +kernel) (by decide +kernel)⟩⟩
theorem flX6_89 : mFl RX6 89 2 0 := ⟨(RX2, TX2, 2), rfl, by decide, Or.inr ⟨_, mNw_tbl (w := Cond.fieldLinkNest _ _ _ _ _ "TinselRiver") (i := 58) (by decide +kernel) (by decide +kernel)⟩⟩
theorem flX8_7 : mFl RX8 7 8 1 := ⟨(RX8, TX8, 24), rfl, by decide, Or.inl (mT0_tbl (i := 617) (by decide +kernel) (by decide +kernel))⟩
theorem flX8_13 : mFl RX8 13 8 2 := ⟨(RX8, TX8, 24), rfl, by decide, Or.inl (mT0_tbl (i := 618) (by decide +kernel) (by decide +kernel))⟩
theorem flX8_16 : mFl RX8 16 8 3 := ⟨(RX8, TX8, 24), rfl, by decide, Or.inl (mT0_tbl (i := 619) (by decide +kernel) (by decide +kernel))⟩
theorem flX8_19 : mFl RX8 19 8 4 := ⟨(RX8, TX8, 24), rfl, by decide, Or.inl (mT0_tbl (i := 620) (by decide +kernel) (by decide +kernel))⟩
theorem flX8_22 : mFl RX8 22 8 5 := ⟨(RX8, TX8, 24), rfl, by decide, Or.inl (mT0_tbl (i := 621) (by decide +kernel) (by decide +kernel))⟩
theorem flX8_25 : mFl RX8 25 8 7 := ⟨(RX8, TX8, 24), rfl, by decide, Or.inl (mT0_tbl (i := 623) (by decide +kernel) (by decide +kernel))⟩
theorem flX8_28 : mFl RX8 28 8 12 := ⟨(RX8, TX8, 24), rfl, by decide, Or.inl (mT0_tbl (i := 628) (by decide +kernel) (by decide +kernel))⟩
theorem flX8_31 : mFl RX8 31 8 15 := ⟨(RX8, TX8, 24), rfl, by decide, Or.inl (mT0_tbl (i := 631) (by decide +kernel) (by decide +kernel))⟩
theorem flX8_34 : mFl RX8 34 8 16 := ⟨(RX8, TX8, 24), rfl, by decide, Or.inl (mT0_tbl (i := 632) (by decide +kernel) (by decide +kernel))⟩
theorem flX8_37 : mFl RX8 37 8 19 := ⟨(RX8, TX8, 24), rfl, by decide, Or.inl (mT0_tbl (i := 635) (by decide +kernel) (by decide +kernel))⟩
theorem flX8_40 : mFl RX8 40 8 20 := ⟨(RX8, TX8, 24), rfl, by decide, Or.inl (mT0_tbl (i := 636) (by decide +kernel) (by decide +kernel))⟩
theorem flX8_43 : mFl RX8 43 8 22 := ⟨(RX8, TX8, 24), rfl, by decide, Or.inl (mT0_tbl (i := 638) (by decide +kernel) (by decide +kernel))⟩
theorem flX8_47 : mFl RX8 47 8 23 := ⟨(RX8, TX8, 24), rfl, by decide, Or.inl (mT0_tbl (i := 639) (by decide +kernel) (by decide +kernel))⟩
theorem flX8_56 : mFl RX8 56 8 8 := ⟨(RX8, TX8, 24), rfl, by decide, Or.inl (mT0_tbl (i := 624) (by decide +kernel) (by decide +kernel))⟩
theorem flX8_60 : mFl RX8 60 8 10 := ⟨(RX8, TX8, 24), rfl, by decide, Or.inl (mT0_tbl (i := 626) (by decide +kernel) (by decide +kernel))⟩
theorem flX8_63 : mFl RX8 63 8 9 := ⟨(RX8, TX8, 24), rfl, by decide, Or.inl (mT0_tbl (i := 625) (by decide +kernel) (by decide +kernel))⟩
theorem flX8_70 : mFl RX8 70 8 6 := ⟨(RX8, TX8, 24), rfl, by decide, Or.inl (mT0_tbl (i := 622) (by decide +kernel) (by decide +kernel))⟩
theorem flX8_89 : mFl RX8 89 8 0 := ⟨(RX8, TX8, 24), rfl, by decide, Or.inl (mT0_tbl (i := 616) (by decide +kernel) (by decide +kernel))⟩
theorem flX8_92 : mFl RX8 92 8 13 := ⟨(RX8, TX8, 24), rfl, by decide, Or.inl (mT0_tbl (i := 629) (by decide +kernel) (by decide +kernel))⟩
theorem flX8_146 : mFl RX8 146 8 11 := ⟨(RX8, TX8, 24), rfl, by decide, Or.inl (mT0_tbl (i := 627) (by decide +kernel) (by decide +kernel))⟩
theorem flX8_157 : mFl RX8 157 8 14 := ⟨(RX8, TX8, 24), rfl, by decide, Or.inl (mT0_tbl (i := 630) (by decide +kernel) (by decide +kernel))⟩
theorem flX8_183 : mFl RX8 183 8 17 := ⟨(RX8, TX8, 24), rfl, by decide, Or.inl (mT0_tbl (i := 633) (by decide +kernel) (by decide +kernel))⟩
theorem flX8_212 : mFl RX8 212 8 18 := ⟨(RX8, TX8, 24), rfl, by decide, Or.inl (mT0_tbl (i := 634) (by decide +kernel) (by decide +kernel))⟩
theorem flX8_241 : mFl RX8 241 8 21 := ⟨(RX8, TX8, 24), rfl, by decide, Or.inl (mT0_tbl (i := 637) (by decide +kernel) (by decide +kernel))⟩
theorem iniL : Cond.initialized RL ∈ mT0 := mT0_tbl (i := 0) (by decide +kernel) (by decide +kernel)
theorem iniX7 : Cond.initialized RX7 ∈ mT0 := mT0_tbl (i := 1) (by decide +kernel) (by decide +kernel)
theorem iniX5 : Cond.initialized RX5 ∈ mT0 := mT0_tbl (i := 2) (by decide +kernel) (by decide +kernel)
theorem iniX6 : Cond.initialized RX6 ∈ mT0 := mT0_tbl (i := 3) (by decide +kernel) (by decide +kernel)
theorem iniX4 : Cond.initialized RX4 ∈ mT0 := mT0_tbl (i := 4) (by decide +kernel) (by decide +kernel)
theorem iniX2 : Cond.initialized RX2 ∈ mT0 := mT0_tbl (i := 5) (by decide +kernel) (by decide +kernel)
theorem iniJ9 : Cond.initialized RJ9 ∈ mT0 := mT0_tbl (i := 6) (by decide +kernel) (by decide +kernel)
theorem iniX0 : Cond.initialized RX0 ∈ mT0 := mT0_tbl (i := 7) (by decide +kernel) (by decide +kernel)
theorem iniX3 : Cond.initialized RX3 ∈ mT0 := mT0_tbl (i := 8) (by decide +kernel) (by decide +kernel)
theorem iniX1 : Cond.initialized RX1 ∈ mT0 := mT0_tbl (i := 9) (by decide +kernel) (by decide +kernel)
theorem iniX8 : Cond.initialized RX8 ∈ mT0 := mT0_tbl (i := 10) (by decide +kernel) (by decide +kernel)
theorem iniJ6 : Cond.initialized RJ6 ∈ mT0 := mT0_tbl (i := 11) (by decide +kernel) (by decide +kernel)
theorem clL_7 : Cond.classLink RL 7 RX7 ∈ mT0 := mT0_tbl (i := 12) (by decide +kernel) (by decide +kernel)
theorem inX7 : Cond.instantiable RX7 13 ∈ mT0 := mT0_tbl (i := 13) (by decide +kernel) (by decide +kernel)
theorem lkL_9 : Cond.methodLink RL 9 yX7_init ∈ mT0 := mT0_tbl (i := 14) (by decide +kernel) (by decide +kernel)
theorem lkX7_1 : Cond.methodLink RX7 1 Lib.objectInit ∈ mT0 := mT0_tbl (i := 17) (by decide +kernel) (by decide +kernel)
theorem clX7_7 : Cond.classLink RX7 7 RX5 ∈ mT0 := mT0_tbl (i := 20) (by decide +kernel) (by decide +kernel)
theorem inX5 : Cond.instantiable RX5 2 ∈ mT0 := mT0_tbl (i := 21) (by decide +kernel) (by decide +kernel)
theorem lkX7_9 : ∃ host, Cond.methodLinkNest RX7 9 yX5_init host ∈ mNw := ⟨"TinselRiver", mNw_tbl (i := 22) (by decide +kernel) (by decide +kernel)⟩
theorem lkX5_3 : Cond.methodLink RX5 3 Lib.objectInit ∈ mT0 := mT0_tbl (i := 25) (by decide +kernel) (by decide +kernel)
theorem ac_int : Cond.arrayClass .int ∈ mT0 := mT0_tbl (i := 34) (by decide +kernel) (by decide +kernel)
theorem clX7_16 : Cond.classLink RX7 16 RX6 ∈ mT0 := mT0_tbl (i := 35) (by decide +kernel) (by decide +kernel)
theorem inX6 : Cond.instantiable RX6 3 ∈ mT0 := mT0_tbl (i := 36) (by decide +kernel) (by decide +kernel)
theorem lkX7_18 : Cond.methodLink RX7 18 yX6_init ∈ mT0 := mT0_tbl (i := 37) (by decide +kernel) (by decide +kernel)
theorem lkX6_3 : Cond.methodLink RX6 3 Lib.objectInit ∈ mT0 := mT0_tbl (i := 40) (by decide +kernel) (by decide +kernel)
theorem clX6_9 : Cond.classLink RX6 9 RX4 ∈ mT0 := mT0_tbl (i := 41) (by decide +kernel) (by decide +kernel)
theorem inX4 : Cond.instantiable RX4 3 ∈ mT0 := mT0_tbl (i := 43) (by decide +kernel) (by decide +kernel)
theorem lkX6_17 : ∃ host, Cond.methodLinkNest RX6 17 yX4_init host ∈ mNw := ⟨"TinselRiver", mNw_tbl (i := 44) (by decide +kernel) (by decide +kernel)⟩
theorem lkX4_3 : Cond.methodLink RX4 3 Lib.objectInit ∈ mT0 := mT0_tbl (i := 47) (by decide +kernel) (by decide +kernel)
theorem clX4_9 : Cond.classLink RX4 9 RX2 ∈ mT0 := mT0_tbl (i := 48) (by decide +kernel) (by decide +kernel)
theorem inX2 : Cond.instantiable RX2 2 ∈ mT0 := mT0_tbl (i := 49) (by decide +kernel) (by decide +kernel)
theorem lkX4_11 : Cond.methodLink RX4 11 yX2_init ∈ mT0 := mT0_tbl (i := 50) (by decide +kernel) (by decide +kernel)
theorem lkX2_3 : Cond.methodLink RX2 3 Lib.objectInit ∈ mT0 := mT0_tbl (i := 53) (by decide +kernel) (by decide +kernel)
theorem lkX2_9 : Cond.methodLink RX2 9 yJ9_max_7cf53 ∈ mT0 := mT0_tbl (i := 54) (by decide +kernel) (by decide +kernel)
theorem clX7_26 : Cond.classLink RX7 26 RX0 ∈ mT0 := mT0_tbl (i := 97) (by decide +kernel) (by decide +kernel)
theorem inX0 : Cond.instantiable RX0 3 ∈ mT0 := mT0_tbl (i := 98) (by decide +kernel) (by decide +kernel)
theorem lkX7_28 : Cond.methodLink RX7 28 yX0_init ∈ mT0 := mT0_tbl (i := 99) (by decide +kernel) (by decide +kernel)
theorem lkX0_3 : Cond.methodLink RX0 3 Lib.objectInit ∈ mT0 := mT0_tbl (i := 102) (by decide +kernel) (by decide +kernel)
theorem clX0_9 : Cond.classLink RX0 9 RX6 ∈ mT0 := mT0_tbl (i := 103) (by decide +kernel) (by decide +kernel)
theorem lkX0_17 : Cond.methodLink RX0 17 yX6_init ∈ mT0 := mT0_tbl (i := 105) (by decide +kernel) (by decide +kernel)
theorem clX7_33 : Cond.classLink RX7 33 RX3 ∈ mT0 := mT0_tbl (i := 117) (by decide +kernel) (by decide +kernel)
theorem inX3 : Cond.instantiable RX3 2 ∈ mT0 := mT0_tbl (i := 118) (by decide +kernel) (by decide +kernel)
theorem lkX7_35 : Cond.methodLink RX7 35 yX3_init ∈ mT0 := mT0_tbl (i := 119) (by decide +kernel) (by decide +kernel)
theorem lkX3_3 : Cond.methodLink RX3 3 Lib.objectInit ∈ mT0 := mT0_tbl (i := 122) (by decide +kernel) (by decide +kernel)
theorem clX3_9 : Cond.classLink RX3 9 RX6 ∈ mT0 := mT0_tbl (i := 123) (by decide +kernel) (by decide +kernel)
theorem lkX3_17 : Cond.methodLink RX3 17 yX6_init ∈ mT0 := mT0_tbl (i := 124) (by decide +kernel) (by decide +kernel)
theorem clX7_40 : Cond.classLink RX7 40 RX1 ∈ mT0 := mT0_tbl (i := 132) (by decide +kernel) (by decide +kernel)
theorem inX1 : Cond.instantiable RX1 3 ∈ mT0 := mT0_tbl (i := 133) (by decide +kernel) (by decide +kernel)
theorem lkX7_42 : ∃ host, Cond.methodLinkNest RX7 42 yX1_init host ∈ mNw := ⟨"TinselRiver", mNw_tbl (i := 134) (by decide +kernel) (by decide +kernel)⟩
theorem lkX1_3 : Cond.methodLink RX1 3 Lib.objectInit ∈ mT0 := mT0_tbl (i := 137) (by decide +kernel) (by decide +kernel)
theorem ac_boolean : Cond.arrayClass .boolean ∈ mT0 := mT0_tbl (i := 149) (by decide +kernel) (by decide +kernel)
theorem clX7_47 : Cond.classLink RX7 47 RX2 ∈ mT0 := mT0_tbl (i := 150) (by decide +kernel) (by decide +kernel)
theorem lkX7_49 : Cond.methodLink RX7 49 yX2_init ∈ mT0 := mT0_tbl (i := 151) (by decide +kernel) (by decide +kernel)
theorem lkL_13 : Cond.methodLink RL 13 yX7_write ∈ mT0 := mT0_tbl (i := 192) (by decide +kernel) (by decide +kernel)
theorem lkX7_76 : Cond.methodLink RX7 76 yX5_add ∈ mT0 := mT0_tbl (i := 196) (by decide +kernel) (by decide +kernel)
theorem lkL_18 : Cond.methodLink RL 18 yX7_wipe ∈ mT0 := mT0_tbl (i := 200) (by decide +kernel) (by decide +kernel)
theorem lkX7_80 : Cond.methodLink RX7 80 yX5_clear ∈ mT0 := mT0_tbl (i := 204) (by decide +kernel) (by decide +kernel)
theorem lkL_23 : Cond.methodLink RL 23 yX7_fault ∈ mT0 := mT0_tbl (i := 208) (by decide +kernel) (by decide +kernel)
theorem lkX7_84 : Cond.methodLink RX7 84 yX5_firstFault ∈ mT0 := mT0_tbl (i := 212) (by decide +kernel) (by decide +kernel)
theorem lkX5_19 : Cond.methodLink RX5 19 yX5_stateAfter ∈ mT0 := mT0_tbl (i := 216) (by decide +kernel) (by decide +kernel)
theorem lkX5_23 : Cond.methodLink RX5 23 yX5_isFigure ∈ mT0 := mT0_tbl (i := 219) (by decide +kernel) (by decide +kernel)
theorem lkX5_27 : Cond.methodLink RX5 27 yX5_isBend ∈ mT0 := mT0_tbl (i := 222) (by decide +kernel) (by decide +kernel)
theorem lkL_27 : Cond.methodLink RL 27 yX7_valley ∈ mT0 := mT0_tbl (i := 225) (by decide +kernel) (by decide +kernel)
theorem lkX7_87 : Cond.methodLink RX7 87 yX5_tellTo ∈ mT0 := mT0_tbl (i := 229) (by decide +kernel) (by decide +kernel)
theorem lkX5_31 : Cond.methodLink RX5 31 yX6_clear ∈ mT0 := mT0_tbl (i := 233) (by decide +kernel) (by decide +kernel)
theorem lkX5_36 : Cond.methodLink RX5 36 yX6_bendLast ∈ mT0 := mT0_tbl (i := 237) (by decide +kernel) (by decide +kernel)
theorem lkX6_44 : Cond.methodLink RX6 44 yX2_add ∈ mT0 := mT0_tbl (i := 241) (by decide +kernel) (by decide +kernel)
theorem lkX5_40 : Cond.methodLink RX5 40 yX6_begin ∈ mT0 := mT0_tbl (i := 245) (by decide +kernel) (by decide +kernel)
theorem lkX6_39 : Cond.methodLink RX6 39 yX2_clear ∈ mT0 := mT0_tbl (i := 249) (by decide +kernel) (by decide +kernel)
theorem lkX7_91 : Cond.methodLink RX7 91 yX0_clear ∈ mT0 := mT0_tbl (i := 253) (by decide +kernel) (by decide +kernel)
theorem lkX7_93 : Cond.methodLink RX7 93 yX3_clear ∈ mT0 := mT0_tbl (i := 257) (by decide +kernel) (by decide +kernel)
theorem lkL_33 : Cond.methodLink RL 33 yX7_bed ∈ mT0 := mT0_tbl (i := 261) (by decide +kernel) (by decide +kernel)
theorem lkX7_98 : Cond.methodLink RX7 98 yX7_isRowOfBends ∈ mT0 := mT0_tbl (i := 265) (by decide +kernel) (by decide +kernel)
theorem csX7_138 : Cond.constantLong RX7 138 (10) ∈ mT0 := mT0_tbl (i := 268) (by decide +kernel) (by decide +kernel)
theorem csX7_140 : Cond.constantLong RX7 140 (4) ∈ mT0 := mT0_tbl (i := 269) (by decide +kernel) (by decide +kernel)
theorem lkX7_105 : Cond.methodLink RX7 105 yX2_setFigures ∈ mT0 := mT0_tbl (i := 270) (by decide +kernel) (by decide +kernel)
theorem lkX2_25 : Cond.methodLink RX2 25 yJ9_min_7cf53 ∈ mT0 := mT0_tbl (i := 274) (by decide +kernel) (by decide +kernel)
theorem csX2_28 : Cond.constantLong RX2 28 (10) ∈ mT0 := mT0_tbl (i := 277) (by decide +kernel) (by decide +kernel)
theorem lkL_38 : Cond.methodLink RL 38 yX7_strand ∈ mT0 := mT0_tbl (i := 278) (by decide +kernel) (by decide +kernel)
theorem lkX7_109 : Cond.methodLink RX7 109 yX6_has ∈ mT0 := mT0_tbl (i := 282) (by decide +kernel) (by decide +kernel)
theorem lkX7_128 : Cond.methodLink RX7 128 yX2_firstPlaceOf ∈ mT0 := mT0_tbl (i := 286) (by decide +kernel) (by decide +kernel)
theorem lkX2_42 : Cond.methodLink RX2 42 yX2_bearsAt ∈ mT0 := mT0_tbl (i := 290) (by decide +kernel) (by decide +kernel)
theorem lkL_43 : Cond.methodLink RL 43 yX7_bends ∈ mT0 := mT0_tbl (i := 294) (by decide +kernel) (by decide +kernel)
theorem lkX7_132 : Cond.methodLink RX7 132 yX2_figures ∈ mT0 := mT0_tbl (i := 298) (by decide +kernel) (by decide +kernel)
theorem csX7_136 : Cond.constantLong RX7 136 (-1) ∈ mT0 := mT0_tbl (i := 302) (by decide +kernel) (by decide +kernel)
theorem lkL_48 : Cond.methodLink RL 48 yX7_winter ∈ mT0 := mT0_tbl (i := 303) (by decide +kernel) (by decide +kernel)
theorem lkX7_142 : Cond.methodLink RX7 142 yX6_setTo ∈ mT0 := mT0_tbl (i := 307) (by decide +kernel) (by decide +kernel)
theorem lkX6_25 : Cond.methodLink RX6 25 yX4_setTo ∈ mT0 := mT0_tbl (i := 311) (by decide +kernel) (by decide +kernel)
theorem lkX4_20 : Cond.methodLink RX4 20 yX2_setTo ∈ mT0 := mT0_tbl (i := 315) (by decide +kernel) (by decide +kernel)
theorem lkX7_145 : Cond.methodLink RX7 145 yX6_passWinter ∈ mT0 := mT0_tbl (i := 319) (by decide +kernel) (by decide +kernel)
theorem lkX6_61 : Cond.methodLink RX6 61 yX6_whoIsThere ∈ mT0 := mT0_tbl (i := 323) (by decide +kernel) (by decide +kernel)
theorem lkX6_51 : Cond.methodLink RX6 51 yX6_has ∈ mT0 := mT0_tbl (i := 327) (by decide +kernel) (by decide +kernel)
theorem lkX6_65 : Cond.methodLink RX6 65 yJ6_bitCount_0f7a4 ∈ mT0 := mT0_tbl (i := 328) (by decide +kernel) (by decide +kernel)
theorem csJ6_265 : Cond.constant RJ6 265 (1431655765) ∈ mT0 := mT0_tbl (i := 331) (by decide +kernel) (by decide +kernel)
theorem csJ6_266 : Cond.constant RJ6 266 (858993459) ∈ mT0 := mT0_tbl (i := 332) (by decide +kernel) (by decide +kernel)
theorem csJ6_267 : Cond.constant RJ6 267 (252645135) ∈ mT0 := mT0_tbl (i := 333) (by decide +kernel) (by decide +kernel)
theorem lkX6_71 : Cond.methodLink RX6 71 yX6_winterOf ∈ mT0 := mT0_tbl (i := 334) (by decide +kernel) (by decide +kernel)
theorem lkX6_74 : Cond.methodLink RX6 74 yX6_floodFrom ∈ mT0 := mT0_tbl (i := 338) (by decide +kernel) (by decide +kernel)
theorem lkX6_83 : Cond.methodLink RX6 83 yX2_loseFirst ∈ mT0 := mT0_tbl (i := 342) (by decide +kernel) (by decide +kernel)
theorem lkX6_77 : Cond.methodLink RX6 77 yX6_countIn ∈ mT0 := mT0_tbl (i := 346) (by decide +kernel) (by decide +kernel)
theorem lkX6_80 : Cond.methodLink RX6 80 yX2_loseLast ∈ mT0 := mT0_tbl (i := 350) (by decide +kernel) (by decide +kernel)
theorem lkX7_148 : Cond.methodLink RX7 148 yX7_take ∈ mT0 := mT0_tbl (i := 354) (by decide +kernel) (by decide +kernel)
theorem lkX7_168 : Cond.methodLink RX7 168 yX0_remember ∈ mT0 := mT0_tbl (i := 358) (by decide +kernel) (by decide +kernel)
theorem lkX0_25 : Cond.methodLink RX0 25 yX6_setTo ∈ mT0 := mT0_tbl (i := 362) (by decide +kernel) (by decide +kernel)
theorem lkL_52 : Cond.methodLink RL 52 yX7_hang ∈ mT0 := mT0_tbl (i := 363) (by decide +kernel) (by decide +kernel)
theorem lkX7_151 : Cond.methodLink RX7 151 yX6_hangIn ∈ mT0 := mT0_tbl (i := 367) (by decide +kernel) (by decide +kernel)
theorem lkL_56 : Cond.methodLink RL 56 yX7_turn ∈ mT0 := mT0_tbl (i := 371) (by decide +kernel) (by decide +kernel)
theorem lkX7_155 : Cond.methodLink RX7 155 yX6_turnAbout ∈ mT0 := mT0_tbl (i := 375) (by decide +kernel) (by decide +kernel)
theorem lkX6_86 : Cond.methodLink RX6 86 yX2_reverse ∈ mT0 := mT0_tbl (i := 379) (by decide +kernel) (by decide +kernel)
theorem lkL_60 : Cond.methodLink RL 60 yX7_snip ∈ mT0 := mT0_tbl (i := 383) (by decide +kernel) (by decide +kernel)
theorem lkX7_158 : Cond.methodLink RX7 158 yX6_snipEnd ∈ mT0 := mT0_tbl (i := 387) (by decide +kernel) (by decide +kernel)
theorem lkL_64 : Cond.methodLink RL 64 yX7_join ∈ mT0 := mT0_tbl (i := 391) (by decide +kernel) (by decide +kernel)
theorem lkX7_161 : Cond.methodLink RX7 161 yX6_joinTo ∈ mT0 := mT0_tbl (i := 395) (by decide +kernel) (by decide +kernel)
theorem lkX6_93 : Cond.methodLink RX6 93 yX2_overlapWith ∈ mT0 := mT0_tbl (i := 399) (by decide +kernel) (by decide +kernel)
theorem lkX2_30 : Cond.methodLink RX2 30 yX2_endsAs ∈ mT0 := mT0_tbl (i := 403) (by decide +kernel) (by decide +kernel)
theorem lkX6_97 : Cond.methodLink RX6 97 yX2_addBehind ∈ mT0 := mT0_tbl (i := 407) (by decide +kernel) (by decide +kernel)
theorem lkX2_34 : Cond.methodLink RX2 34 yX2_overlapWith ∈ mT0 := mT0_tbl (i := 411) (by decide +kernel) (by decide +kernel)
theorem lkX2_38 : Cond.methodLink RX2 38 yX2_add ∈ mT0 := mT0_tbl (i := 412) (by decide +kernel) (by decide +kernel)
theorem lkL_68 : Cond.methodLink RL 68 yX7_undo ∈ mT0 := mT0_tbl (i := 413) (by decide +kernel) (by decide +kernel)
theorem lkX7_164 : Cond.methodLink RX7 164 yX0_takeBack ∈ mT0 := mT0_tbl (i := 417) (by decide +kernel) (by decide +kernel)
theorem lkL_72 : Cond.methodLink RL 72 yX7_later ∈ mT0 := mT0_tbl (i := 421) (by decide +kernel) (by decide +kernel)
theorem lkL_76 : Cond.methodLink RL 76 yX7_lasts ∈ mT0 := mT0_tbl (i := 425) (by decide +kernel) (by decide +kernel)
theorem lkL_80 : Cond.methodLink RL 80 yX7_overlap ∈ mT0 := mT0_tbl (i := 429) (by decide +kernel) (by decide +kernel)
theorem lkX7_171 : Cond.methodLink RX7 171 yX2_overlapWith ∈ mT0 := mT0_tbl (i := 433) (by decide +kernel) (by decide +kernel)
theorem lkL_84 : Cond.methodLink RL 84 yX7_river ∈ mT0 := mT0_tbl (i := 434) (by decide +kernel) (by decide +kernel)
theorem lkX7_174 : Cond.methodLink RX7 174 yX6_whoIsThere ∈ mT0 := mT0_tbl (i := 438) (by decide +kernel) (by decide +kernel)
theorem lkX7_177 : Cond.methodLink RX7 177 yJ6_bitCount_0f7a4 ∈ mT0 := mT0_tbl (i := 439) (by decide +kernel) (by decide +kernel)
theorem lkX7_182 : Cond.methodLink RX7 182 yX7_isOrder ∈ mT0 := mT0_tbl (i := 440) (by decide +kernel) (by decide +kernel)
theorem lkX7_189 : Cond.methodLink RX7 189 yX7_figureOf ∈ mT0 := mT0_tbl (i := 444) (by decide +kernel) (by decide +kernel)
theorem lkX7_186 : Cond.methodLink RX7 186 yX7_flow ∈ mT0 := mT0_tbl (i := 447) (by decide +kernel) (by decide +kernel)
theorem lkX7_193 : Cond.methodLink RX7 193 yX2_clear ∈ mT0 := mT0_tbl (i := 451) (by decide +kernel) (by decide +kernel)
theorem lkX7_194 : Cond.methodLink RX7 194 yX2_addBehind ∈ mT0 := mT0_tbl (i := 452) (by decide +kernel) (by decide +kernel)
theorem lkL_88 : Cond.methodLink RL 88 yX7_covered ∈ mT0 := mT0_tbl (i := 453) (by decide +kernel) (by decide +kernel)
theorem lkX7_198 : Cond.methodLink RX7 198 yX7_findCovers ∈ mT0 := mT0_tbl (i := 457) (by decide +kernel) (by decide +kernel)
theorem lkX7_201 : Cond.methodLink RX7 201 yX2_placesUnder ∈ mT0 := mT0_tbl (i := 461) (by decide +kernel) (by decide +kernel)
theorem lkX2_46 : Cond.methodLink RX2 46 yX2_bitsAt ∈ mT0 := mT0_tbl (i := 465) (by decide +kernel) (by decide +kernel)
theorem lkL_92 : Cond.methodLink RL 92 yX7_ways ∈ mT0 := mT0_tbl (i := 469) (by decide +kernel) (by decide +kernel)
theorem lkX7_204 : Cond.methodLink RX7 204 yX7_waysFrom ∈ mT0 := mT0_tbl (i := 473) (by decide +kernel) (by decide +kernel)
theorem lkX7_208 : Cond.methodLink RX7 208 yX6_bendsFrom ∈ mT0 := mT0_tbl (i := 476) (by decide +kernel) (by decide +kernel)
theorem lkX6_55 : Cond.methodLink RX6 55 yJ9_max_7cf53 ∈ mT0 := mT0_tbl (i := 480) (by decide +kernel) (by decide +kernel)
theorem lkX7_211 : Cond.methodLink RX7 211 yX2_bearsAt ∈ mT0 := mT0_tbl (i := 481) (by decide +kernel) (by decide +kernel)
theorem lkX7_215 : Cond.methodLink RX7 215 yX2_bitsAt ∈ mT0 := mT0_tbl (i := 482) (by decide +kernel) (by decide +kernel)
theorem lkL_96 : Cond.methodLink RL 96 yX7_judge ∈ mT0 := mT0_tbl (i := 483) (by decide +kernel) (by decide +kernel)
theorem csX7_218 : Cond.constantLong RX7 218 (1000) ∈ mT0 := mT0_tbl (i := 487) (by decide +kernel) (by decide +kernel)
theorem lkX7_220 : Cond.methodLink RX7 220 yJ9_max_f86c9 ∈ mT0 := mT0_tbl (i := 488) (by decide +kernel) (by decide +kernel)
theorem lkX7_226 : Cond.methodLink RX7 226 yX7_canBe ∈ mT0 := mT0_tbl (i := 491) (by decide +kernel) (by decide +kernel)
theorem lkL_100 : Cond.methodLink RL 100 yX7_lay ∈ mT0 := mT0_tbl (i := 495) (by decide +kernel) (by decide +kernel)
theorem lkX7_229 : Cond.methodLink RX7 229 yX1_add ∈ mT0 := mT0_tbl (i := 499) (by decide +kernel) (by decide +kernel)
theorem lkL_104 : Cond.methodLink RL 104 yX7_unlay ∈ mT0 := mT0_tbl (i := 503) (by decide +kernel) (by decide +kernel)
theorem lkX7_232 : Cond.methodLink RX7 232 yX1_clear ∈ mT0 := mT0_tbl (i := 507) (by decide +kernel) (by decide +kernel)
theorem lkL_108 : Cond.methodLink RL 108 yX7_which ∈ mT0 := mT0_tbl (i := 511) (by decide +kernel) (by decide +kernel)
theorem lkX7_233 : Cond.methodLink RX7 233 yX7_guessRow ∈ mT0 := mT0_tbl (i := 515) (by decide +kernel) (by decide +kernel)
theorem lkX7_241 : Cond.methodLink RX7 241 yX2_add ∈ mT0 := mT0_tbl (i := 519) (by decide +kernel) (by decide +kernel)
theorem lkX7_237 : Cond.methodLink RX7 237 yX1_isSo ∈ mT0 := mT0_tbl (i := 520) (by decide +kernel) (by decide +kernel)
theorem lkX1_23 : Cond.methodLink RX1 23 yX2_bearsAt ∈ mT0 := mT0_tbl (i := 524) (by decide +kernel) (by decide +kernel)
theorem lkL_112 : Cond.methodLink RL 112 yX7_share ∈ mT0 := mT0_tbl (i := 525) (by decide +kernel) (by decide +kernel)
theorem lkX7_243 : Cond.methodLink RX7 243 yX7_coversOn ∈ mT0 := mT0_tbl (i := 529) (by decide +kernel) (by decide +kernel)
theorem lkX7_246 : Cond.methodLink RX7 246 yJ9_max_7cf53 ∈ mT0 := mT0_tbl (i := 533) (by decide +kernel) (by decide +kernel)
theorem lkX7_248 : Cond.methodLink RX7 248 yX7_partOfFraction ∈ mT0 := mT0_tbl (i := 534) (by decide +kernel) (by decide +kernel)
theorem lkX7_270 : Cond.methodLink RX7 270 yX7_commonDivisor ∈ mT0 := mT0_tbl (i := 537) (by decide +kernel) (by decide +kernel)
theorem lkL_117 : Cond.methodLink RL 117 yX7_rests ∈ mT0 := mT0_tbl (i := 540) (by decide +kernel) (by decide +kernel)
theorem lkX7_252 : Cond.methodLink RX7 252 yX7_findGains ∈ mT0 := mT0_tbl (i := 544) (by decide +kernel) (by decide +kernel)
theorem lkX7_258 : Cond.methodLink RX7 258 yX7_gainOf ∈ mT0 := mT0_tbl (i := 548) (by decide +kernel) (by decide +kernel)
theorem lkX7_255 : Cond.methodLink RX7 255 yX7_isRest ∈ mT0 := mT0_tbl (i := 552) (by decide +kernel) (by decide +kernel)
theorem lkL_122 : Cond.methodLink RL 122 yX7_lost ∈ mT0 := mT0_tbl (i := 556) (by decide +kernel) (by decide +kernel)
theorem lkX7_261 : Cond.methodLink RX7 261 yX7_coveredBy ∈ mT0 := mT0_tbl (i := 560) (by decide +kernel) (by decide +kernel)
theorem lkX7_264 : Cond.methodLink RX7 264 yX7_wholeBed ∈ mT0 := mT0_tbl (i := 564) (by decide +kernel) (by decide +kernel)
theorem lkX7_267 : Cond.methodLink RX7 267 yX7_chanceOf ∈ mT0 := mT0_tbl (i := 568) (by decide +kernel) (by decide +kernel)
theorem lkL_126 : Cond.methodLink RL 126 yX7_seed ∈ mT0 := mT0_tbl (i := 571) (by decide +kernel) (by decide +kernel)
theorem lkL_131 : Cond.methodLink RL 131 yX7_years ∈ mT0 := mT0_tbl (i := 575) (by decide +kernel) (by decide +kernel)
theorem csX7_273 : Cond.constantLong RX7 273 (6364136223846793005) ∈ mT0 := mT0_tbl (i := 579) (by decide +kernel) (by decide +kernel)
theorem csX7_275 : Cond.constantLong RX7 275 (1442695040888963407) ∈ mT0 := mT0_tbl (i := 580) (by decide +kernel) (by decide +kernel)
theorem lkX7_277 : Cond.methodLink RX7 277 yX7_doByChance ∈ mT0 := mT0_tbl (i := 581) (by decide +kernel) (by decide +kernel)
theorem lkL_135 : Cond.methodLink RL 135 yX7_keep ∈ mT0 := mT0_tbl (i := 585) (by decide +kernel) (by decide +kernel)
theorem lkX7_280 : Cond.methodLink RX7 280 yX3_put ∈ mT0 := mT0_tbl (i := 589) (by decide +kernel) (by decide +kernel)
theorem lkX3_22 : Cond.methodLink RX3 22 yX6_setTo ∈ mT0 := mT0_tbl (i := 593) (by decide +kernel) (by decide +kernel)
theorem lkL_139 : Cond.methodLink RL 139 yX7_again ∈ mT0 := mT0_tbl (i := 594) (by decide +kernel) (by decide +kernel)
theorem lkX7_284 : Cond.methodLink RX7 284 yX3_bringBack ∈ mT0 := mT0_tbl (i := 598) (by decide +kernel) (by decide +kernel)
theorem lkL_143 : Cond.methodLink RL 143 yX7_count ∈ mT0 := mT0_tbl (i := 602) (by decide +kernel) (by decide +kernel)
theorem lkX7_291 : Cond.methodLink RX7 291 yX6_housesInUse ∈ mT0 := mT0_tbl (i := 606) (by decide +kernel) (by decide +kernel)
theorem clL_10 : Cond.classLink RL 10 RX8 ∈ mT0 := mT0_tbl (i := 610) (by decide +kernel) (by decide +kernel)
theorem inX8 : Cond.instantiable RX8 24 ∈ mT0 := mT0_tbl (i := 611) (by decide +kernel) (by decide +kernel)
theorem lkL_12 : Cond.methodLink RL 12 yX8_init ∈ mT0 := mT0_tbl (i := 612) (by decide +kernel) (by decide +kernel)
theorem lkX8_1 : Cond.methodLink RX8 1 Lib.objectInit ∈ mT0 := mT0_tbl (i := 615) (by decide +kernel) (by decide +kernel)
theorem lkL_17 : Cond.methodLink RL 17 yX8_write ∈ mT0 := mT0_tbl (i := 689) (by decide +kernel) (by decide +kernel)
theorem csX8_50 : Cond.constantLong RX8 50 (255) ∈ mT0 := mT0_tbl (i := 693) (by decide +kernel) (by decide +kernel)
theorem lkX8_52 : Cond.methodLink RX8 52 yX8_in ∈ mT0 := mT0_tbl (i := 694) (by decide +kernel) (by decide +kernel)
theorem lkL_22 : Cond.methodLink RL 22 yX8_wipe ∈ mT0 := mT0_tbl (i := 697) (by decide +kernel) (by decide +kernel)
theorem lkL_26 : Cond.methodLink RL 26 yX8_fault ∈ mT0 := mT0_tbl (i := 701) (by decide +kernel) (by decide +kernel)
theorem lkX8_85 : Cond.methodLink RX8 85 yX8_readText ∈ mT0 := mT0_tbl (i := 705) (by decide +kernel) (by decide +kernel)
theorem lkX8_73 : Cond.methodLink RX8 73 yX8_readPart ∈ mT0 := mT0_tbl (i := 709) (by decide +kernel) (by decide +kernel)
theorem lkX8_77 : Cond.methodLink RX8 77 yX8_nextOf ∈ mT0 := mT0_tbl (i := 713) (by decide +kernel) (by decide +kernel)
theorem lkX8_81 : Cond.methodLink RX8 81 yX8_isBend ∈ mT0 := mT0_tbl (i := 717) (by decide +kernel) (by decide +kernel)
theorem csX8_66 : Cond.constantLong RX8 66 (97) ∈ mT0 := mT0_tbl (i := 721) (by decide +kernel) (by decide +kernel)
theorem csX8_68 : Cond.constantLong RX8 68 (100) ∈ mT0 := mT0_tbl (i := 722) (by decide +kernel) (by decide +kernel)
theorem lkL_30 : Cond.methodLink RL 30 yX8_valley ∈ mT0 := mT0_tbl (i := 723) (by decide +kernel) (by decide +kernel)
theorem lkL_37 : Cond.methodLink RL 37 yX8_bed ∈ mT0 := mT0_tbl (i := 727) (by decide +kernel) (by decide +kernel)
theorem csX8_138 : Cond.constantLong RX8 138 (12) ∈ mT0 := mT0_tbl (i := 731) (by decide +kernel) (by decide +kernel)
theorem lkX8_140 : Cond.methodLink RX8 140 yX8_tenTo ∈ mT0 := mT0_tbl (i := 732) (by decide +kernel) (by decide +kernel)
theorem csX8_136 : Cond.constantLong RX8 136 (10) ∈ mT0 := mT0_tbl (i := 735) (by decide +kernel) (by decide +kernel)
theorem csX8_144 : Cond.constantLong RX8 144 (4) ∈ mT0 := mT0_tbl (i := 736) (by decide +kernel) (by decide +kernel)
theorem lkL_42 : Cond.methodLink RL 42 yX8_strand ∈ mT0 := mT0_tbl (i := 737) (by decide +kernel) (by decide +kernel)
theorem lkX8_99 : Cond.methodLink RX8 99 yX8_isThere ∈ mT0 := mT0_tbl (i := 741) (by decide +kernel) (by decide +kernel)
theorem lkX8_152 : Cond.methodLink RX8 152 yX8_firstPlace ∈ mT0 := mT0_tbl (i := 745) (by decide +kernel) (by decide +kernel)
theorem lkX8_149 : Cond.methodLink RX8 149 yX8_liesAt ∈ mT0 := mT0_tbl (i := 749) (by decide +kernel) (by decide +kernel)
theorem lkX8_122 : Cond.methodLink RX8 122 yX8_bendAt ∈ mT0 := mT0_tbl (i := 753) (by decide +kernel) (by decide +kernel)
theorem lkL_47 : Cond.methodLink RL 47 yX8_bends ∈ mT0 := mT0_tbl (i := 757) (by decide +kernel) (by decide +kernel)
theorem csX8_155 : Cond.constantLong RX8 155 (-1) ∈ mT0 := mT0_tbl (i := 761) (by decide +kernel) (by decide +kernel)
theorem lkL_51 : Cond.methodLink RL 51 yX8_winter ∈ mT0 := mT0_tbl (i := 762) (by decide +kernel) (by decide +kernel)
theorem lkX8_160 : Cond.methodLink RX8 160 yX8_keepAct ∈ mT0 := mT0_tbl (i := 766) (by decide +kernel) (by decide +kernel)
theorem lkX8_163 : Cond.methodLink RX8 163 yX8_passOn ∈ mT0 := mT0_tbl (i := 770) (by decide +kernel) (by decide +kernel)
theorem lkX8_116 : Cond.methodLink RX8 116 yX8_whoIs ∈ mT0 := mT0_tbl (i := 774) (by decide +kernel) (by decide +kernel)
theorem lkX8_119 : Cond.methodLink RX8 119 yX8_hurt ∈ mT0 := mT0_tbl (i := 778) (by decide +kernel) (by decide +kernel)
theorem lkX8_103 : Cond.methodLink RX8 103 yX8_inHouse ∈ mT0 := mT0_tbl (i := 782) (by decide +kernel) (by decide +kernel)
theorem lkX8_106 : Cond.methodLink RX8 106 yX8_has ∈ mT0 := mT0_tbl (i := 786) (by decide +kernel) (by decide +kernel)
theorem lkX8_109 : Cond.methodLink RX8 109 yX8_loseFirst ∈ mT0 := mT0_tbl (i := 789) (by decide +kernel) (by decide +kernel)
theorem lkX8_95 : Cond.methodLink RX8 95 yX8_loseLast ∈ mT0 := mT0_tbl (i := 793) (by decide +kernel) (by decide +kernel)
theorem lkX8_112 : Cond.methodLink RX8 112 yX8_ones ∈ mT0 := mT0_tbl (i := 797) (by decide +kernel) (by decide +kernel)
theorem lkL_55 : Cond.methodLink RL 55 yX8_hang ∈ mT0 := mT0_tbl (i := 800) (by decide +kernel) (by decide +kernel)
theorem csX8_166 : Cond.constantLong RX8 166 (3) ∈ mT0 := mT0_tbl (i := 804) (by decide +kernel) (by decide +kernel)
theorem lkL_59 : Cond.methodLink RL 59 yX8_turn ∈ mT0 := mT0_tbl (i := 805) (by decide +kernel) (by decide +kernel)
theorem lkX8_168 : Cond.methodLink RX8 168 yX8_turnOn ∈ mT0 := mT0_tbl (i := 809) (by decide +kernel) (by decide +kernel)
theorem lkL_63 : Cond.methodLink RL 63 yX8_snip ∈ mT0 := mT0_tbl (i := 813) (by decide +kernel) (by decide +kernel)
theorem lkL_67 : Cond.methodLink RL 67 yX8_join ∈ mT0 := mT0_tbl (i := 817) (by decide +kernel) (by decide +kernel)
theorem lkX8_129 : Cond.methodLink RX8 129 yX8_isOneHouse ∈ mT0 := mT0_tbl (i := 821) (by decide +kernel) (by decide +kernel)
theorem lkX8_171 : Cond.methodLink RX8 171 yX8_canJoin ∈ mT0 := mT0_tbl (i := 825) (by decide +kernel) (by decide +kernel)
theorem lkX8_133 : Cond.methodLink RX8 133 yX8_joinedMany ∈ mT0 := mT0_tbl (i := 829) (by decide +kernel) (by decide +kernel)
theorem lkX8_126 : Cond.methodLink RX8 126 yX8_overlapOf ∈ mT0 := mT0_tbl (i := 833) (by decide +kernel) (by decide +kernel)
theorem lkX8_174 : Cond.methodLink RX8 174 yX8_joinOn ∈ mT0 := mT0_tbl (i := 837) (by decide +kernel) (by decide +kernel)
theorem lkL_71 : Cond.methodLink RL 71 yX8_undo ∈ mT0 := mT0_tbl (i := 841) (by decide +kernel) (by decide +kernel)
theorem lkL_75 : Cond.methodLink RL 75 yX8_later ∈ mT0 := mT0_tbl (i := 845) (by decide +kernel) (by decide +kernel)
theorem csX8_178 : Cond.constantLong RX8 178 (20) ∈ mT0 := mT0_tbl (i := 849) (by decide +kernel) (by decide +kernel)
theorem lkX8_180 : Cond.methodLink RX8 180 yX8_layTrial ∈ mT0 := mT0_tbl (i := 850) (by decide +kernel) (by decide +kernel)
theorem lkL_79 : Cond.methodLink RL 79 yX8_lasts ∈ mT0 := mT0_tbl (i := 854) (by decide +kernel) (by decide +kernel)
theorem lkL_83 : Cond.methodLink RL 83 yX8_overlap ∈ mT0 := mT0_tbl (i := 858) (by decide +kernel) (by decide +kernel)
theorem lkL_87 : Cond.methodLink RL 87 yX8_river ∈ mT0 := mT0_tbl (i := 862) (by decide +kernel) (by decide +kernel)
theorem lkX8_192 : Cond.methodLink RX8 192 yX8_riverBy ∈ mT0 := mT0_tbl (i := 866) (by decide +kernel) (by decide +kernel)
theorem lkX8_189 : Cond.methodLink RX8 189 yX8_flowOn ∈ mT0 := mT0_tbl (i := 870) (by decide +kernel) (by decide +kernel)
theorem lkX8_186 : Cond.methodLink RX8 186 yX8_goesOn ∈ mT0 := mT0_tbl (i := 874) (by decide +kernel) (by decide +kernel)
theorem lkL_91 : Cond.methodLink RL 91 yX8_covered ∈ mT0 := mT0_tbl (i := 878) (by decide +kernel) (by decide +kernel)
theorem lkX8_195 : Cond.methodLink RX8 195 yX8_coverOf ∈ mT0 := mT0_tbl (i := 882) (by decide +kernel) (by decide +kernel)
theorem lkL_95 : Cond.methodLink RL 95 yX8_ways ∈ mT0 := mT0_tbl (i := 886) (by decide +kernel) (by decide +kernel)
theorem lkX8_198 : Cond.methodLink RX8 198 yX8_isWay ∈ mT0 := mT0_tbl (i := 890) (by decide +kernel) (by decide +kernel)
theorem lkL_99 : Cond.methodLink RL 99 yX8_judge ∈ mT0 := mT0_tbl (i := 894) (by decide +kernel) (by decide +kernel)
theorem lkX8_202 : Cond.methodLink RX8 202 yX8_thousandTo ∈ mT0 := mT0_tbl (i := 898) (by decide +kernel) (by decide +kernel)
theorem csX8_205 : Cond.constantLong RX8 205 (1000) ∈ mT0 := mT0_tbl (i := 901) (by decide +kernel) (by decide +kernel)
theorem lkX8_207 : Cond.methodLink RX8 207 yX8_tryThing ∈ mT0 := mT0_tbl (i := 902) (by decide +kernel) (by decide +kernel)
theorem lkL_103 : Cond.methodLink RL 103 yX8_lay ∈ mT0 := mT0_tbl (i := 906) (by decide +kernel) (by decide +kernel)
theorem csX8_210 : Cond.constantLong RX8 210 (11) ∈ mT0 := mT0_tbl (i := 910) (by decide +kernel) (by decide +kernel)
theorem lkL_107 : Cond.methodLink RL 107 yX8_unlay ∈ mT0 := mT0_tbl (i := 911) (by decide +kernel) (by decide +kernel)
theorem lkL_111 : Cond.methodLink RL 111 yX8_which ∈ mT0 := mT0_tbl (i := 915) (by decide +kernel) (by decide +kernel)
theorem lkX8_218 : Cond.methodLink RX8 218 yX8_areBends ∈ mT0 := mT0_tbl (i := 919) (by decide +kernel) (by decide +kernel)
theorem lkX8_221 : Cond.methodLink RX8 221 yX8_mayBeLaid ∈ mT0 := mT0_tbl (i := 922) (by decide +kernel) (by decide +kernel)
theorem lkX8_215 : Cond.methodLink RX8 215 yX8_fitsAt ∈ mT0 := mT0_tbl (i := 926) (by decide +kernel) (by decide +kernel)
theorem lkL_116 : Cond.methodLink RL 116 yX8_share ∈ mT0 := mT0_tbl (i := 930) (by decide +kernel) (by decide +kernel)
theorem lkX8_224 : Cond.methodLink RX8 224 yX8_factorial ∈ mT0 := mT0_tbl (i := 934) (by decide +kernel) (by decide +kernel)
theorem lkX8_227 : Cond.methodLink RX8 227 yX8_common ∈ mT0 := mT0_tbl (i := 937) (by decide +kernel) (by decide +kernel)
theorem lkL_121 : Cond.methodLink RL 121 yX8_rests ∈ mT0 := mT0_tbl (i := 940) (by decide +kernel) (by decide +kernel)
theorem lkX8_234 : Cond.methodLink RX8 234 yX8_isRest ∈ mT0 := mT0_tbl (i := 944) (by decide +kernel) (by decide +kernel)
theorem lkX8_230 : Cond.methodLink RX8 230 yX8_gain ∈ mT0 := mT0_tbl (i := 948) (by decide +kernel) (by decide +kernel)
theorem lkL_125 : Cond.methodLink RL 125 yX8_lost ∈ mT0 := mT0_tbl (i := 952) (by decide +kernel) (by decide +kernel)
theorem lkX8_238 : Cond.methodLink RX8 238 yX8_power ∈ mT0 := mT0_tbl (i := 956) (by decide +kernel) (by decide +kernel)
theorem lkL_130 : Cond.methodLink RL 130 yX8_seed ∈ mT0 := mT0_tbl (i := 959) (by decide +kernel) (by decide +kernel)
theorem lkL_134 : Cond.methodLink RL 134 yX8_years ∈ mT0 := mT0_tbl (i := 963) (by decide +kernel) (by decide +kernel)
theorem csX8_245 : Cond.constantLong RX8 245 (30) ∈ mT0 := mT0_tbl (i := 967) (by decide +kernel) (by decide +kernel)
theorem csX8_247 : Cond.constantLong RX8 247 (6364136223846793005) ∈ mT0 := mT0_tbl (i := 968) (by decide +kernel) (by decide +kernel)
theorem csX8_249 : Cond.constantLong RX8 249 (1442695040888963407) ∈ mT0 := mT0_tbl (i := 969) (by decide +kernel) (by decide +kernel)
theorem csX8_251 : Cond.constantLong RX8 251 (32) ∈ mT0 := mT0_tbl (i := 970) (by decide +kernel) (by decide +kernel)
theorem lkX8_253 : Cond.methodLink RX8 253 yX8_bendsOfAll ∈ mT0 := mT0_tbl (i := 971) (by decide +kernel) (by decide +kernel)
theorem lkL_138 : Cond.methodLink RL 138 yX8_keep ∈ mT0 := mT0_tbl (i := 975) (by decide +kernel) (by decide +kernel)
theorem lkL_142 : Cond.methodLink RL 142 yX8_again ∈ mT0 := mT0_tbl (i := 979) (by decide +kernel) (by decide +kernel)
theorem lkL_146 : Cond.methodLink RL 146 yX8_count ∈ mT0 := mT0_tbl (i := 983) (by decide +kernel) (by decide +kernel)
theorem lkX8_256 : Cond.methodLink RX8 256 yX8_usedHouses ∈ mT0 := mT0_tbl (i := 987) (by decide +kernel) (by decide +kernel)
theorem csL_31 : Cond.constantLong RL 31 (4294967295) ∈ mT0 := mT0_tbl (i := 991) (by decide +kernel) (by decide +kernel)
theorem ic_m1 : Int32.ofInt (-1) = (-1) := by decide +kernel
theorem ic_0 : Int32.ofInt 0 = 0 := by decide +kernel
theorem ic_1 : Int32.ofInt 1 = 1 := by decide +kernel
theorem ic_2 : Int32.ofInt 2 = 2 := by decide +kernel
theorem ic_3 : Int32.ofInt 3 = 3 := by decide +kernel
theorem ic_4 : Int32.ofInt 4 = 4 := by decide +kernel
theorem bp_m9 : (Int8.ofInt (-9)).toInt32 = (-9) := by decide +kernel
theorem bp_m4 : (Int8.ofInt (-4)).toInt32 = (-4) := by decide +kernel
theorem bp_m3 : (Int8.ofInt (-3)).toInt32 = (-3) := by decide +kernel
theorem bp_m2 : (Int8.ofInt (-2)).toInt32 = (-2) := by decide +kernel
theorem bp_6 : (Int8.ofInt 6).toInt32 = 6 := by decide +kernel
theorem bp_8 : (Int8.ofInt 8).toInt32 = 8 := by decide +kernel
theorem bp_10 : (Int8.ofInt 10).toInt32 = 10 := by decide +kernel
theorem bp_11 : (Int8.ofInt 11).toInt32 = 11 := by decide +kernel
theorem bp_12 : (Int8.ofInt 12).toInt32 = 12 := by decide +kernel
theorem bp_13 : (Int8.ofInt 13).toInt32 = 13 := by decide +kernel
theorem bp_14 : (Int8.ofInt 14).toInt32 = 14 := by decide +kernel
theorem bp_15 : (Int8.ofInt 15).toInt32 = 15 := by decide +kernel
theorem bp_16 : (Int8.ofInt 16).toInt32 = 16 := by decide +kernel
theorem bp_19 : (Int8.ofInt 19).toInt32 = 19 := by decide +kernel
theorem bp_20 : (Int8.ofInt 20).toInt32 = 20 := by decide +kernel
theorem bp_21 : (Int8.ofInt 21).toInt32 = 21 := by decide +kernel
theorem bp_22 : (Int8.ofInt 22).toInt32 = 22 := by decide +kernel
theorem bp_23 : (Int8.ofInt 23).toInt32 = 23 := by decide +kernel
theorem bp_24 : (Int8.ofInt 24).toInt32 = 24 := by decide +kernel
theorem bp_30 : (Int8.ofInt 30).toInt32 = 30 := by decide +kernel
theorem bp_31 : (Int8.ofInt 31).toInt32 = 31 := by decide +kernel
theorem bp_32 : (Int8.ofInt 32).toInt32 = 32 := by decide +kernel
theorem bp_33 : (Int8.ofInt 33).toInt32 = 33 := by decide +kernel
theorem bp_48 : (Int8.ofInt 48).toInt32 = 48 := by decide +kernel
theorem bp_56 : (Int8.ofInt 56).toInt32 = 56 := by decide +kernel
theorem bp_57 : (Int8.ofInt 57).toInt32 = 57 := by decide +kernel
theorem bp_61 : (Int8.ofInt 61).toInt32 = 61 := by decide +kernel
theorem bp_63 : (Int8.ofInt 63).toInt32 = 63 := by decide +kernel
theorem bp_64 : (Int8.ofInt 64).toInt32 = 64 := by decide +kernel
theorem bp_83 : (Int8.ofInt 83).toInt32 = 83 := by decide +kernel
theorem bp_84 : (Int8.ofInt 84).toInt32 = 84 := by decide +kernel
theorem bp_96 : (Int8.ofInt 96).toInt32 = 96 := by decide +kernel
theorem bp_97 : (Int8.ofInt 97).toInt32 = 97 := by decide +kernel
theorem bp_100 : (Int8.ofInt 100).toInt32 = 100 := by decide +kernel
theorem bp_101 : (Int8.ofInt 101).toInt32 = 101 := by decide +kernel
theorem bp_114 : (Int8.ofInt 114).toInt32 = 114 := by decide +kernel
theorem sp_255 : (Int16.ofInt 255).toInt32 = 255 := by decide +kernel
theorem sp_445 : (Int16.ofInt 445).toInt32 = 445 := by decide +kernel
theorem sp_798 : (Int16.ofInt 798).toInt32 = 798 := by decide +kernel
theorem sp_20736 : (Int16.ofInt 20736).toInt32 = 20736 := by decide +kernel
end
section
theorem dX0_init_0 : decode cX0_init 0 = .ok (.aload_n 0, 1) := by decide +kernel
theorem dX0_init_1 : decode cX0_init 1 = .ok (.invokespecial 3, 3) := by decide +kernel
theorem dX0_init_4 : decode cX0_init 4 = .ok (.aload_n 0, 1) := by decide +kernel
theorem dX0_init_5 : decode cX0_init 5 = .ok (.bipush 14, 2) := by decide +kernel
theorem dX0_init_7 : decode cX0_init 7 = .ok (.anewarray 9, 3) := by decide +kernel
theorem dX0_init_10 : decode cX0_init 10 = .ok (.putfield 11, 3) := by decide +kernel
theorem dX0_init_13 : decode cX0_init 13 = .ok (.iconst 0, 1) := by decide +kernel
theorem dX0_init_14 : decode cX0_init 14 = .ok (.istore_n 1, 1) := by decide +kernel
theorem dX0_init_15 : decode cX0_init 15 = .ok (.iload_n 1, 1) := by decide +kernel
theorem dX0_init_16 : decode cX0_init 16 = .ok (.bipush 14, 2) := by decide +kernel
theorem dX0_init_18 : decode cX0_init 18 = .ok (.if_icmp .ge 22, 3) := by decide +kernel
theorem dX0_init_21 : decode cX0_init 21 = .ok (.aload_n 0, 1) := by decide +kernel
theorem dX0_init_22 : decode cX0_init 22 = .ok (.getfield 11, 3) := by decide +kernel
theorem dX0_init_25 : decode cX0_init 25 = .ok (.iload_n 1, 1) := by decide +kernel
theorem dX0_init_26 : decode cX0_init 26 = .ok (.new 9, 3) := by decide +kernel
theorem dX0_init_29 : decode cX0_init 29 = .ok (.dup, 1) := by decide +kernel
theorem dX0_init_30 : decode cX0_init 30 = .ok (.invokespecial 17, 3) := by decide +kernel
theorem dX0_init_33 : decode cX0_init 33 = .ok (.aastore, 1) := by decide +kernel
theorem dX0_init_34 : decode cX0_init 34 = .ok (.iinc 1 1, 3) := by decide +kernel
theorem dX0_init_37 : decode cX0_init 37 = .ok (.goto (-22), 3) := by decide +kernel
theorem dX0_init_40 : decode cX0_init 40 = .ok (.return_, 1) := by decide +kernel
theorem dX0_clear_0 : decode cX0_clear 0 = .ok (.aload_n 0, 1) := by decide +kernel
theorem dX0_clear_1 : decode cX0_clear 1 = .ok (.iconst 0, 1) := by decide +kernel
theorem dX0_clear_2 : decode cX0_clear 2 = .ok (.putfield 18, 3) := by decide +kernel
theorem dX0_clear_5 : decode cX0_clear 5 = .ok (.aload_n 0, 1) := by decide +kernel
theorem dX0_clear_6 : decode cX0_clear 6 = .ok (.iconst 0, 1) := by decide +kernel
theorem dX0_clear_7 : decode cX0_clear 7 = .ok (.putfield 22, 3) := by decide +kernel
theorem dX0_clear_10 : decode cX0_clear 10 = .ok (.return_, 1) := by decide +kernel
theorem dX0_remember_0 : decode cX0_remember 0 = .ok (.aload_n 0, 1) := by decide +kernel
theorem dX0_remember_1 : decode cX0_remember 1 = .ok (.getfield 22, 3) := by decide +kernel
theorem dX0_remember_4 : decode cX0_remember 4 = .ok (.bipush 14, 2) := by decide +kernel
theorem dX0_remember_6 : decode cX0_remember 6 = .ok (.if_icmp .ne 26, 3) := by decide +kernel
theorem dX0_remember_9 : decode cX0_remember 9 = .ok (.aload_n 0, 1) := by decide +kernel
theorem dX0_remember_10 : decode cX0_remember 10 = .ok (.aload_n 0, 1) := by decide +kernel
theorem dX0_remember_11 : decode cX0_remember 11 = .ok (.getfield 18, 3) := by decide +kernel
theorem dX0_remember_14 : decode cX0_remember 14 = .ok (.iconst 1, 1) := by decide +kernel
theorem dX0_remember_15 : decode cX0_remember 15 = .ok (.iadd, 1) := by decide +kernel
theorem dX0_remember_16 : decode cX0_remember 16 = .ok (.bipush 14, 2) := by decide +kernel
theorem dX0_remember_18 : decode cX0_remember 18 = .ok (.irem, 1) := by decide +kernel
theorem dX0_remember_19 : decode cX0_remember 19 = .ok (.putfield 18, 3) := by decide +kernel
theorem dX0_remember_22 : decode cX0_remember 22 = .ok (.aload_n 0, 1) := by decide +kernel
theorem dX0_remember_23 : decode cX0_remember 23 = .ok (.dup, 1) := by decide +kernel
theorem dX0_remember_24 : decode cX0_remember 24 = .ok (.getfield 22, 3) := by decide +kernel
theorem dX0_remember_27 : decode cX0_remember 27 = .ok (.iconst 1, 1) := by decide +kernel
theorem dX0_remember_28 : decode cX0_remember 28 = .ok (.isub, 1) := by decide +kernel
theorem dX0_remember_29 : decode cX0_remember 29 = .ok (.putfield 22, 3) := by decide +kernel
theorem dX0_remember_32 : decode cX0_remember 32 = .ok (.aload_n 0, 1) := by decide +kernel
theorem dX0_remember_33 : decode cX0_remember 33 = .ok (.getfield 11, 3) := by decide +kernel
theorem dX0_remember_36 : decode cX0_remember 36 = .ok (.aload_n 0, 1) := by decide +kernel
theorem dX0_remember_37 : decode cX0_remember 37 = .ok (.getfield 18, 3) := by decide +kernel
theorem dX0_remember_40 : decode cX0_remember 40 = .ok (.aload_n 0, 1) := by decide +kernel
theorem dX0_remember_41 : decode cX0_remember 41 = .ok (.getfield 22, 3) := by decide +kernel
theorem dX0_remember_44 : decode cX0_remember 44 = .ok (.iadd, 1) := by decide +kernel
theorem dX0_remember_45 : decode cX0_remember 45 = .ok (.bipush 14, 2) := by decide +kernel
theorem dX0_remember_47 : decode cX0_remember 47 = .ok (.irem, 1) := by decide +kernel
theorem dX0_remember_48 : decode cX0_remember 48 = .ok (.aaload, 1) := by decide +kernel
theorem dX0_remember_49 : decode cX0_remember 49 = .ok (.aload_n 1, 1) := by decide +kernel
theorem dX0_remember_50 : decode cX0_remember 50 = .ok (.invokevirtual 25, 3) := by decide +kernel
theorem dX0_remember_53 : decode cX0_remember 53 = .ok (.aload_n 0, 1) := by decide +kernel
theorem dX0_remember_54 : decode cX0_remember 54 = .ok (.dup, 1) := by decide +kernel
theorem dX0_remember_55 : decode cX0_remember 55 = .ok (.getfield 22, 3) := by decide +kernel
theorem dX0_remember_58 : decode cX0_remember 58 = .ok (.iconst 1, 1) := by decide +kernel
theorem dX0_remember_59 : decode cX0_remember 59 = .ok (.iadd, 1) := by decide +kernel
theorem dX0_remember_60 : decode cX0_remember 60 = .ok (.putfield 22, 3) := by decide +kernel
theorem dX0_remember_63 : decode cX0_remember 63 = .ok (.return_, 1) := by decide +kernel
theorem dX0_takeBack_0 : decode cX0_takeBack 0 = .ok (.aload_n 0, 1) := by decide +kernel
theorem dX0_takeBack_1 : decode cX0_takeBack 1 = .ok (.getfield 22, 3) := by decide +kernel
theorem dX0_takeBack_4 : decode cX0_takeBack 4 = .ok (.ifCond .ne 6, 3) := by decide +kernel
theorem dX0_takeBack_7 : decode cX0_takeBack 7 = .ok (.bipush (-3), 2) := by decide +kernel
theorem dX0_takeBack_9 : decode cX0_takeBack 9 = .ok (.ireturn, 1) := by decide +kernel
theorem dX0_takeBack_10 : decode cX0_takeBack 10 = .ok (.aload_n 0, 1) := by decide +kernel
theorem dX0_takeBack_11 : decode cX0_takeBack 11 = .ok (.dup, 1) := by decide +kernel
theorem dX0_takeBack_12 : decode cX0_takeBack 12 = .ok (.getfield 22, 3) := by decide +kernel
theorem dX0_takeBack_15 : decode cX0_takeBack 15 = .ok (.iconst 1, 1) := by decide +kernel
theorem dX0_takeBack_16 : decode cX0_takeBack 16 = .ok (.isub, 1) := by decide +kernel
theorem dX0_takeBack_17 : decode cX0_takeBack 17 = .ok (.putfield 22, 3) := by decide +kernel
theorem dX0_takeBack_20 : decode cX0_takeBack 20 = .ok (.aload_n 1, 1) := by decide +kernel
theorem dX0_takeBack_21 : decode cX0_takeBack 21 = .ok (.aload_n 0, 1) := by decide +kernel
theorem dX0_takeBack_22 : decode cX0_takeBack 22 = .ok (.getfield 11, 3) := by decide +kernel
theorem dX0_takeBack_25 : decode cX0_takeBack 25 = .ok (.aload_n 0, 1) := by decide +kernel
theorem dX0_takeBack_26 : decode cX0_takeBack 26 = .ok (.getfield 18, 3) := by decide +kernel
theorem dX0_takeBack_29 : decode cX0_takeBack 29 = .ok (.aload_n 0, 1) := by decide +kernel
theorem dX0_takeBack_30 : decode cX0_takeBack 30 = .ok (.getfield 22, 3) := by decide +kernel
theorem dX0_takeBack_33 : decode cX0_takeBack 33 = .ok (.iadd, 1) := by decide +kernel
theorem dX0_takeBack_34 : decode cX0_takeBack 34 = .ok (.bipush 14, 2) := by decide +kernel
theorem dX0_takeBack_36 : decode cX0_takeBack 36 = .ok (.irem, 1) := by decide +kernel
theorem dX0_takeBack_37 : decode cX0_takeBack 37 = .ok (.aaload, 1) := by decide +kernel
theorem dX0_takeBack_38 : decode cX0_takeBack 38 = .ok (.invokevirtual 25, 3) := by decide +kernel
theorem dX0_takeBack_41 : decode cX0_takeBack 41 = .ok (.aload_n 0, 1) := by decide +kernel
theorem dX0_takeBack_42 : decode cX0_takeBack 42 = .ok (.getfield 22, 3) := by decide +kernel
theorem dX0_takeBack_45 : decode cX0_takeBack 45 = .ok (.ireturn, 1) := by decide +kernel
theorem dX1_init_0 : decode cX1_init 0 = .ok (.aload_n 0, 1) := by decide +kernel
theorem dX1_init_1 : decode cX1_init 1 = .ok (.invokespecial 3, 3) := by decide +kernel
theorem dX1_init_4 : decode cX1_init 4 = .ok (.aload_n 0, 1) := by decide +kernel
theorem dX1_init_5 : decode cX1_init 5 = .ok (.bipush 6, 2) := by decide +kernel
theorem dX1_init_7 : decode cX1_init 7 = .ok (.newarray .int, 2) := by decide +kernel
theorem dX1_init_9 : decode cX1_init 9 = .ok (.putfield 9, 3) := by decide +kernel
theorem dX1_init_12 : decode cX1_init 12 = .ok (.aload_n 0, 1) := by decide +kernel
theorem dX1_init_13 : decode cX1_init 13 = .ok (.bipush 6, 2) := by decide +kernel
theorem dX1_init_15 : decode cX1_init 15 = .ok (.newarray .boolean, 2) := by decide +kernel
theorem dX1_init_17 : decode cX1_init 17 = .ok (.putfield 15, 3) := by decide +kernel
theorem dX1_init_20 : decode cX1_init 20 = .ok (.return_, 1) := by decide +kernel
theorem dX1_add_0 : decode cX1_add 0 = .ok (.aload_n 0, 1) := by decide +kernel
theorem dX1_add_1 : decode cX1_add 1 = .ok (.getfield 19, 3) := by decide +kernel
theorem dX1_add_4 : decode cX1_add 4 = .ok (.bipush 6, 2) := by decide +kernel
theorem dX1_add_6 : decode cX1_add 6 = .ok (.if_icmp .lt 6, 3) := by decide +kernel
theorem dX1_add_9 : decode cX1_add 9 = .ok (.bipush (-4), 2) := by decide +kernel
theorem dX1_add_11 : decode cX1_add 11 = .ok (.ireturn, 1) := by decide +kernel
theorem dX1_add_12 : decode cX1_add 12 = .ok (.aload_n 0, 1) := by decide +kernel
theorem dX1_add_13 : decode cX1_add 13 = .ok (.getfield 9, 3) := by decide +kernel
theorem dX1_add_16 : decode cX1_add 16 = .ok (.aload_n 0, 1) := by decide +kernel
theorem dX1_add_17 : decode cX1_add 17 = .ok (.getfield 19, 3) := by decide +kernel
theorem dX1_add_20 : decode cX1_add 20 = .ok (.iload_n 1, 1) := by decide +kernel
theorem dX1_add_21 : decode cX1_add 21 = .ok (.iastore, 1) := by decide +kernel
theorem dX1_add_22 : decode cX1_add 22 = .ok (.aload_n 0, 1) := by decide +kernel
theorem dX1_add_23 : decode cX1_add 23 = .ok (.getfield 15, 3) := by decide +kernel
theorem dX1_add_26 : decode cX1_add 26 = .ok (.aload_n 0, 1) := by decide +kernel
theorem dX1_add_27 : decode cX1_add 27 = .ok (.getfield 19, 3) := by decide +kernel
theorem dX1_add_30 : decode cX1_add 30 = .ok (.iload_n 2, 1) := by decide +kernel
theorem dX1_add_31 : decode cX1_add 31 = .ok (.bastore, 1) := by decide +kernel
theorem dX1_add_32 : decode cX1_add 32 = .ok (.aload_n 0, 1) := by decide +kernel
theorem dX1_add_33 : decode cX1_add 33 = .ok (.dup, 1) := by decide +kernel
theorem dX1_add_34 : decode cX1_add 34 = .ok (.getfield 19, 3) := by decide +kernel
theorem dX1_add_37 : decode cX1_add 37 = .ok (.iconst 1, 1) := by decide +kernel
theorem dX1_add_38 : decode cX1_add 38 = .ok (.iadd, 1) := by decide +kernel
theorem dX1_add_39 : decode cX1_add 39 = .ok (.putfield 19, 3) := by decide +kernel
theorem dX1_add_42 : decode cX1_add 42 = .ok (.aload_n 0, 1) := by decide +kernel
theorem dX1_add_43 : decode cX1_add 43 = .ok (.getfield 19, 3) := by decide +kernel
theorem dX1_add_46 : decode cX1_add 46 = .ok (.ireturn, 1) := by decide +kernel
theorem dX1_clear_0 : decode cX1_clear 0 = .ok (.aload_n 0, 1) := by decide +kernel
theorem dX1_clear_1 : decode cX1_clear 1 = .ok (.getfield 19, 3) := by decide +kernel
theorem dX1_clear_4 : decode cX1_clear 4 = .ok (.istore_n 1, 1) := by decide +kernel
theorem dX1_clear_5 : decode cX1_clear 5 = .ok (.aload_n 0, 1) := by decide +kernel
theorem dX1_clear_6 : decode cX1_clear 6 = .ok (.iconst 0, 1) := by decide +kernel
theorem dX1_clear_7 : decode cX1_clear 7 = .ok (.putfield 19, 3) := by decide +kernel
theorem dX1_clear_10 : decode cX1_clear 10 = .ok (.iload_n 1, 1) := by decide +kernel
theorem dX1_clear_11 : decode cX1_clear 11 = .ok (.ireturn, 1) := by decide +kernel
theorem dX1_isSo_0 : decode cX1_isSo 0 = .ok (.iconst 0, 1) := by decide +kernel
theorem dX1_isSo_1 : decode cX1_isSo 1 = .ok (.istore_n 3, 1) := by decide +kernel
theorem dX1_isSo_2 : decode cX1_isSo 2 = .ok (.iload_n 3, 1) := by decide +kernel
theorem dX1_isSo_3 : decode cX1_isSo 3 = .ok (.aload_n 0, 1) := by decide +kernel
theorem dX1_isSo_4 : decode cX1_isSo 4 = .ok (.getfield 19, 3) := by decide +kernel
theorem dX1_isSo_7 : decode cX1_isSo 7 = .ok (.if_icmp .ge 31, 3) := by decide +kernel
theorem dX1_isSo_10 : decode cX1_isSo 10 = .ok (.aload_n 2, 1) := by decide +kernel
theorem dX1_isSo_11 : decode cX1_isSo 11 = .ok (.aload_n 0, 1) := by decide +kernel
theorem dX1_isSo_12 : decode cX1_isSo 12 = .ok (.getfield 9, 3) := by decide +kernel
theorem dX1_isSo_15 : decode cX1_isSo 15 = .ok (.iload_n 3, 1) := by decide +kernel
theorem dX1_isSo_16 : decode cX1_isSo 16 = .ok (.iaload, 1) := by decide +kernel
theorem dX1_isSo_17 : decode cX1_isSo 17 = .ok (.aload_n 1, 1) := by decide +kernel
theorem dX1_isSo_18 : decode cX1_isSo 18 = .ok (.invokevirtual 23, 3) := by decide +kernel
theorem dX1_isSo_21 : decode cX1_isSo 21 = .ok (.aload_n 0, 1) := by decide +kernel
theorem dX1_isSo_22 : decode cX1_isSo 22 = .ok (.getfield 15, 3) := by decide +kernel
theorem dX1_isSo_25 : decode cX1_isSo 25 = .ok (.iload_n 3, 1) := by decide +kernel
theorem dX1_isSo_26 : decode cX1_isSo 26 = .ok (.baload, 1) := by decide +kernel
theorem dX1_isSo_27 : decode cX1_isSo 27 = .ok (.if_icmp .eq 5, 3) := by decide +kernel
theorem dX1_isSo_30 : decode cX1_isSo 30 = .ok (.iconst 0, 1) := by decide +kernel
theorem dX1_isSo_31 : decode cX1_isSo 31 = .ok (.ireturn, 1) := by decide +kernel
theorem dX1_isSo_32 : decode cX1_isSo 32 = .ok (.iinc 3 1, 3) := by decide +kernel
theorem dX1_isSo_35 : decode cX1_isSo 35 = .ok (.goto (-33), 3) := by decide +kernel
theorem dX1_isSo_38 : decode cX1_isSo 38 = .ok (.iconst 1, 1) := by decide +kernel
theorem dX1_isSo_39 : decode cX1_isSo 39 = .ok (.ireturn, 1) := by decide +kernel
theorem dX2_init_0 : decode cX2_init 0 = .ok (.aload_n 0, 1) := by decide +kernel
theorem dX2_init_1 : decode cX2_init 1 = .ok (.invokespecial 3, 3) := by decide +kernel
theorem dX2_init_4 : decode cX2_init 4 = .ok (.aload_n 0, 1) := by decide +kernel
theorem dX2_init_5 : decode cX2_init 5 = .ok (.iload_n 1, 1) := by decide +kernel
theorem dX2_init_6 : decode cX2_init 6 = .ok (.iconst 0, 1) := by decide +kernel
theorem dX2_init_7 : decode cX2_init 7 = .ok (.invokestatic 9, 3) := by decide +kernel
theorem dX2_init_10 : decode cX2_init 10 = .ok (.newarray .int, 2) := by decide +kernel
theorem dX2_init_12 : decode cX2_init 12 = .ok (.putfield 15, 3) := by decide +kernel
theorem dX2_init_15 : decode cX2_init 15 = .ok (.aload_n 0, 1) := by decide +kernel
theorem dX2_init_16 : decode cX2_init 16 = .ok (.iconst 0, 1) := by decide +kernel
theorem dX2_init_17 : decode cX2_init 17 = .ok (.putfield 21, 3) := by decide +kernel
theorem dX2_init_20 : decode cX2_init 20 = .ok (.return_, 1) := by decide +kernel
theorem dX2_clear_0 : decode cX2_clear 0 = .ok (.aload_n 0, 1) := by decide +kernel
theorem dX2_clear_1 : decode cX2_clear 1 = .ok (.iconst 0, 1) := by decide +kernel
theorem dX2_clear_2 : decode cX2_clear 2 = .ok (.putfield 21, 3) := by decide +kernel
theorem dX2_clear_5 : decode cX2_clear 5 = .ok (.return_, 1) := by decide +kernel
theorem dX2_add_0 : decode cX2_add 0 = .ok (.aload_n 0, 1) := by decide +kernel
theorem dX2_add_1 : decode cX2_add 1 = .ok (.getfield 21, 3) := by decide +kernel
theorem dX2_add_4 : decode cX2_add 4 = .ok (.aload_n 0, 1) := by decide +kernel
theorem dX2_add_5 : decode cX2_add 5 = .ok (.getfield 15, 3) := by decide +kernel
theorem dX2_add_8 : decode cX2_add 8 = .ok (.arraylength, 1) := by decide +kernel
theorem dX2_add_9 : decode cX2_add 9 = .ok (.if_icmp .ge 23, 3) := by decide +kernel
theorem dX2_add_12 : decode cX2_add 12 = .ok (.aload_n 0, 1) := by decide +kernel
theorem dX2_add_13 : decode cX2_add 13 = .ok (.getfield 15, 3) := by decide +kernel
theorem dX2_add_16 : decode cX2_add 16 = .ok (.aload_n 0, 1) := by decide +kernel
theorem dX2_add_17 : decode cX2_add 17 = .ok (.getfield 21, 3) := by decide +kernel
theorem dX2_add_20 : decode cX2_add 20 = .ok (.iload_n 1, 1) := by decide +kernel
theorem dX2_add_21 : decode cX2_add 21 = .ok (.iastore, 1) := by decide +kernel
theorem dX2_add_22 : decode cX2_add 22 = .ok (.aload_n 0, 1) := by decide +kernel
theorem dX2_add_23 : decode cX2_add 23 = .ok (.dup, 1) := by decide +kernel
theorem dX2_add_24 : decode cX2_add 24 = .ok (.getfield 21, 3) := by decide +kernel
theorem dX2_add_27 : decode cX2_add 27 = .ok (.iconst 1, 1) := by decide +kernel
theorem dX2_add_28 : decode cX2_add 28 = .ok (.iadd, 1) := by decide +kernel
theorem dX2_add_29 : decode cX2_add 29 = .ok (.putfield 21, 3) := by decide +kernel
theorem dX2_add_32 : decode cX2_add 32 = .ok (.return_, 1) := by decide +kernel
theorem dX2_setTo_0 : decode cX2_setTo 0 = .ok (.aload_n 0, 1) := by decide +kernel
theorem dX2_setTo_1 : decode cX2_setTo 1 = .ok (.aload_n 1, 1) := by decide +kernel
theorem dX2_setTo_2 : decode cX2_setTo 2 = .ok (.getfield 21, 3) := by decide +kernel
theorem dX2_setTo_5 : decode cX2_setTo 5 = .ok (.aload_n 0, 1) := by decide +kernel
theorem dX2_setTo_6 : decode cX2_setTo 6 = .ok (.getfield 15, 3) := by decide +kernel
theorem dX2_setTo_9 : decode cX2_setTo 9 = .ok (.arraylength, 1) := by decide +kernel
theorem dX2_setTo_10 : decode cX2_setTo 10 = .ok (.invokestatic 25, 3) := by decide +kernel
theorem dX2_setTo_13 : decode cX2_setTo 13 = .ok (.putfield 21, 3) := by decide +kernel
theorem dX2_setTo_16 : decode cX2_setTo 16 = .ok (.iconst 0, 1) := by decide +kernel
theorem dX2_setTo_17 : decode cX2_setTo 17 = .ok (.istore_n 2, 1) := by decide +kernel
theorem dX2_setTo_18 : decode cX2_setTo 18 = .ok (.iload_n 2, 1) := by decide +kernel
theorem dX2_setTo_19 : decode cX2_setTo 19 = .ok (.aload_n 0, 1) := by decide +kernel
theorem dX2_setTo_20 : decode cX2_setTo 20 = .ok (.getfield 21, 3) := by decide +kernel
theorem dX2_setTo_23 : decode cX2_setTo 23 = .ok (.if_icmp .ge 21, 3) := by decide +kernel
theorem dX2_setTo_26 : decode cX2_setTo 26 = .ok (.aload_n 0, 1) := by decide +kernel
theorem dX2_setTo_27 : decode cX2_setTo 27 = .ok (.getfield 15, 3) := by decide +kernel
theorem dX2_setTo_30 : decode cX2_setTo 30 = .ok (.iload_n 2, 1) := by decide +kernel
theorem dX2_setTo_31 : decode cX2_setTo 31 = .ok (.aload_n 1, 1) := by decide +kernel
theorem dX2_setTo_32 : decode cX2_setTo 32 = .ok (.getfield 15, 3) := by decide +kernel
theorem dX2_setTo_35 : decode cX2_setTo 35 = .ok (.iload_n 2, 1) := by decide +kernel
theorem dX2_setTo_36 : decode cX2_setTo 36 = .ok (.iaload, 1) := by decide +kernel
theorem dX2_setTo_37 : decode cX2_setTo 37 = .ok (.iastore, 1) := by decide +kernel
theorem dX2_setTo_38 : decode cX2_setTo 38 = .ok (.iinc 2 1, 3) := by decide +kernel
theorem dX2_setTo_41 : decode cX2_setTo 41 = .ok (.goto (-23), 3) := by decide +kernel
theorem dX2_setTo_44 : decode cX2_setTo 44 = .ok (.return_, 1) := by decide +kernel
theorem dX2_setFigures_0 : decode cX2_setFigures 0 = .ok (.aload_n 0, 1) := by decide +kernel
theorem dX2_setFigures_1 : decode cX2_setFigures 1 = .ok (.iload_n 1, 1) := by decide +kernel
theorem dX2_setFigures_2 : decode cX2_setFigures 2 = .ok (.aload_n 0, 1) := by decide +kernel
theorem dX2_setFigures_3 : decode cX2_setFigures 3 = .ok (.getfield 15, 3) := by decide +kernel
theorem dX2_setFigures_6 : decode cX2_setFigures 6 = .ok (.arraylength, 1) := by decide +kernel
theorem dX2_setFigures_7 : decode cX2_setFigures 7 = .ok (.invokestatic 25, 3) := by decide +kernel
theorem dX2_setFigures_10 : decode cX2_setFigures 10 = .ok (.iconst 0, 1) := by decide +kernel
theorem dX2_setFigures_11 : decode cX2_setFigures 11 = .ok (.invokestatic 9, 3) := by decide +kernel
theorem dX2_setFigures_14 : decode cX2_setFigures 14 = .ok (.putfield 21, 3) := by decide +kernel
theorem dX2_setFigures_17 : decode cX2_setFigures 17 = .ok (.lload_n 2, 1) := by decide +kernel
theorem dX2_setFigures_18 : decode cX2_setFigures 18 = .ok (.lstore 4, 2) := by decide +kernel
theorem dX2_setFigures_20 : decode cX2_setFigures 20 = .ok (.aload_n 0, 1) := by decide +kernel
theorem dX2_setFigures_21 : decode cX2_setFigures 21 = .ok (.getfield 21, 3) := by decide +kernel
theorem dX2_setFigures_24 : decode cX2_setFigures 24 = .ok (.iconst 1, 1) := by decide +kernel
theorem dX2_setFigures_25 : decode cX2_setFigures 25 = .ok (.isub, 1) := by decide +kernel
theorem dX2_setFigures_26 : decode cX2_setFigures 26 = .ok (.istore 6, 2) := by decide +kernel
theorem dX2_setFigures_28 : decode cX2_setFigures 28 = .ok (.iload 6, 2) := by decide +kernel
theorem dX2_setFigures_30 : decode cX2_setFigures 30 = .ok (.ifCond .lt 31, 3) := by decide +kernel
theorem dX2_setFigures_33 : decode cX2_setFigures 33 = .ok (.aload_n 0, 1) := by decide +kernel
theorem dX2_setFigures_34 : decode cX2_setFigures 34 = .ok (.getfield 15, 3) := by decide +kernel
theorem dX2_setFigures_37 : decode cX2_setFigures 37 = .ok (.iload 6, 2) := by decide +kernel
theorem dX2_setFigures_39 : decode cX2_setFigures 39 = .ok (.lload 4, 2) := by decide +kernel
theorem dX2_setFigures_41 : decode cX2_setFigures 41 = .ok (.ldc2_w 28, 3) := by decide +kernel
theorem dX2_setFigures_44 : decode cX2_setFigures 44 = .ok (.lrem, 1) := by decide +kernel
theorem dX2_setFigures_45 : decode cX2_setFigures 45 = .ok (.l2i, 1) := by decide +kernel
theorem dX2_setFigures_46 : decode cX2_setFigures 46 = .ok (.iastore, 1) := by decide +kernel
theorem dX2_setFigures_47 : decode cX2_setFigures 47 = .ok (.lload 4, 2) := by decide +kernel
theorem dX2_setFigures_49 : decode cX2_setFigures 49 = .ok (.ldc2_w 28, 3) := by decide +kernel
theorem dX2_setFigures_52 : decode cX2_setFigures 52 = .ok (.ldiv, 1) := by decide +kernel
theorem dX2_setFigures_53 : decode cX2_setFigures 53 = .ok (.lstore 4, 2) := by decide +kernel
theorem dX2_setFigures_55 : decode cX2_setFigures 55 = .ok (.iinc 6 (-1), 3) := by decide +kernel
theorem dX2_setFigures_58 : decode cX2_setFigures 58 = .ok (.goto (-30), 3) := by decide +kernel
theorem dX2_setFigures_61 : decode cX2_setFigures 61 = .ok (.return_, 1) := by decide +kernel
theorem dX2_figures_0 : decode cX2_figures 0 = .ok (.lconst 0, 1) := by decide +kernel
theorem dX2_figures_1 : decode cX2_figures 1 = .ok (.lstore_n 1, 1) := by decide +kernel
theorem dX2_figures_2 : decode cX2_figures 2 = .ok (.iconst 0, 1) := by decide +kernel
theorem dX2_figures_3 : decode cX2_figures 3 = .ok (.istore_n 3, 1) := by decide +kernel
theorem dX2_figures_4 : decode cX2_figures 4 = .ok (.iload_n 3, 1) := by decide +kernel
theorem dX2_figures_5 : decode cX2_figures 5 = .ok (.aload_n 0, 1) := by decide +kernel
theorem dX2_figures_6 : decode cX2_figures 6 = .ok (.getfield 21, 3) := by decide +kernel
theorem dX2_figures_9 : decode cX2_figures 9 = .ok (.if_icmp .ge 23, 3) := by decide +kernel
theorem dX2_figures_12 : decode cX2_figures 12 = .ok (.ldc2_w 28, 3) := by decide +kernel
theorem dX2_figures_15 : decode cX2_figures 15 = .ok (.lload_n 1, 1) := by decide +kernel
theorem dX2_figures_16 : decode cX2_figures 16 = .ok (.lmul, 1) := by decide +kernel
theorem dX2_figures_17 : decode cX2_figures 17 = .ok (.aload_n 0, 1) := by decide +kernel
theorem dX2_figures_18 : decode cX2_figures 18 = .ok (.getfield 15, 3) := by decide +kernel
theorem dX2_figures_21 : decode cX2_figures 21 = .ok (.iload_n 3, 1) := by decide +kernel
theorem dX2_figures_22 : decode cX2_figures 22 = .ok (.iaload, 1) := by decide +kernel
theorem dX2_figures_23 : decode cX2_figures 23 = .ok (.i2l, 1) := by decide +kernel
theorem dX2_figures_24 : decode cX2_figures 24 = .ok (.ladd, 1) := by decide +kernel
theorem dX2_figures_25 : decode cX2_figures 25 = .ok (.lstore_n 1, 1) := by decide +kernel
theorem dX2_figures_26 : decode cX2_figures 26 = .ok (.iinc 3 1, 3) := by decide +kernel
theorem dX2_figures_29 : decode cX2_figures 29 = .ok (.goto (-25), 3) := by decide +kernel
theorem dX2_figures_32 : decode cX2_figures 32 = .ok (.lload_n 1, 1) := by decide +kernel
theorem dX2_figures_33 : decode cX2_figures 33 = .ok (.lreturn, 1) := by decide +kernel
theorem dX2_loseLast_0 : decode cX2_loseLast 0 = .ok (.aload_n 0, 1) := by decide +kernel
theorem dX2_loseLast_1 : decode cX2_loseLast 1 = .ok (.getfield 21, 3) := by decide +kernel
theorem dX2_loseLast_4 : decode cX2_loseLast 4 = .ok (.ifCond .le 13, 3) := by decide +kernel
theorem dX2_loseLast_7 : decode cX2_loseLast 7 = .ok (.aload_n 0, 1) := by decide +kernel
theorem dX2_loseLast_8 : decode cX2_loseLast 8 = .ok (.dup, 1) := by decide +kernel
theorem dX2_loseLast_9 : decode cX2_loseLast 9 = .ok (.getfield 21, 3) := by decide +kernel
theorem dX2_loseLast_12 : decode cX2_loseLast 12 = .ok (.iconst 1, 1) := by decide +kernel
theorem dX2_loseLast_13 : decode cX2_loseLast 13 = .ok (.isub, 1) := by decide +kernel
theorem dX2_loseLast_14 : decode cX2_loseLast 14 = .ok (.putfield 21, 3) := by decide +kernel
theorem dX2_loseLast_17 : decode cX2_loseLast 17 = .ok (.return_, 1) := by decide +kernel
theorem dX2_loseFirst_0 : decode cX2_loseFirst 0 = .ok (.aload_n 0, 1) := by decide +kernel
theorem dX2_loseFirst_1 : decode cX2_loseFirst 1 = .ok (.getfield 21, 3) := by decide +kernel
theorem dX2_loseFirst_4 : decode cX2_loseFirst 4 = .ok (.ifCond .le 43, 3) := by decide +kernel
theorem dX2_loseFirst_7 : decode cX2_loseFirst 7 = .ok (.iconst 1, 1) := by decide +kernel
theorem dX2_loseFirst_8 : decode cX2_loseFirst 8 = .ok (.istore_n 1, 1) := by decide +kernel
theorem dX2_loseFirst_9 : decode cX2_loseFirst 9 = .ok (.iload_n 1, 1) := by decide +kernel
theorem dX2_loseFirst_10 : decode cX2_loseFirst 10 = .ok (.aload_n 0, 1) := by decide +kernel
theorem dX2_loseFirst_11 : decode cX2_loseFirst 11 = .ok (.getfield 21, 3) := by decide +kernel
theorem dX2_loseFirst_14 : decode cX2_loseFirst 14 = .ok (.if_icmp .ge 23, 3) := by decide +kernel
theorem dX2_loseFirst_17 : decode cX2_loseFirst 17 = .ok (.aload_n 0, 1) := by decide +kernel
theorem dX2_loseFirst_18 : decode cX2_loseFirst 18 = .ok (.getfield 15, 3) := by decide +kernel
theorem dX2_loseFirst_21 : decode cX2_loseFirst 21 = .ok (.iload_n 1, 1) := by decide +kernel
theorem dX2_loseFirst_22 : decode cX2_loseFirst 22 = .ok (.iconst 1, 1) := by decide +kernel
theorem dX2_loseFirst_23 : decode cX2_loseFirst 23 = .ok (.isub, 1) := by decide +kernel
theorem dX2_loseFirst_24 : decode cX2_loseFirst 24 = .ok (.aload_n 0, 1) := by decide +kernel
theorem dX2_loseFirst_25 : decode cX2_loseFirst 25 = .ok (.getfield 15, 3) := by decide +kernel
theorem dX2_loseFirst_28 : decode cX2_loseFirst 28 = .ok (.iload_n 1, 1) := by decide +kernel
theorem dX2_loseFirst_29 : decode cX2_loseFirst 29 = .ok (.iaload, 1) := by decide +kernel
theorem dX2_loseFirst_30 : decode cX2_loseFirst 30 = .ok (.iastore, 1) := by decide +kernel
theorem dX2_loseFirst_31 : decode cX2_loseFirst 31 = .ok (.iinc 1 1, 3) := by decide +kernel
theorem dX2_loseFirst_34 : decode cX2_loseFirst 34 = .ok (.goto (-25), 3) := by decide +kernel
theorem dX2_loseFirst_37 : decode cX2_loseFirst 37 = .ok (.aload_n 0, 1) := by decide +kernel
theorem dX2_loseFirst_38 : decode cX2_loseFirst 38 = .ok (.dup, 1) := by decide +kernel
theorem dX2_loseFirst_39 : decode cX2_loseFirst 39 = .ok (.getfield 21, 3) := by decide +kernel
theorem dX2_loseFirst_42 : decode cX2_loseFirst 42 = .ok (.iconst 1, 1) := by decide +kernel
theorem dX2_loseFirst_43 : decode cX2_loseFirst 43 = .ok (.isub, 1) := by decide +kernel
theorem dX2_loseFirst_44 : decode cX2_loseFirst 44 = .ok (.putfield 21, 3) := by decide +kernel
theorem dX2_loseFirst_47 : decode cX2_loseFirst 47 = .ok (.return_, 1) := by decide +kernel
theorem dX2_reverse_0 : decode cX2_reverse 0 = .ok (.iconst 0, 1) := by decide +kernel
theorem dX2_reverse_1 : decode cX2_reverse 1 = .ok (.istore_n 1, 1) := by decide +kernel
theorem dX2_reverse_2 : decode cX2_reverse 2 = .ok (.iload_n 1, 1) := by decide +kernel
theorem dX2_reverse_3 : decode cX2_reverse 3 = .ok (.aload_n 0, 1) := by decide +kernel
theorem dX2_reverse_4 : decode cX2_reverse 4 = .ok (.getfield 21, 3) := by decide +kernel
theorem dX2_reverse_7 : decode cX2_reverse 7 = .ok (.iconst 2, 1) := by decide +kernel
theorem dX2_reverse_8 : decode cX2_reverse 8 = .ok (.idiv, 1) := by decide +kernel
theorem dX2_reverse_9 : decode cX2_reverse 9 = .ok (.if_icmp .ge 49, 3) := by decide +kernel
theorem dX2_reverse_12 : decode cX2_reverse 12 = .ok (.aload_n 0, 1) := by decide +kernel
theorem dX2_reverse_13 : decode cX2_reverse 13 = .ok (.getfield 15, 3) := by decide +kernel
theorem dX2_reverse_16 : decode cX2_reverse 16 = .ok (.iload_n 1, 1) := by decide +kernel
theorem dX2_reverse_17 : decode cX2_reverse 17 = .ok (.iaload, 1) := by decide +kernel
theorem dX2_reverse_18 : decode cX2_reverse 18 = .ok (.istore_n 2, 1) := by decide +kernel
theorem dX2_reverse_19 : decode cX2_reverse 19 = .ok (.aload_n 0, 1) := by decide +kernel
theorem dX2_reverse_20 : decode cX2_reverse 20 = .ok (.getfield 15, 3) := by decide +kernel
theorem dX2_reverse_23 : decode cX2_reverse 23 = .ok (.iload_n 1, 1) := by decide +kernel
theorem dX2_reverse_24 : decode cX2_reverse 24 = .ok (.aload_n 0, 1) := by decide +kernel
theorem dX2_reverse_25 : decode cX2_reverse 25 = .ok (.getfield 15, 3) := by decide +kernel
theorem dX2_reverse_28 : decode cX2_reverse 28 = .ok (.aload_n 0, 1) := by decide +kernel
theorem dX2_reverse_29 : decode cX2_reverse 29 = .ok (.getfield 21, 3) := by decide +kernel
theorem dX2_reverse_32 : decode cX2_reverse 32 = .ok (.iconst 1, 1) := by decide +kernel
theorem dX2_reverse_33 : decode cX2_reverse 33 = .ok (.isub, 1) := by decide +kernel
theorem dX2_reverse_34 : decode cX2_reverse 34 = .ok (.iload_n 1, 1) := by decide +kernel
theorem dX2_reverse_35 : decode cX2_reverse 35 = .ok (.isub, 1) := by decide +kernel
theorem dX2_reverse_36 : decode cX2_reverse 36 = .ok (.iaload, 1) := by decide +kernel
theorem dX2_reverse_37 : decode cX2_reverse 37 = .ok (.iastore, 1) := by decide +kernel
theorem dX2_reverse_38 : decode cX2_reverse 38 = .ok (.aload_n 0, 1) := by decide +kernel
theorem dX2_reverse_39 : decode cX2_reverse 39 = .ok (.getfield 15, 3) := by decide +kernel
theorem dX2_reverse_42 : decode cX2_reverse 42 = .ok (.aload_n 0, 1) := by decide +kernel
theorem dX2_reverse_43 : decode cX2_reverse 43 = .ok (.getfield 21, 3) := by decide +kernel
theorem dX2_reverse_46 : decode cX2_reverse 46 = .ok (.iconst 1, 1) := by decide +kernel
theorem dX2_reverse_47 : decode cX2_reverse 47 = .ok (.isub, 1) := by decide +kernel
theorem dX2_reverse_48 : decode cX2_reverse 48 = .ok (.iload_n 1, 1) := by decide +kernel
theorem dX2_reverse_49 : decode cX2_reverse 49 = .ok (.isub, 1) := by decide +kernel
theorem dX2_reverse_50 : decode cX2_reverse 50 = .ok (.iload_n 2, 1) := by decide +kernel
theorem dX2_reverse_51 : decode cX2_reverse 51 = .ok (.iastore, 1) := by decide +kernel
theorem dX2_reverse_52 : decode cX2_reverse 52 = .ok (.iinc 1 1, 3) := by decide +kernel
theorem dX2_reverse_55 : decode cX2_reverse 55 = .ok (.goto (-53), 3) := by decide +kernel
theorem dX2_reverse_58 : decode cX2_reverse 58 = .ok (.return_, 1) := by decide +kernel
theorem dX2_overlapWith_0 : decode cX2_overlapWith 0 = .ok (.aload_n 0, 1) := by decide +kernel
theorem dX2_overlapWith_1 : decode cX2_overlapWith 1 = .ok (.getfield 21, 3) := by decide +kernel
theorem dX2_overlapWith_4 : decode cX2_overlapWith 4 = .ok (.aload_n 1, 1) := by decide +kernel
theorem dX2_overlapWith_5 : decode cX2_overlapWith 5 = .ok (.getfield 21, 3) := by decide +kernel
theorem dX2_overlapWith_8 : decode cX2_overlapWith 8 = .ok (.invokestatic 25, 3) := by decide +kernel
theorem dX2_overlapWith_11 : decode cX2_overlapWith 11 = .ok (.istore_n 2, 1) := by decide +kernel
theorem dX2_overlapWith_12 : decode cX2_overlapWith 12 = .ok (.iload_n 2, 1) := by decide +kernel
theorem dX2_overlapWith_13 : decode cX2_overlapWith 13 = .ok (.ifCond .le 20, 3) := by decide +kernel
theorem dX2_overlapWith_16 : decode cX2_overlapWith 16 = .ok (.aload_n 0, 1) := by decide +kernel
theorem dX2_overlapWith_17 : decode cX2_overlapWith 17 = .ok (.aload_n 1, 1) := by decide +kernel
theorem dX2_overlapWith_18 : decode cX2_overlapWith 18 = .ok (.iload_n 2, 1) := by decide +kernel
theorem dX2_overlapWith_19 : decode cX2_overlapWith 19 = .ok (.invokevirtual 30, 3) := by decide +kernel
theorem dX2_overlapWith_22 : decode cX2_overlapWith 22 = .ok (.ifCond .eq 5, 3) := by decide +kernel
theorem dX2_overlapWith_25 : decode cX2_overlapWith 25 = .ok (.iload_n 2, 1) := by decide +kernel
theorem dX2_overlapWith_26 : decode cX2_overlapWith 26 = .ok (.ireturn, 1) := by decide +kernel
theorem dX2_overlapWith_27 : decode cX2_overlapWith 27 = .ok (.iinc 2 (-1), 3) := by decide +kernel
theorem dX2_overlapWith_30 : decode cX2_overlapWith 30 = .ok (.goto (-18), 3) := by decide +kernel
theorem dX2_overlapWith_33 : decode cX2_overlapWith 33 = .ok (.iconst 0, 1) := by decide +kernel
theorem dX2_overlapWith_34 : decode cX2_overlapWith 34 = .ok (.ireturn, 1) := by decide +kernel
theorem dX2_endsAs_0 : decode cX2_endsAs 0 = .ok (.iconst 0, 1) := by decide +kernel
theorem dX2_endsAs_1 : decode cX2_endsAs 1 = .ok (.istore_n 3, 1) := by decide +kernel
theorem dX2_endsAs_2 : decode cX2_endsAs 2 = .ok (.iload_n 3, 1) := by decide +kernel
theorem dX2_endsAs_3 : decode cX2_endsAs 3 = .ok (.iload_n 2, 1) := by decide +kernel
theorem dX2_endsAs_4 : decode cX2_endsAs 4 = .ok (.if_icmp .ge 33, 3) := by decide +kernel
theorem dX2_endsAs_7 : decode cX2_endsAs 7 = .ok (.aload_n 0, 1) := by decide +kernel
theorem dX2_endsAs_8 : decode cX2_endsAs 8 = .ok (.getfield 15, 3) := by decide +kernel
theorem dX2_endsAs_11 : decode cX2_endsAs 11 = .ok (.aload_n 0, 1) := by decide +kernel
theorem dX2_endsAs_12 : decode cX2_endsAs 12 = .ok (.getfield 21, 3) := by decide +kernel
theorem dX2_endsAs_15 : decode cX2_endsAs 15 = .ok (.iload_n 2, 1) := by decide +kernel
theorem dX2_endsAs_16 : decode cX2_endsAs 16 = .ok (.isub, 1) := by decide +kernel
theorem dX2_endsAs_17 : decode cX2_endsAs 17 = .ok (.iload_n 3, 1) := by decide +kernel
theorem dX2_endsAs_18 : decode cX2_endsAs 18 = .ok (.iadd, 1) := by decide +kernel
theorem dX2_endsAs_19 : decode cX2_endsAs 19 = .ok (.iaload, 1) := by decide +kernel
theorem dX2_endsAs_20 : decode cX2_endsAs 20 = .ok (.aload_n 1, 1) := by decide +kernel
theorem dX2_endsAs_21 : decode cX2_endsAs 21 = .ok (.getfield 15, 3) := by decide +kernel
theorem dX2_endsAs_24 : decode cX2_endsAs 24 = .ok (.iload_n 3, 1) := by decide +kernel
theorem dX2_endsAs_25 : decode cX2_endsAs 25 = .ok (.iaload, 1) := by decide +kernel
theorem dX2_endsAs_26 : decode cX2_endsAs 26 = .ok (.if_icmp .eq 5, 3) := by decide +kernel
theorem dX2_endsAs_29 : decode cX2_endsAs 29 = .ok (.iconst 0, 1) := by decide +kernel
theorem dX2_endsAs_30 : decode cX2_endsAs 30 = .ok (.ireturn, 1) := by decide +kernel
theorem dX2_endsAs_31 : decode cX2_endsAs 31 = .ok (.iinc 3 1, 3) := by decide +kernel
theorem dX2_endsAs_34 : decode cX2_endsAs 34 = .ok (.goto (-32), 3) := by decide +kernel
theorem dX2_endsAs_37 : decode cX2_endsAs 37 = .ok (.iconst 1, 1) := by decide +kernel
theorem dX2_endsAs_38 : decode cX2_endsAs 38 = .ok (.ireturn, 1) := by decide +kernel
theorem dX2_addBehind_0 : decode cX2_addBehind 0 = .ok (.aload_n 0, 1) := by decide +kernel
theorem dX2_addBehind_1 : decode cX2_addBehind 1 = .ok (.aload_n 1, 1) := by decide +kernel
theorem dX2_addBehind_2 : decode cX2_addBehind 2 = .ok (.invokevirtual 34, 3) := by decide +kernel
theorem dX2_addBehind_5 : decode cX2_addBehind 5 = .ok (.istore_n 2, 1) := by decide +kernel
theorem dX2_addBehind_6 : decode cX2_addBehind 6 = .ok (.iload_n 2, 1) := by decide +kernel
theorem dX2_addBehind_7 : decode cX2_addBehind 7 = .ok (.aload_n 1, 1) := by decide +kernel
theorem dX2_addBehind_8 : decode cX2_addBehind 8 = .ok (.getfield 21, 3) := by decide +kernel
theorem dX2_addBehind_11 : decode cX2_addBehind 11 = .ok (.if_icmp .ge 19, 3) := by decide +kernel
theorem dX2_addBehind_14 : decode cX2_addBehind 14 = .ok (.aload_n 0, 1) := by decide +kernel
theorem dX2_addBehind_15 : decode cX2_addBehind 15 = .ok (.aload_n 1, 1) := by decide +kernel
theorem dX2_addBehind_16 : decode cX2_addBehind 16 = .ok (.getfield 15, 3) := by decide +kernel
theorem dX2_addBehind_19 : decode cX2_addBehind 19 = .ok (.iload_n 2, 1) := by decide +kernel
theorem dX2_addBehind_20 : decode cX2_addBehind 20 = .ok (.iaload, 1) := by decide +kernel
theorem dX2_addBehind_21 : decode cX2_addBehind 21 = .ok (.invokevirtual 38, 3) := by decide +kernel
theorem dX2_addBehind_24 : decode cX2_addBehind 24 = .ok (.iinc 2 1, 3) := by decide +kernel
theorem dX2_addBehind_27 : decode cX2_addBehind 27 = .ok (.goto (-21), 3) := by decide +kernel
theorem dX2_addBehind_30 : decode cX2_addBehind 30 = .ok (.return_, 1) := by decide +kernel
theorem dX2_bearsAt_0 : decode cX2_bearsAt 0 = .ok (.iload_n 1, 1) := by decide +kernel
theorem dX2_bearsAt_1 : decode cX2_bearsAt 1 = .ok (.ifCond .lt 16, 3) := by decide +kernel
theorem dX2_bearsAt_4 : decode cX2_bearsAt 4 = .ok (.iload_n 1, 1) := by decide +kernel
theorem dX2_bearsAt_5 : decode cX2_bearsAt 5 = .ok (.aload_n 0, 1) := by decide +kernel
theorem dX2_bearsAt_6 : decode cX2_bearsAt 6 = .ok (.getfield 21, 3) := by decide +kernel
theorem dX2_bearsAt_9 : decode cX2_bearsAt 9 = .ok (.aload_n 2, 1) := by decide +kernel
theorem dX2_bearsAt_10 : decode cX2_bearsAt 10 = .ok (.getfield 21, 3) := by decide +kernel
theorem dX2_bearsAt_13 : decode cX2_bearsAt 13 = .ok (.isub, 1) := by decide +kernel
theorem dX2_bearsAt_14 : decode cX2_bearsAt 14 = .ok (.if_icmp .le 5, 3) := by decide +kernel
theorem dX2_bearsAt_17 : decode cX2_bearsAt 17 = .ok (.iconst 0, 1) := by decide +kernel
theorem dX2_bearsAt_18 : decode cX2_bearsAt 18 = .ok (.ireturn, 1) := by decide +kernel
theorem dX2_bearsAt_19 : decode cX2_bearsAt 19 = .ok (.iconst 0, 1) := by decide +kernel
theorem dX2_bearsAt_20 : decode cX2_bearsAt 20 = .ok (.istore_n 3, 1) := by decide +kernel
theorem dX2_bearsAt_21 : decode cX2_bearsAt 21 = .ok (.iload_n 3, 1) := by decide +kernel
theorem dX2_bearsAt_22 : decode cX2_bearsAt 22 = .ok (.aload_n 2, 1) := by decide +kernel
theorem dX2_bearsAt_23 : decode cX2_bearsAt 23 = .ok (.getfield 21, 3) := by decide +kernel
theorem dX2_bearsAt_26 : decode cX2_bearsAt 26 = .ok (.if_icmp .ge 28, 3) := by decide +kernel
theorem dX2_bearsAt_29 : decode cX2_bearsAt 29 = .ok (.aload_n 0, 1) := by decide +kernel
theorem dX2_bearsAt_30 : decode cX2_bearsAt 30 = .ok (.getfield 15, 3) := by decide +kernel
theorem dX2_bearsAt_33 : decode cX2_bearsAt 33 = .ok (.iload_n 1, 1) := by decide +kernel
theorem dX2_bearsAt_34 : decode cX2_bearsAt 34 = .ok (.iload_n 3, 1) := by decide +kernel
theorem dX2_bearsAt_35 : decode cX2_bearsAt 35 = .ok (.iadd, 1) := by decide +kernel
theorem dX2_bearsAt_36 : decode cX2_bearsAt 36 = .ok (.iaload, 1) := by decide +kernel
theorem dX2_bearsAt_37 : decode cX2_bearsAt 37 = .ok (.aload_n 2, 1) := by decide +kernel
theorem dX2_bearsAt_38 : decode cX2_bearsAt 38 = .ok (.getfield 15, 3) := by decide +kernel
theorem dX2_bearsAt_41 : decode cX2_bearsAt 41 = .ok (.iload_n 3, 1) := by decide +kernel
theorem dX2_bearsAt_42 : decode cX2_bearsAt 42 = .ok (.iaload, 1) := by decide +kernel
theorem dX2_bearsAt_43 : decode cX2_bearsAt 43 = .ok (.if_icmp .eq 5, 3) := by decide +kernel
theorem dX2_bearsAt_46 : decode cX2_bearsAt 46 = .ok (.iconst 0, 1) := by decide +kernel
theorem dX2_bearsAt_47 : decode cX2_bearsAt 47 = .ok (.ireturn, 1) := by decide +kernel
theorem dX2_bearsAt_48 : decode cX2_bearsAt 48 = .ok (.iinc 3 1, 3) := by decide +kernel
theorem dX2_bearsAt_51 : decode cX2_bearsAt 51 = .ok (.goto (-30), 3) := by decide +kernel
theorem dX2_bearsAt_54 : decode cX2_bearsAt 54 = .ok (.iconst 1, 1) := by decide +kernel
theorem dX2_bearsAt_55 : decode cX2_bearsAt 55 = .ok (.ireturn, 1) := by decide +kernel
theorem dX2_firstPlaceOf_0 : decode cX2_firstPlaceOf 0 = .ok (.iconst 0, 1) := by decide +kernel
theorem dX2_firstPlaceOf_1 : decode cX2_firstPlaceOf 1 = .ok (.istore_n 2, 1) := by decide +kernel
theorem dX2_firstPlaceOf_2 : decode cX2_firstPlaceOf 2 = .ok (.iload_n 2, 1) := by decide +kernel
theorem dX2_firstPlaceOf_3 : decode cX2_firstPlaceOf 3 = .ok (.aload_n 0, 1) := by decide +kernel
theorem dX2_firstPlaceOf_4 : decode cX2_firstPlaceOf 4 = .ok (.getfield 21, 3) := by decide +kernel
theorem dX2_firstPlaceOf_7 : decode cX2_firstPlaceOf 7 = .ok (.if_icmp .ge 20, 3) := by decide +kernel
theorem dX2_firstPlaceOf_10 : decode cX2_firstPlaceOf 10 = .ok (.aload_n 0, 1) := by decide +kernel
theorem dX2_firstPlaceOf_11 : decode cX2_firstPlaceOf 11 = .ok (.iload_n 2, 1) := by decide +kernel
theorem dX2_firstPlaceOf_12 : decode cX2_firstPlaceOf 12 = .ok (.aload_n 1, 1) := by decide +kernel
theorem dX2_firstPlaceOf_13 : decode cX2_firstPlaceOf 13 = .ok (.invokevirtual 42, 3) := by decide +kernel
theorem dX2_firstPlaceOf_16 : decode cX2_firstPlaceOf 16 = .ok (.ifCond .eq 5, 3) := by decide +kernel
theorem dX2_firstPlaceOf_19 : decode cX2_firstPlaceOf 19 = .ok (.iload_n 2, 1) := by decide +kernel
theorem dX2_firstPlaceOf_20 : decode cX2_firstPlaceOf 20 = .ok (.ireturn, 1) := by decide +kernel
theorem dX2_firstPlaceOf_21 : decode cX2_firstPlaceOf 21 = .ok (.iinc 2 1, 3) := by decide +kernel
theorem dX2_firstPlaceOf_24 : decode cX2_firstPlaceOf 24 = .ok (.goto (-22), 3) := by decide +kernel
theorem dX2_firstPlaceOf_27 : decode cX2_firstPlaceOf 27 = .ok (.bipush (-9), 2) := by decide +kernel
theorem dX2_firstPlaceOf_29 : decode cX2_firstPlaceOf 29 = .ok (.ireturn, 1) := by decide +kernel
theorem dX2_bitsAt_0 : decode cX2_bitsAt 0 = .ok (.iconst 1, 1) := by decide +kernel
theorem dX2_bitsAt_1 : decode cX2_bitsAt 1 = .ok (.aload_n 0, 1) := by decide +kernel
theorem dX2_bitsAt_2 : decode cX2_bitsAt 2 = .ok (.getfield 21, 3) := by decide +kernel
theorem dX2_bitsAt_5 : decode cX2_bitsAt 5 = .ok (.ishl, 1) := by decide +kernel
theorem dX2_bitsAt_6 : decode cX2_bitsAt 6 = .ok (.iconst 1, 1) := by decide +kernel
theorem dX2_bitsAt_7 : decode cX2_bitsAt 7 = .ok (.isub, 1) := by decide +kernel
theorem dX2_bitsAt_8 : decode cX2_bitsAt 8 = .ok (.iload_n 1, 1) := by decide +kernel
theorem dX2_bitsAt_9 : decode cX2_bitsAt 9 = .ok (.ishl, 1) := by decide +kernel
theorem dX2_bitsAt_10 : decode cX2_bitsAt 10 = .ok (.ireturn, 1) := by decide +kernel
theorem dX2_placesUnder_0 : decode cX2_placesUnder 0 = .ok (.iconst 0, 1) := by decide +kernel
theorem dX2_placesUnder_1 : decode cX2_placesUnder 1 = .ok (.istore_n 2, 1) := by decide +kernel
theorem dX2_placesUnder_2 : decode cX2_placesUnder 2 = .ok (.iconst 0, 1) := by decide +kernel
theorem dX2_placesUnder_3 : decode cX2_placesUnder 3 = .ok (.istore_n 3, 1) := by decide +kernel
theorem dX2_placesUnder_4 : decode cX2_placesUnder 4 = .ok (.iload_n 3, 1) := by decide +kernel
theorem dX2_placesUnder_5 : decode cX2_placesUnder 5 = .ok (.aload_n 0, 1) := by decide +kernel
theorem dX2_placesUnder_6 : decode cX2_placesUnder 6 = .ok (.getfield 21, 3) := by decide +kernel
theorem dX2_placesUnder_9 : decode cX2_placesUnder 9 = .ok (.if_icmp .ge 26, 3) := by decide +kernel
theorem dX2_placesUnder_12 : decode cX2_placesUnder 12 = .ok (.aload_n 0, 1) := by decide +kernel
theorem dX2_placesUnder_13 : decode cX2_placesUnder 13 = .ok (.iload_n 3, 1) := by decide +kernel
theorem dX2_placesUnder_14 : decode cX2_placesUnder 14 = .ok (.aload_n 1, 1) := by decide +kernel
theorem dX2_placesUnder_15 : decode cX2_placesUnder 15 = .ok (.invokevirtual 42, 3) := by decide +kernel
theorem dX2_placesUnder_18 : decode cX2_placesUnder 18 = .ok (.ifCond .eq 11, 3) := by decide +kernel
theorem dX2_placesUnder_21 : decode cX2_placesUnder 21 = .ok (.iload_n 2, 1) := by decide +kernel
theorem dX2_placesUnder_22 : decode cX2_placesUnder 22 = .ok (.aload_n 1, 1) := by decide +kernel
theorem dX2_placesUnder_23 : decode cX2_placesUnder 23 = .ok (.iload_n 3, 1) := by decide +kernel
theorem dX2_placesUnder_24 : decode cX2_placesUnder 24 = .ok (.invokevirtual 46, 3) := by decide +kernel
theorem dX2_placesUnder_27 : decode cX2_placesUnder 27 = .ok (.ior, 1) := by decide +kernel
theorem dX2_placesUnder_28 : decode cX2_placesUnder 28 = .ok (.istore_n 2, 1) := by decide +kernel
theorem dX2_placesUnder_29 : decode cX2_placesUnder 29 = .ok (.iinc 3 1, 3) := by decide +kernel
theorem dX2_placesUnder_32 : decode cX2_placesUnder 32 = .ok (.goto (-28), 3) := by decide +kernel
theorem dX2_placesUnder_35 : decode cX2_placesUnder 35 = .ok (.iload_n 2, 1) := by decide +kernel
theorem dX2_placesUnder_36 : decode cX2_placesUnder 36 = .ok (.ireturn, 1) := by decide +kernel
theorem dX3_init_0 : decode cX3_init 0 = .ok (.aload_n 0, 1) := by decide +kernel
theorem dX3_init_1 : decode cX3_init 1 = .ok (.invokespecial 3, 3) := by decide +kernel
theorem dX3_init_4 : decode cX3_init 4 = .ok (.aload_n 0, 1) := by decide +kernel
theorem dX3_init_5 : decode cX3_init 5 = .ok (.iconst 2, 1) := by decide +kernel
theorem dX3_init_6 : decode cX3_init 6 = .ok (.anewarray 9, 3) := by decide +kernel
theorem dX3_init_9 : decode cX3_init 9 = .ok (.putfield 11, 3) := by decide +kernel
theorem dX3_init_12 : decode cX3_init 12 = .ok (.iconst 0, 1) := by decide +kernel
theorem dX3_init_13 : decode cX3_init 13 = .ok (.istore_n 1, 1) := by decide +kernel
theorem dX3_init_14 : decode cX3_init 14 = .ok (.iload_n 1, 1) := by decide +kernel
theorem dX3_init_15 : decode cX3_init 15 = .ok (.iconst 2, 1) := by decide +kernel
theorem dX3_init_16 : decode cX3_init 16 = .ok (.if_icmp .ge 22, 3) := by decide +kernel
theorem dX3_init_19 : decode cX3_init 19 = .ok (.aload_n 0, 1) := by decide +kernel
theorem dX3_init_20 : decode cX3_init 20 = .ok (.getfield 11, 3) := by decide +kernel
theorem dX3_init_23 : decode cX3_init 23 = .ok (.iload_n 1, 1) := by decide +kernel
theorem dX3_init_24 : decode cX3_init 24 = .ok (.new 9, 3) := by decide +kernel
theorem dX3_init_27 : decode cX3_init 27 = .ok (.dup, 1) := by decide +kernel
theorem dX3_init_28 : decode cX3_init 28 = .ok (.invokespecial 17, 3) := by decide +kernel
theorem dX3_init_31 : decode cX3_init 31 = .ok (.aastore, 1) := by decide +kernel
theorem dX3_init_32 : decode cX3_init 32 = .ok (.iinc 1 1, 3) := by decide +kernel
theorem dX3_init_35 : decode cX3_init 35 = .ok (.goto (-21), 3) := by decide +kernel
theorem dX3_init_38 : decode cX3_init 38 = .ok (.return_, 1) := by decide +kernel
theorem dX3_clear_0 : decode cX3_clear 0 = .ok (.aload_n 0, 1) := by decide +kernel
theorem dX3_clear_1 : decode cX3_clear 1 = .ok (.iconst 0, 1) := by decide +kernel
theorem dX3_clear_2 : decode cX3_clear 2 = .ok (.putfield 18, 3) := by decide +kernel
theorem dX3_clear_5 : decode cX3_clear 5 = .ok (.return_, 1) := by decide +kernel
theorem dX3_put_0 : decode cX3_put 0 = .ok (.iload_n 1, 1) := by decide +kernel
theorem dX3_put_1 : decode cX3_put 1 = .ok (.ifCond .lt 8, 3) := by decide +kernel
theorem dX3_put_4 : decode cX3_put 4 = .ok (.iload_n 1, 1) := by decide +kernel
theorem dX3_put_5 : decode cX3_put 5 = .ok (.iconst 2, 1) := by decide +kernel
theorem dX3_put_6 : decode cX3_put 6 = .ok (.if_icmp .lt 5, 3) := by decide +kernel
theorem dX3_put_9 : decode cX3_put 9 = .ok (.iconst (-1), 1) := by decide +kernel
theorem dX3_put_10 : decode cX3_put 10 = .ok (.ireturn, 1) := by decide +kernel
theorem dX3_put_11 : decode cX3_put 11 = .ok (.aload_n 0, 1) := by decide +kernel
theorem dX3_put_12 : decode cX3_put 12 = .ok (.getfield 11, 3) := by decide +kernel
theorem dX3_put_15 : decode cX3_put 15 = .ok (.iload_n 1, 1) := by decide +kernel
theorem dX3_put_16 : decode cX3_put 16 = .ok (.aaload, 1) := by decide +kernel
theorem dX3_put_17 : decode cX3_put 17 = .ok (.aload_n 2, 1) := by decide +kernel
theorem dX3_put_18 : decode cX3_put 18 = .ok (.invokevirtual 22, 3) := by decide +kernel
theorem dX3_put_21 : decode cX3_put 21 = .ok (.aload_n 0, 1) := by decide +kernel
theorem dX3_put_22 : decode cX3_put 22 = .ok (.dup, 1) := by decide +kernel
theorem dX3_put_23 : decode cX3_put 23 = .ok (.getfield 18, 3) := by decide +kernel
theorem dX3_put_26 : decode cX3_put 26 = .ok (.iconst 1, 1) := by decide +kernel
theorem dX3_put_27 : decode cX3_put 27 = .ok (.iload_n 1, 1) := by decide +kernel
theorem dX3_put_28 : decode cX3_put 28 = .ok (.ishl, 1) := by decide +kernel
theorem dX3_put_29 : decode cX3_put 29 = .ok (.ior, 1) := by decide +kernel
theorem dX3_put_30 : decode cX3_put 30 = .ok (.putfield 18, 3) := by decide +kernel
theorem dX3_put_33 : decode cX3_put 33 = .ok (.aload_n 2, 1) := by decide +kernel
theorem dX3_put_34 : decode cX3_put 34 = .ok (.getfield 26, 3) := by decide +kernel
theorem dX3_put_37 : decode cX3_put 37 = .ok (.ireturn, 1) := by decide +kernel
theorem dX3_bringBack_0 : decode cX3_bringBack 0 = .ok (.iload_n 1, 1) := by decide +kernel
theorem dX3_bringBack_1 : decode cX3_bringBack 1 = .ok (.ifCond .lt 8, 3) := by decide +kernel
theorem dX3_bringBack_4 : decode cX3_bringBack 4 = .ok (.iload_n 1, 1) := by decide +kernel
theorem dX3_bringBack_5 : decode cX3_bringBack 5 = .ok (.iconst 2, 1) := by decide +kernel
theorem dX3_bringBack_6 : decode cX3_bringBack 6 = .ok (.if_icmp .lt 5, 3) := by decide +kernel
theorem dX3_bringBack_9 : decode cX3_bringBack 9 = .ok (.iconst (-1), 1) := by decide +kernel
theorem dX3_bringBack_10 : decode cX3_bringBack 10 = .ok (.ireturn, 1) := by decide +kernel
theorem dX3_bringBack_11 : decode cX3_bringBack 11 = .ok (.aload_n 0, 1) := by decide +kernel
theorem dX3_bringBack_12 : decode cX3_bringBack 12 = .ok (.getfield 18, 3) := by decide +kernel
theorem dX3_bringBack_15 : decode cX3_bringBack 15 = .ok (.iload_n 1, 1) := by decide +kernel
theorem dX3_bringBack_16 : decode cX3_bringBack 16 = .ok (.ishr, 1) := by decide +kernel
theorem dX3_bringBack_17 : decode cX3_bringBack 17 = .ok (.iconst 1, 1) := by decide +kernel
theorem dX3_bringBack_18 : decode cX3_bringBack 18 = .ok (.iand, 1) := by decide +kernel
theorem dX3_bringBack_19 : decode cX3_bringBack 19 = .ok (.ifCond .ne 6, 3) := by decide +kernel
theorem dX3_bringBack_22 : decode cX3_bringBack 22 = .ok (.bipush (-3), 2) := by decide +kernel
theorem dX3_bringBack_24 : decode cX3_bringBack 24 = .ok (.ireturn, 1) := by decide +kernel
theorem dX3_bringBack_25 : decode cX3_bringBack 25 = .ok (.aload_n 2, 1) := by decide +kernel
theorem dX3_bringBack_26 : decode cX3_bringBack 26 = .ok (.aload_n 0, 1) := by decide +kernel
theorem dX3_bringBack_27 : decode cX3_bringBack 27 = .ok (.getfield 11, 3) := by decide +kernel
theorem dX3_bringBack_30 : decode cX3_bringBack 30 = .ok (.iload_n 1, 1) := by decide +kernel
theorem dX3_bringBack_31 : decode cX3_bringBack 31 = .ok (.aaload, 1) := by decide +kernel
theorem dX3_bringBack_32 : decode cX3_bringBack 32 = .ok (.invokevirtual 22, 3) := by decide +kernel
theorem dX3_bringBack_35 : decode cX3_bringBack 35 = .ok (.aload_n 2, 1) := by decide +kernel
theorem dX3_bringBack_36 : decode cX3_bringBack 36 = .ok (.getfield 26, 3) := by decide +kernel
theorem dX3_bringBack_39 : decode cX3_bringBack 39 = .ok (.ireturn, 1) := by decide +kernel
theorem dX4_init_0 : decode cX4_init 0 = .ok (.aload_n 0, 1) := by decide +kernel
theorem dX4_init_1 : decode cX4_init 1 = .ok (.invokespecial 3, 3) := by decide +kernel
theorem dX4_init_4 : decode cX4_init 4 = .ok (.aload_n 0, 1) := by decide +kernel
theorem dX4_init_5 : decode cX4_init 5 = .ok (.new 9, 3) := by decide +kernel
theorem dX4_init_8 : decode cX4_init 8 = .ok (.dup, 1) := by decide +kernel
theorem dX4_init_9 : decode cX4_init 9 = .ok (.bipush 12, 2) := by decide +kernel
theorem dX4_init_11 : decode cX4_init 11 = .ok (.invokespecial 11, 3) := by decide +kernel
theorem dX4_init_14 : decode cX4_init 14 = .ok (.putfield 14, 3) := by decide +kernel
theorem dX4_init_17 : decode cX4_init 17 = .ok (.return_, 1) := by decide +kernel
theorem dX4_setTo_0 : decode cX4_setTo 0 = .ok (.aload_n 0, 1) := by decide +kernel
theorem dX4_setTo_1 : decode cX4_setTo 1 = .ok (.getfield 14, 3) := by decide +kernel
theorem dX4_setTo_4 : decode cX4_setTo 4 = .ok (.aload_n 1, 1) := by decide +kernel
theorem dX4_setTo_5 : decode cX4_setTo 5 = .ok (.getfield 14, 3) := by decide +kernel
theorem dX4_setTo_8 : decode cX4_setTo 8 = .ok (.invokevirtual 20, 3) := by decide +kernel
theorem dX4_setTo_11 : decode cX4_setTo 11 = .ok (.aload_n 0, 1) := by decide +kernel
theorem dX4_setTo_12 : decode cX4_setTo 12 = .ok (.aload_n 1, 1) := by decide +kernel
theorem dX4_setTo_13 : decode cX4_setTo 13 = .ok (.getfield 24, 3) := by decide +kernel
theorem dX4_setTo_16 : decode cX4_setTo 16 = .ok (.putfield 24, 3) := by decide +kernel
theorem dX4_setTo_19 : decode cX4_setTo 19 = .ok (.aload_n 0, 1) := by decide +kernel
theorem dX4_setTo_20 : decode cX4_setTo 20 = .ok (.aload_n 1, 1) := by decide +kernel
theorem dX4_setTo_21 : decode cX4_setTo 21 = .ok (.getfield 28, 3) := by decide +kernel
theorem dX4_setTo_24 : decode cX4_setTo 24 = .ok (.putfield 28, 3) := by decide +kernel
theorem dX4_setTo_27 : decode cX4_setTo 27 = .ok (.return_, 1) := by decide +kernel
theorem dX5_init_0 : decode cX5_init 0 = .ok (.aload_n 0, 1) := by decide +kernel
theorem dX5_init_1 : decode cX5_init 1 = .ok (.invokespecial 3, 3) := by decide +kernel
theorem dX5_init_4 : decode cX5_init 4 = .ok (.aload_n 0, 1) := by decide +kernel
theorem dX5_init_5 : decode cX5_init 5 = .ok (.bipush 48, 2) := by decide +kernel
theorem dX5_init_7 : decode cX5_init 7 = .ok (.newarray .int, 2) := by decide +kernel
theorem dX5_init_9 : decode cX5_init 9 = .ok (.putfield 9, 3) := by decide +kernel
theorem dX5_init_12 : decode cX5_init 12 = .ok (.return_, 1) := by decide +kernel
theorem dX5_add_0 : decode cX5_add 0 = .ok (.aload_n 0, 1) := by decide +kernel
theorem dX5_add_1 : decode cX5_add 1 = .ok (.getfield 15, 3) := by decide +kernel
theorem dX5_add_4 : decode cX5_add 4 = .ok (.bipush 48, 2) := by decide +kernel
theorem dX5_add_6 : decode cX5_add 6 = .ok (.if_icmp .lt 6, 3) := by decide +kernel
theorem dX5_add_9 : decode cX5_add 9 = .ok (.bipush (-4), 2) := by decide +kernel
theorem dX5_add_11 : decode cX5_add 11 = .ok (.ireturn, 1) := by decide +kernel
theorem dX5_add_12 : decode cX5_add 12 = .ok (.aload_n 0, 1) := by decide +kernel
theorem dX5_add_13 : decode cX5_add 13 = .ok (.getfield 9, 3) := by decide +kernel
theorem dX5_add_16 : decode cX5_add 16 = .ok (.aload_n 0, 1) := by decide +kernel
theorem dX5_add_17 : decode cX5_add 17 = .ok (.getfield 15, 3) := by decide +kernel
theorem dX5_add_20 : decode cX5_add 20 = .ok (.iload_n 1, 1) := by decide +kernel
theorem dX5_add_21 : decode cX5_add 21 = .ok (.iastore, 1) := by decide +kernel
theorem dX5_add_22 : decode cX5_add 22 = .ok (.aload_n 0, 1) := by decide +kernel
theorem dX5_add_23 : decode cX5_add 23 = .ok (.dup, 1) := by decide +kernel
theorem dX5_add_24 : decode cX5_add 24 = .ok (.getfield 15, 3) := by decide +kernel
theorem dX5_add_27 : decode cX5_add 27 = .ok (.iconst 1, 1) := by decide +kernel
theorem dX5_add_28 : decode cX5_add 28 = .ok (.iadd, 1) := by decide +kernel
theorem dX5_add_29 : decode cX5_add 29 = .ok (.putfield 15, 3) := by decide +kernel
theorem dX5_add_32 : decode cX5_add 32 = .ok (.aload_n 0, 1) := by decide +kernel
theorem dX5_add_33 : decode cX5_add 33 = .ok (.getfield 15, 3) := by decide +kernel
theorem dX5_add_36 : decode cX5_add 36 = .ok (.ireturn, 1) := by decide +kernel
theorem dX5_clear_0 : decode cX5_clear 0 = .ok (.aload_n 0, 1) := by decide +kernel
theorem dX5_clear_1 : decode cX5_clear 1 = .ok (.getfield 15, 3) := by decide +kernel
theorem dX5_clear_4 : decode cX5_clear 4 = .ok (.istore_n 1, 1) := by decide +kernel
theorem dX5_clear_5 : decode cX5_clear 5 = .ok (.aload_n 0, 1) := by decide +kernel
theorem dX5_clear_6 : decode cX5_clear 6 = .ok (.iconst 0, 1) := by decide +kernel
theorem dX5_clear_7 : decode cX5_clear 7 = .ok (.putfield 15, 3) := by decide +kernel
theorem dX5_clear_10 : decode cX5_clear 10 = .ok (.iload_n 1, 1) := by decide +kernel
theorem dX5_clear_11 : decode cX5_clear 11 = .ok (.ireturn, 1) := by decide +kernel
theorem dX5_firstFault_0 : decode cX5_firstFault 0 = .ok (.iconst 0, 1) := by decide +kernel
theorem dX5_firstFault_1 : decode cX5_firstFault 1 = .ok (.istore_n 1, 1) := by decide +kernel
theorem dX5_firstFault_2 : decode cX5_firstFault 2 = .ok (.iconst 0, 1) := by decide +kernel
theorem dX5_firstFault_3 : decode cX5_firstFault 3 = .ok (.istore_n 2, 1) := by decide +kernel
theorem dX5_firstFault_4 : decode cX5_firstFault 4 = .ok (.iconst 0, 1) := by decide +kernel
theorem dX5_firstFault_5 : decode cX5_firstFault 5 = .ok (.istore_n 3, 1) := by decide +kernel
theorem dX5_firstFault_6 : decode cX5_firstFault 6 = .ok (.iload_n 3, 1) := by decide +kernel
theorem dX5_firstFault_7 : decode cX5_firstFault 7 = .ok (.aload_n 0, 1) := by decide +kernel
theorem dX5_firstFault_8 : decode cX5_firstFault 8 = .ok (.getfield 15, 3) := by decide +kernel
theorem dX5_firstFault_11 : decode cX5_firstFault 11 = .ok (.if_icmp .ge 36, 3) := by decide +kernel
theorem dX5_firstFault_14 : decode cX5_firstFault 14 = .ok (.iload_n 1, 1) := by decide +kernel
theorem dX5_firstFault_15 : decode cX5_firstFault 15 = .ok (.aload_n 0, 1) := by decide +kernel
theorem dX5_firstFault_16 : decode cX5_firstFault 16 = .ok (.getfield 9, 3) := by decide +kernel
theorem dX5_firstFault_19 : decode cX5_firstFault 19 = .ok (.iload_n 3, 1) := by decide +kernel
theorem dX5_firstFault_20 : decode cX5_firstFault 20 = .ok (.iaload, 1) := by decide +kernel
theorem dX5_firstFault_21 : decode cX5_firstFault 21 = .ok (.iload_n 2, 1) := by decide +kernel
theorem dX5_firstFault_22 : decode cX5_firstFault 22 = .ok (.invokestatic 19, 3) := by decide +kernel
theorem dX5_firstFault_25 : decode cX5_firstFault 25 = .ok (.istore_n 1, 1) := by decide +kernel
theorem dX5_firstFault_26 : decode cX5_firstFault 26 = .ok (.iload_n 1, 1) := by decide +kernel
theorem dX5_firstFault_27 : decode cX5_firstFault 27 = .ok (.iconst (-1), 1) := by decide +kernel
theorem dX5_firstFault_28 : decode cX5_firstFault 28 = .ok (.if_icmp .ne 5, 3) := by decide +kernel
theorem dX5_firstFault_31 : decode cX5_firstFault 31 = .ok (.iload_n 3, 1) := by decide +kernel
theorem dX5_firstFault_32 : decode cX5_firstFault 32 = .ok (.ireturn, 1) := by decide +kernel
theorem dX5_firstFault_33 : decode cX5_firstFault 33 = .ok (.iload_n 1, 1) := by decide +kernel
theorem dX5_firstFault_34 : decode cX5_firstFault 34 = .ok (.iconst 1, 1) := by decide +kernel
theorem dX5_firstFault_35 : decode cX5_firstFault 35 = .ok (.if_icmp .ne 6, 3) := by decide +kernel
theorem dX5_firstFault_38 : decode cX5_firstFault 38 = .ok (.iinc 2 1, 3) := by decide +kernel
theorem dX5_firstFault_41 : decode cX5_firstFault 41 = .ok (.iinc 3 1, 3) := by decide +kernel
theorem dX5_firstFault_44 : decode cX5_firstFault 44 = .ok (.goto (-38), 3) := by decide +kernel
theorem dX5_firstFault_47 : decode cX5_firstFault 47 = .ok (.iload_n 1, 1) := by decide +kernel
theorem dX5_firstFault_48 : decode cX5_firstFault 48 = .ok (.iconst 3, 1) := by decide +kernel
theorem dX5_firstFault_49 : decode cX5_firstFault 49 = .ok (.if_icmp .eq 8, 3) := by decide +kernel
theorem dX5_firstFault_52 : decode cX5_firstFault 52 = .ok (.iload_n 1, 1) := by decide +kernel
theorem dX5_firstFault_53 : decode cX5_firstFault 53 = .ok (.iconst 4, 1) := by decide +kernel
theorem dX5_firstFault_54 : decode cX5_firstFault 54 = .ok (.if_icmp .le 8, 3) := by decide +kernel
theorem dX5_firstFault_57 : decode cX5_firstFault 57 = .ok (.bipush (-9), 2) := by decide +kernel
theorem dX5_firstFault_59 : decode cX5_firstFault 59 = .ok (.goto 7, 3) := by decide +kernel
theorem dX5_firstFault_62 : decode cX5_firstFault 62 = .ok (.aload_n 0, 1) := by decide +kernel
theorem dX5_firstFault_63 : decode cX5_firstFault 63 = .ok (.getfield 15, 3) := by decide +kernel
theorem dX5_firstFault_66 : decode cX5_firstFault 66 = .ok (.ireturn, 1) := by decide +kernel
theorem dX5_stateAfter_0 : decode cX5_stateAfter 0 = .ok (.iload_n 0, 1) := by decide +kernel
theorem dX5_stateAfter_1 : decode cX5_stateAfter 1 = .ok (.ifCond .ne 15, 3) := by decide +kernel
theorem dX5_stateAfter_4 : decode cX5_stateAfter 4 = .ok (.iload_n 1, 1) := by decide +kernel
theorem dX5_stateAfter_5 : decode cX5_stateAfter 5 = .ok (.bipush 84, 2) := by decide +kernel
theorem dX5_stateAfter_7 : decode cX5_stateAfter 7 = .ok (.if_icmp .ne 7, 3) := by decide +kernel
theorem dX5_stateAfter_10 : decode cX5_stateAfter 10 = .ok (.iconst 3, 1) := by decide +kernel
theorem dX5_stateAfter_11 : decode cX5_stateAfter 11 = .ok (.goto 4, 3) := by decide +kernel
theorem dX5_stateAfter_14 : decode cX5_stateAfter 14 = .ok (.iconst (-1), 1) := by decide +kernel
theorem dX5_stateAfter_15 : decode cX5_stateAfter 15 = .ok (.ireturn, 1) := by decide +kernel
theorem dX5_stateAfter_16 : decode cX5_stateAfter 16 = .ok (.iload_n 0, 1) := by decide +kernel
theorem dX5_stateAfter_17 : decode cX5_stateAfter 17 = .ok (.iconst 1, 1) := by decide +kernel
theorem dX5_stateAfter_18 : decode cX5_stateAfter 18 = .ok (.if_icmp .ne 17, 3) := by decide +kernel
theorem dX5_stateAfter_21 : decode cX5_stateAfter 21 = .ok (.iload_n 1, 1) := by decide +kernel
theorem dX5_stateAfter_22 : decode cX5_stateAfter 22 = .ok (.iconst 4, 1) := by decide +kernel
theorem dX5_stateAfter_23 : decode cX5_stateAfter 23 = .ok (.invokestatic 23, 3) := by decide +kernel
theorem dX5_stateAfter_26 : decode cX5_stateAfter 26 = .ok (.ifCond .eq 7, 3) := by decide +kernel
theorem dX5_stateAfter_29 : decode cX5_stateAfter 29 = .ok (.iconst 2, 1) := by decide +kernel
theorem dX5_stateAfter_30 : decode cX5_stateAfter 30 = .ok (.goto 4, 3) := by decide +kernel
theorem dX5_stateAfter_33 : decode cX5_stateAfter 33 = .ok (.iconst (-1), 1) := by decide +kernel
theorem dX5_stateAfter_34 : decode cX5_stateAfter 34 = .ok (.ireturn, 1) := by decide +kernel
theorem dX5_stateAfter_35 : decode cX5_stateAfter 35 = .ok (.iload_n 0, 1) := by decide +kernel
theorem dX5_stateAfter_36 : decode cX5_stateAfter 36 = .ok (.iconst 2, 1) := by decide +kernel
theorem dX5_stateAfter_37 : decode cX5_stateAfter 37 = .ok (.if_icmp .ne 17, 3) := by decide +kernel
theorem dX5_stateAfter_40 : decode cX5_stateAfter 40 = .ok (.iload_n 1, 1) := by decide +kernel
theorem dX5_stateAfter_41 : decode cX5_stateAfter 41 = .ok (.iconst 4, 1) := by decide +kernel
theorem dX5_stateAfter_42 : decode cX5_stateAfter 42 = .ok (.invokestatic 23, 3) := by decide +kernel
theorem dX5_stateAfter_45 : decode cX5_stateAfter 45 = .ok (.ifCond .eq 7, 3) := by decide +kernel
theorem dX5_stateAfter_48 : decode cX5_stateAfter 48 = .ok (.iconst 4, 1) := by decide +kernel
theorem dX5_stateAfter_49 : decode cX5_stateAfter 49 = .ok (.goto 4, 3) := by decide +kernel
theorem dX5_stateAfter_52 : decode cX5_stateAfter 52 = .ok (.iconst (-1), 1) := by decide +kernel
theorem dX5_stateAfter_53 : decode cX5_stateAfter 53 = .ok (.ireturn, 1) := by decide +kernel
theorem dX5_stateAfter_54 : decode cX5_stateAfter 54 = .ok (.iload_n 0, 1) := by decide +kernel
theorem dX5_stateAfter_55 : decode cX5_stateAfter 55 = .ok (.iconst 4, 1) := by decide +kernel
theorem dX5_stateAfter_56 : decode cX5_stateAfter 56 = .ok (.if_icmp .lt 20, 3) := by decide +kernel
theorem dX5_stateAfter_59 : decode cX5_stateAfter 59 = .ok (.iload_n 0, 1) := by decide +kernel
theorem dX5_stateAfter_60 : decode cX5_stateAfter 60 = .ok (.bipush 10, 2) := by decide +kernel
theorem dX5_stateAfter_62 : decode cX5_stateAfter 62 = .ok (.if_icmp .ge 14, 3) := by decide +kernel
theorem dX5_stateAfter_65 : decode cX5_stateAfter 65 = .ok (.iload_n 1, 1) := by decide +kernel
theorem dX5_stateAfter_66 : decode cX5_stateAfter 66 = .ok (.invokestatic 27, 3) := by decide +kernel
theorem dX5_stateAfter_69 : decode cX5_stateAfter 69 = .ok (.ifCond .eq 7, 3) := by decide +kernel
theorem dX5_stateAfter_72 : decode cX5_stateAfter 72 = .ok (.iload_n 0, 1) := by decide +kernel
theorem dX5_stateAfter_73 : decode cX5_stateAfter 73 = .ok (.iconst 1, 1) := by decide +kernel
theorem dX5_stateAfter_74 : decode cX5_stateAfter 74 = .ok (.iadd, 1) := by decide +kernel
theorem dX5_stateAfter_75 : decode cX5_stateAfter 75 = .ok (.ireturn, 1) := by decide +kernel
theorem dX5_stateAfter_76 : decode cX5_stateAfter 76 = .ok (.iload_n 1, 1) := by decide +kernel
theorem dX5_stateAfter_77 : decode cX5_stateAfter 77 = .ok (.bipush 83, 2) := by decide +kernel
theorem dX5_stateAfter_79 : decode cX5_stateAfter 79 = .ok (.if_icmp .ne 17, 3) := by decide +kernel
theorem dX5_stateAfter_82 : decode cX5_stateAfter 82 = .ok (.iload_n 0, 1) := by decide +kernel
theorem dX5_stateAfter_83 : decode cX5_stateAfter 83 = .ok (.iconst 4, 1) := by decide +kernel
theorem dX5_stateAfter_84 : decode cX5_stateAfter 84 = .ok (.if_icmp .eq 12, 3) := by decide +kernel
theorem dX5_stateAfter_87 : decode cX5_stateAfter 87 = .ok (.iload_n 2, 1) := by decide +kernel
theorem dX5_stateAfter_88 : decode cX5_stateAfter 88 = .ok (.iconst 4, 1) := by decide +kernel
theorem dX5_stateAfter_89 : decode cX5_stateAfter 89 = .ok (.if_icmp .ge 7, 3) := by decide +kernel
theorem dX5_stateAfter_92 : decode cX5_stateAfter 92 = .ok (.iconst 1, 1) := by decide +kernel
theorem dX5_stateAfter_93 : decode cX5_stateAfter 93 = .ok (.goto 4, 3) := by decide +kernel
theorem dX5_stateAfter_96 : decode cX5_stateAfter 96 = .ok (.iconst (-1), 1) := by decide +kernel
theorem dX5_stateAfter_97 : decode cX5_stateAfter 97 = .ok (.ireturn, 1) := by decide +kernel
theorem dX5_isFigure_0 : decode cX5_isFigure 0 = .ok (.iload_n 0, 1) := by decide +kernel
theorem dX5_isFigure_1 : decode cX5_isFigure 1 = .ok (.bipush 48, 2) := by decide +kernel
theorem dX5_isFigure_3 : decode cX5_isFigure 3 = .ok (.if_icmp .lt 15, 3) := by decide +kernel
theorem dX5_isFigure_6 : decode cX5_isFigure 6 = .ok (.iload_n 0, 1) := by decide +kernel
theorem dX5_isFigure_7 : decode cX5_isFigure 7 = .ok (.bipush 48, 2) := by decide +kernel
theorem dX5_isFigure_9 : decode cX5_isFigure 9 = .ok (.iload_n 1, 1) := by decide +kernel
theorem dX5_isFigure_10 : decode cX5_isFigure 10 = .ok (.iadd, 1) := by decide +kernel
theorem dX5_isFigure_11 : decode cX5_isFigure 11 = .ok (.if_icmp .ge 7, 3) := by decide +kernel
theorem dX5_isFigure_14 : decode cX5_isFigure 14 = .ok (.iconst 1, 1) := by decide +kernel
theorem dX5_isFigure_15 : decode cX5_isFigure 15 = .ok (.goto 4, 3) := by decide +kernel
theorem dX5_isFigure_18 : decode cX5_isFigure 18 = .ok (.iconst 0, 1) := by decide +kernel
theorem dX5_isFigure_19 : decode cX5_isFigure 19 = .ok (.ireturn, 1) := by decide +kernel
theorem dX5_isBend_0 : decode cX5_isBend 0 = .ok (.iload_n 0, 1) := by decide +kernel
theorem dX5_isBend_1 : decode cX5_isBend 1 = .ok (.bipush 97, 2) := by decide +kernel
theorem dX5_isBend_3 : decode cX5_isBend 3 = .ok (.if_icmp .lt 13, 3) := by decide +kernel
theorem dX5_isBend_6 : decode cX5_isBend 6 = .ok (.iload_n 0, 1) := by decide +kernel
theorem dX5_isBend_7 : decode cX5_isBend 7 = .ok (.bipush 101, 2) := by decide +kernel
theorem dX5_isBend_9 : decode cX5_isBend 9 = .ok (.if_icmp .ge 7, 3) := by decide +kernel
theorem dX5_isBend_12 : decode cX5_isBend 12 = .ok (.iconst 1, 1) := by decide +kernel
theorem dX5_isBend_13 : decode cX5_isBend 13 = .ok (.goto 4, 3) := by decide +kernel
theorem dX5_isBend_16 : decode cX5_isBend 16 = .ok (.iconst 0, 1) := by decide +kernel
theorem dX5_isBend_17 : decode cX5_isBend 17 = .ok (.ireturn, 1) := by decide +kernel
theorem dX5_tellTo_0 : decode cX5_tellTo 0 = .ok (.aload_n 1, 1) := by decide +kernel
theorem dX5_tellTo_1 : decode cX5_tellTo 1 = .ok (.invokevirtual 31, 3) := by decide +kernel
theorem dX5_tellTo_4 : decode cX5_tellTo 4 = .ok (.iconst 1, 1) := by decide +kernel
theorem dX5_tellTo_5 : decode cX5_tellTo 5 = .ok (.istore_n 2, 1) := by decide +kernel
theorem dX5_tellTo_6 : decode cX5_tellTo 6 = .ok (.iload_n 2, 1) := by decide +kernel
theorem dX5_tellTo_7 : decode cX5_tellTo 7 = .ok (.aload_n 0, 1) := by decide +kernel
theorem dX5_tellTo_8 : decode cX5_tellTo 8 = .ok (.getfield 15, 3) := by decide +kernel
theorem dX5_tellTo_11 : decode cX5_tellTo 11 = .ok (.if_icmp .ge 86, 3) := by decide +kernel
theorem dX5_tellTo_14 : decode cX5_tellTo 14 = .ok (.aload_n 0, 1) := by decide +kernel
theorem dX5_tellTo_15 : decode cX5_tellTo 15 = .ok (.getfield 9, 3) := by decide +kernel
theorem dX5_tellTo_18 : decode cX5_tellTo 18 = .ok (.iload_n 2, 1) := by decide +kernel
theorem dX5_tellTo_19 : decode cX5_tellTo 19 = .ok (.iaload, 1) := by decide +kernel
theorem dX5_tellTo_20 : decode cX5_tellTo 20 = .ok (.invokestatic 27, 3) := by decide +kernel
theorem dX5_tellTo_23 : decode cX5_tellTo 23 = .ok (.ifCond .eq 21, 3) := by decide +kernel
theorem dX5_tellTo_26 : decode cX5_tellTo 26 = .ok (.aload_n 1, 1) := by decide +kernel
theorem dX5_tellTo_27 : decode cX5_tellTo 27 = .ok (.aload_n 0, 1) := by decide +kernel
theorem dX5_tellTo_28 : decode cX5_tellTo 28 = .ok (.getfield 9, 3) := by decide +kernel
theorem dX5_tellTo_31 : decode cX5_tellTo 31 = .ok (.iload_n 2, 1) := by decide +kernel
theorem dX5_tellTo_32 : decode cX5_tellTo 32 = .ok (.iaload, 1) := by decide +kernel
theorem dX5_tellTo_33 : decode cX5_tellTo 33 = .ok (.bipush 97, 2) := by decide +kernel
theorem dX5_tellTo_35 : decode cX5_tellTo 35 = .ok (.isub, 1) := by decide +kernel
theorem dX5_tellTo_36 : decode cX5_tellTo 36 = .ok (.iconst 1, 1) := by decide +kernel
theorem dX5_tellTo_37 : decode cX5_tellTo 37 = .ok (.iadd, 1) := by decide +kernel
theorem dX5_tellTo_38 : decode cX5_tellTo 38 = .ok (.invokevirtual 36, 3) := by decide +kernel
theorem dX5_tellTo_41 : decode cX5_tellTo 41 = .ok (.goto 50, 3) := by decide +kernel
theorem dX5_tellTo_44 : decode cX5_tellTo 44 = .ok (.aload_n 0, 1) := by decide +kernel
theorem dX5_tellTo_45 : decode cX5_tellTo 45 = .ok (.getfield 9, 3) := by decide +kernel
theorem dX5_tellTo_48 : decode cX5_tellTo 48 = .ok (.iload_n 2, 1) := by decide +kernel
theorem dX5_tellTo_49 : decode cX5_tellTo 49 = .ok (.iaload, 1) := by decide +kernel
theorem dX5_tellTo_50 : decode cX5_tellTo 50 = .ok (.bipush 83, 2) := by decide +kernel
theorem dX5_tellTo_52 : decode cX5_tellTo 52 = .ok (.if_icmp .ne 39, 3) := by decide +kernel
theorem dX5_tellTo_55 : decode cX5_tellTo 55 = .ok (.iload_n 2, 1) := by decide +kernel
theorem dX5_tellTo_56 : decode cX5_tellTo 56 = .ok (.iconst 2, 1) := by decide +kernel
theorem dX5_tellTo_57 : decode cX5_tellTo 57 = .ok (.iadd, 1) := by decide +kernel
theorem dX5_tellTo_58 : decode cX5_tellTo 58 = .ok (.aload_n 0, 1) := by decide +kernel
theorem dX5_tellTo_59 : decode cX5_tellTo 59 = .ok (.getfield 15, 3) := by decide +kernel
theorem dX5_tellTo_62 : decode cX5_tellTo 62 = .ok (.if_icmp .ge 29, 3) := by decide +kernel
theorem dX5_tellTo_65 : decode cX5_tellTo 65 = .ok (.aload_n 1, 1) := by decide +kernel
theorem dX5_tellTo_66 : decode cX5_tellTo 66 = .ok (.aload_n 0, 1) := by decide +kernel
theorem dX5_tellTo_67 : decode cX5_tellTo 67 = .ok (.getfield 9, 3) := by decide +kernel
theorem dX5_tellTo_70 : decode cX5_tellTo 70 = .ok (.iload_n 2, 1) := by decide +kernel
theorem dX5_tellTo_71 : decode cX5_tellTo 71 = .ok (.iconst 1, 1) := by decide +kernel
theorem dX5_tellTo_72 : decode cX5_tellTo 72 = .ok (.iadd, 1) := by decide +kernel
theorem dX5_tellTo_73 : decode cX5_tellTo 73 = .ok (.iaload, 1) := by decide +kernel
theorem dX5_tellTo_74 : decode cX5_tellTo 74 = .ok (.bipush 48, 2) := by decide +kernel
theorem dX5_tellTo_76 : decode cX5_tellTo 76 = .ok (.isub, 1) := by decide +kernel
theorem dX5_tellTo_77 : decode cX5_tellTo 77 = .ok (.aload_n 0, 1) := by decide +kernel
theorem dX5_tellTo_78 : decode cX5_tellTo 78 = .ok (.getfield 9, 3) := by decide +kernel
theorem dX5_tellTo_81 : decode cX5_tellTo 81 = .ok (.iload_n 2, 1) := by decide +kernel
theorem dX5_tellTo_82 : decode cX5_tellTo 82 = .ok (.iconst 2, 1) := by decide +kernel
theorem dX5_tellTo_83 : decode cX5_tellTo 83 = .ok (.iadd, 1) := by decide +kernel
theorem dX5_tellTo_84 : decode cX5_tellTo 84 = .ok (.iaload, 1) := by decide +kernel
theorem dX5_tellTo_85 : decode cX5_tellTo 85 = .ok (.bipush 48, 2) := by decide +kernel
theorem dX5_tellTo_87 : decode cX5_tellTo 87 = .ok (.isub, 1) := by decide +kernel
theorem dX5_tellTo_88 : decode cX5_tellTo 88 = .ok (.invokevirtual 40, 3) := by decide +kernel
theorem dX5_tellTo_91 : decode cX5_tellTo 91 = .ok (.iinc 2 1, 3) := by decide +kernel
theorem dX5_tellTo_94 : decode cX5_tellTo 94 = .ok (.goto (-88), 3) := by decide +kernel
theorem dX5_tellTo_97 : decode cX5_tellTo 97 = .ok (.return_, 1) := by decide +kernel
theorem dX6_init_0 : decode cX6_init 0 = .ok (.aload_n 0, 1) := by decide +kernel
theorem dX6_init_1 : decode cX6_init 1 = .ok (.invokespecial 3, 3) := by decide +kernel
theorem dX6_init_4 : decode cX6_init 4 = .ok (.aload_n 0, 1) := by decide +kernel
theorem dX6_init_5 : decode cX6_init 5 = .ok (.iconst 4, 1) := by decide +kernel
theorem dX6_init_6 : decode cX6_init 6 = .ok (.anewarray 9, 3) := by decide +kernel
theorem dX6_init_9 : decode cX6_init 9 = .ok (.putfield 11, 3) := by decide +kernel
theorem dX6_init_12 : decode cX6_init 12 = .ok (.iconst 0, 1) := by decide +kernel
theorem dX6_init_13 : decode cX6_init 13 = .ok (.istore_n 1, 1) := by decide +kernel
theorem dX6_init_14 : decode cX6_init 14 = .ok (.iload_n 1, 1) := by decide +kernel
theorem dX6_init_15 : decode cX6_init 15 = .ok (.iconst 4, 1) := by decide +kernel
theorem dX6_init_16 : decode cX6_init 16 = .ok (.if_icmp .ge 22, 3) := by decide +kernel
theorem dX6_init_19 : decode cX6_init 19 = .ok (.aload_n 0, 1) := by decide +kernel
theorem dX6_init_20 : decode cX6_init 20 = .ok (.getfield 11, 3) := by decide +kernel
theorem dX6_init_23 : decode cX6_init 23 = .ok (.iload_n 1, 1) := by decide +kernel
theorem dX6_init_24 : decode cX6_init 24 = .ok (.new 9, 3) := by decide +kernel
theorem dX6_init_27 : decode cX6_init 27 = .ok (.dup, 1) := by decide +kernel
theorem dX6_init_28 : decode cX6_init 28 = .ok (.invokespecial 17, 3) := by decide +kernel
theorem dX6_init_31 : decode cX6_init 31 = .ok (.aastore, 1) := by decide +kernel
theorem dX6_init_32 : decode cX6_init 32 = .ok (.iinc 1 1, 3) := by decide +kernel
theorem dX6_init_35 : decode cX6_init 35 = .ok (.goto (-21), 3) := by decide +kernel
theorem dX6_init_38 : decode cX6_init 38 = .ok (.return_, 1) := by decide +kernel
theorem dX6_clear_0 : decode cX6_clear 0 = .ok (.aload_n 0, 1) := by decide +kernel
theorem dX6_clear_1 : decode cX6_clear 1 = .ok (.iconst 0, 1) := by decide +kernel
theorem dX6_clear_2 : decode cX6_clear 2 = .ok (.putfield 18, 3) := by decide +kernel
theorem dX6_clear_5 : decode cX6_clear 5 = .ok (.aload_n 0, 1) := by decide +kernel
theorem dX6_clear_6 : decode cX6_clear 6 = .ok (.iconst 0, 1) := by decide +kernel
theorem dX6_clear_7 : decode cX6_clear 7 = .ok (.putfield 22, 3) := by decide +kernel
theorem dX6_clear_10 : decode cX6_clear 10 = .ok (.return_, 1) := by decide +kernel
theorem dX6_setTo_0 : decode cX6_setTo 0 = .ok (.aload_n 0, 1) := by decide +kernel
theorem dX6_setTo_1 : decode cX6_setTo 1 = .ok (.aload_n 1, 1) := by decide +kernel
theorem dX6_setTo_2 : decode cX6_setTo 2 = .ok (.getfield 18, 3) := by decide +kernel
theorem dX6_setTo_5 : decode cX6_setTo 5 = .ok (.putfield 18, 3) := by decide +kernel
theorem dX6_setTo_8 : decode cX6_setTo 8 = .ok (.aload_n 0, 1) := by decide +kernel
theorem dX6_setTo_9 : decode cX6_setTo 9 = .ok (.aload_n 1, 1) := by decide +kernel
theorem dX6_setTo_10 : decode cX6_setTo 10 = .ok (.getfield 22, 3) := by decide +kernel
theorem dX6_setTo_13 : decode cX6_setTo 13 = .ok (.putfield 22, 3) := by decide +kernel
theorem dX6_setTo_16 : decode cX6_setTo 16 = .ok (.iconst 0, 1) := by decide +kernel
theorem dX6_setTo_17 : decode cX6_setTo 17 = .ok (.istore_n 2, 1) := by decide +kernel
theorem dX6_setTo_18 : decode cX6_setTo 18 = .ok (.iload_n 2, 1) := by decide +kernel
theorem dX6_setTo_19 : decode cX6_setTo 19 = .ok (.aload_n 0, 1) := by decide +kernel
theorem dX6_setTo_20 : decode cX6_setTo 20 = .ok (.getfield 18, 3) := by decide +kernel
theorem dX6_setTo_23 : decode cX6_setTo 23 = .ok (.if_icmp .ge 24, 3) := by decide +kernel
theorem dX6_setTo_26 : decode cX6_setTo 26 = .ok (.aload_n 0, 1) := by decide +kernel
theorem dX6_setTo_27 : decode cX6_setTo 27 = .ok (.getfield 11, 3) := by decide +kernel
theorem dX6_setTo_30 : decode cX6_setTo 30 = .ok (.iload_n 2, 1) := by decide +kernel
theorem dX6_setTo_31 : decode cX6_setTo 31 = .ok (.aaload, 1) := by decide +kernel
theorem dX6_setTo_32 : decode cX6_setTo 32 = .ok (.aload_n 1, 1) := by decide +kernel
theorem dX6_setTo_33 : decode cX6_setTo 33 = .ok (.getfield 11, 3) := by decide +kernel
theorem dX6_setTo_36 : decode cX6_setTo 36 = .ok (.iload_n 2, 1) := by decide +kernel
theorem dX6_setTo_37 : decode cX6_setTo 37 = .ok (.aaload, 1) := by decide +kernel
theorem dX6_setTo_38 : decode cX6_setTo 38 = .ok (.invokevirtual 25, 3) := by decide +kernel
theorem dX6_setTo_41 : decode cX6_setTo 41 = .ok (.iinc 2 1, 3) := by decide +kernel
theorem dX6_setTo_44 : decode cX6_setTo 44 = .ok (.goto (-26), 3) := by decide +kernel
theorem dX6_setTo_47 : decode cX6_setTo 47 = .ok (.return_, 1) := by decide +kernel
theorem dX6_begin_0 : decode cX6_begin 0 = .ok (.aload_n 0, 1) := by decide +kernel
theorem dX6_begin_1 : decode cX6_begin 1 = .ok (.getfield 18, 3) := by decide +kernel
theorem dX6_begin_4 : decode cX6_begin 4 = .ok (.iconst 4, 1) := by decide +kernel
theorem dX6_begin_5 : decode cX6_begin 5 = .ok (.if_icmp .ge 54, 3) := by decide +kernel
theorem dX6_begin_8 : decode cX6_begin 8 = .ok (.aload_n 0, 1) := by decide +kernel
theorem dX6_begin_9 : decode cX6_begin 9 = .ok (.getfield 11, 3) := by decide +kernel
theorem dX6_begin_12 : decode cX6_begin 12 = .ok (.aload_n 0, 1) := by decide +kernel
theorem dX6_begin_13 : decode cX6_begin 13 = .ok (.getfield 18, 3) := by decide +kernel
theorem dX6_begin_16 : decode cX6_begin 16 = .ok (.aaload, 1) := by decide +kernel
theorem dX6_begin_17 : decode cX6_begin 17 = .ok (.iload_n 1, 1) := by decide +kernel
theorem dX6_begin_18 : decode cX6_begin 18 = .ok (.putfield 29, 3) := by decide +kernel
theorem dX6_begin_21 : decode cX6_begin 21 = .ok (.aload_n 0, 1) := by decide +kernel
theorem dX6_begin_22 : decode cX6_begin 22 = .ok (.getfield 11, 3) := by decide +kernel
theorem dX6_begin_25 : decode cX6_begin 25 = .ok (.aload_n 0, 1) := by decide +kernel
theorem dX6_begin_26 : decode cX6_begin 26 = .ok (.getfield 18, 3) := by decide +kernel
theorem dX6_begin_29 : decode cX6_begin 29 = .ok (.aaload, 1) := by decide +kernel
theorem dX6_begin_30 : decode cX6_begin 30 = .ok (.iload_n 2, 1) := by decide +kernel
theorem dX6_begin_31 : decode cX6_begin 31 = .ok (.putfield 32, 3) := by decide +kernel
theorem dX6_begin_34 : decode cX6_begin 34 = .ok (.aload_n 0, 1) := by decide +kernel
theorem dX6_begin_35 : decode cX6_begin 35 = .ok (.getfield 11, 3) := by decide +kernel
theorem dX6_begin_38 : decode cX6_begin 38 = .ok (.aload_n 0, 1) := by decide +kernel
theorem dX6_begin_39 : decode cX6_begin 39 = .ok (.getfield 18, 3) := by decide +kernel
theorem dX6_begin_42 : decode cX6_begin 42 = .ok (.aaload, 1) := by decide +kernel
theorem dX6_begin_43 : decode cX6_begin 43 = .ok (.getfield 35, 3) := by decide +kernel
theorem dX6_begin_46 : decode cX6_begin 46 = .ok (.invokevirtual 39, 3) := by decide +kernel
theorem dX6_begin_49 : decode cX6_begin 49 = .ok (.aload_n 0, 1) := by decide +kernel
theorem dX6_begin_50 : decode cX6_begin 50 = .ok (.dup, 1) := by decide +kernel
theorem dX6_begin_51 : decode cX6_begin 51 = .ok (.getfield 18, 3) := by decide +kernel
theorem dX6_begin_54 : decode cX6_begin 54 = .ok (.iconst 1, 1) := by decide +kernel
theorem dX6_begin_55 : decode cX6_begin 55 = .ok (.iadd, 1) := by decide +kernel
theorem dX6_begin_56 : decode cX6_begin 56 = .ok (.putfield 18, 3) := by decide +kernel
theorem dX6_begin_59 : decode cX6_begin 59 = .ok (.return_, 1) := by decide +kernel
theorem dX6_bendLast_0 : decode cX6_bendLast 0 = .ok (.aload_n 0, 1) := by decide +kernel
theorem dX6_bendLast_1 : decode cX6_bendLast 1 = .ok (.getfield 18, 3) := by decide +kernel
theorem dX6_bendLast_4 : decode cX6_bendLast 4 = .ok (.ifCond .le 21, 3) := by decide +kernel
theorem dX6_bendLast_7 : decode cX6_bendLast 7 = .ok (.aload_n 0, 1) := by decide +kernel
theorem dX6_bendLast_8 : decode cX6_bendLast 8 = .ok (.getfield 11, 3) := by decide +kernel
theorem dX6_bendLast_11 : decode cX6_bendLast 11 = .ok (.aload_n 0, 1) := by decide +kernel
theorem dX6_bendLast_12 : decode cX6_bendLast 12 = .ok (.getfield 18, 3) := by decide +kernel
theorem dX6_bendLast_15 : decode cX6_bendLast 15 = .ok (.iconst 1, 1) := by decide +kernel
theorem dX6_bendLast_16 : decode cX6_bendLast 16 = .ok (.isub, 1) := by decide +kernel
theorem dX6_bendLast_17 : decode cX6_bendLast 17 = .ok (.aaload, 1) := by decide +kernel
theorem dX6_bendLast_18 : decode cX6_bendLast 18 = .ok (.getfield 35, 3) := by decide +kernel
theorem dX6_bendLast_21 : decode cX6_bendLast 21 = .ok (.iload_n 1, 1) := by decide +kernel
theorem dX6_bendLast_22 : decode cX6_bendLast 22 = .ok (.invokevirtual 44, 3) := by decide +kernel
theorem dX6_bendLast_25 : decode cX6_bendLast 25 = .ok (.return_, 1) := by decide +kernel
theorem dX6_has_0 : decode cX6_has 0 = .ok (.iload_n 1, 1) := by decide +kernel
theorem dX6_has_1 : decode cX6_has 1 = .ok (.ifCond .lt 30, 3) := by decide +kernel
theorem dX6_has_4 : decode cX6_has 4 = .ok (.iload_n 1, 1) := by decide +kernel
theorem dX6_has_5 : decode cX6_has 5 = .ok (.aload_n 0, 1) := by decide +kernel
theorem dX6_has_6 : decode cX6_has 6 = .ok (.getfield 18, 3) := by decide +kernel
theorem dX6_has_9 : decode cX6_has 9 = .ok (.if_icmp .ge 22, 3) := by decide +kernel
theorem dX6_has_12 : decode cX6_has 12 = .ok (.aload_n 0, 1) := by decide +kernel
theorem dX6_has_13 : decode cX6_has 13 = .ok (.getfield 11, 3) := by decide +kernel
theorem dX6_has_16 : decode cX6_has 16 = .ok (.iload_n 1, 1) := by decide +kernel
theorem dX6_has_17 : decode cX6_has 17 = .ok (.aaload, 1) := by decide +kernel
theorem dX6_has_18 : decode cX6_has 18 = .ok (.getfield 35, 3) := by decide +kernel
theorem dX6_has_21 : decode cX6_has 21 = .ok (.getfield 48, 3) := by decide +kernel
theorem dX6_has_24 : decode cX6_has 24 = .ok (.ifCond .le 7, 3) := by decide +kernel
theorem dX6_has_27 : decode cX6_has 27 = .ok (.iconst 1, 1) := by decide +kernel
theorem dX6_has_28 : decode cX6_has 28 = .ok (.goto 4, 3) := by decide +kernel
theorem dX6_has_31 : decode cX6_has 31 = .ok (.iconst 0, 1) := by decide +kernel
theorem dX6_has_32 : decode cX6_has 32 = .ok (.ireturn, 1) := by decide +kernel
theorem dX6_whoIsThere_0 : decode cX6_whoIsThere 0 = .ok (.iconst 0, 1) := by decide +kernel
theorem dX6_whoIsThere_1 : decode cX6_whoIsThere 1 = .ok (.istore_n 1, 1) := by decide +kernel
theorem dX6_whoIsThere_2 : decode cX6_whoIsThere 2 = .ok (.iconst 0, 1) := by decide +kernel
theorem dX6_whoIsThere_3 : decode cX6_whoIsThere 3 = .ok (.istore_n 2, 1) := by decide +kernel
theorem dX6_whoIsThere_4 : decode cX6_whoIsThere 4 = .ok (.iload_n 2, 1) := by decide +kernel
theorem dX6_whoIsThere_5 : decode cX6_whoIsThere 5 = .ok (.aload_n 0, 1) := by decide +kernel
theorem dX6_whoIsThere_6 : decode cX6_whoIsThere 6 = .ok (.getfield 18, 3) := by decide +kernel
theorem dX6_whoIsThere_9 : decode cX6_whoIsThere 9 = .ok (.if_icmp .ge 27, 3) := by decide +kernel
theorem dX6_whoIsThere_12 : decode cX6_whoIsThere 12 = .ok (.iload_n 1, 1) := by decide +kernel
theorem dX6_whoIsThere_13 : decode cX6_whoIsThere 13 = .ok (.aload_n 0, 1) := by decide +kernel
theorem dX6_whoIsThere_14 : decode cX6_whoIsThere 14 = .ok (.iload_n 2, 1) := by decide +kernel
theorem dX6_whoIsThere_15 : decode cX6_whoIsThere 15 = .ok (.invokevirtual 51, 3) := by decide +kernel
theorem dX6_whoIsThere_18 : decode cX6_whoIsThere 18 = .ok (.ifCond .eq 9, 3) := by decide +kernel
theorem dX6_whoIsThere_21 : decode cX6_whoIsThere 21 = .ok (.iconst 1, 1) := by decide +kernel
theorem dX6_whoIsThere_22 : decode cX6_whoIsThere 22 = .ok (.iload_n 2, 1) := by decide +kernel
theorem dX6_whoIsThere_23 : decode cX6_whoIsThere 23 = .ok (.ishl, 1) := by decide +kernel
theorem dX6_whoIsThere_24 : decode cX6_whoIsThere 24 = .ok (.goto 4, 3) := by decide +kernel
theorem dX6_whoIsThere_27 : decode cX6_whoIsThere 27 = .ok (.iconst 0, 1) := by decide +kernel
theorem dX6_whoIsThere_28 : decode cX6_whoIsThere 28 = .ok (.ior, 1) := by decide +kernel
theorem dX6_whoIsThere_29 : decode cX6_whoIsThere 29 = .ok (.istore_n 1, 1) := by decide +kernel
theorem dX6_whoIsThere_30 : decode cX6_whoIsThere 30 = .ok (.iinc 2 1, 3) := by decide +kernel
theorem dX6_whoIsThere_33 : decode cX6_whoIsThere 33 = .ok (.goto (-29), 3) := by decide +kernel
theorem dX6_whoIsThere_36 : decode cX6_whoIsThere 36 = .ok (.iload_n 1, 1) := by decide +kernel
theorem dX6_whoIsThere_37 : decode cX6_whoIsThere 37 = .ok (.ireturn, 1) := by decide +kernel
theorem dX6_bendsFrom_0 : decode cX6_bendsFrom 0 = .ok (.iconst 0, 1) := by decide +kernel
theorem dX6_bendsFrom_1 : decode cX6_bendsFrom 1 = .ok (.istore_n 2, 1) := by decide +kernel
theorem dX6_bendsFrom_2 : decode cX6_bendsFrom 2 = .ok (.iload_n 1, 1) := by decide +kernel
theorem dX6_bendsFrom_3 : decode cX6_bendsFrom 3 = .ok (.iconst 0, 1) := by decide +kernel
theorem dX6_bendsFrom_4 : decode cX6_bendsFrom 4 = .ok (.invokestatic 55, 3) := by decide +kernel
theorem dX6_bendsFrom_7 : decode cX6_bendsFrom 7 = .ok (.istore_n 3, 1) := by decide +kernel
theorem dX6_bendsFrom_8 : decode cX6_bendsFrom 8 = .ok (.iload_n 3, 1) := by decide +kernel
theorem dX6_bendsFrom_9 : decode cX6_bendsFrom 9 = .ok (.aload_n 0, 1) := by decide +kernel
theorem dX6_bendsFrom_10 : decode cX6_bendsFrom 10 = .ok (.getfield 18, 3) := by decide +kernel
theorem dX6_bendsFrom_13 : decode cX6_bendsFrom 13 = .ok (.if_icmp .ge 24, 3) := by decide +kernel
theorem dX6_bendsFrom_16 : decode cX6_bendsFrom 16 = .ok (.iload_n 2, 1) := by decide +kernel
theorem dX6_bendsFrom_17 : decode cX6_bendsFrom 17 = .ok (.aload_n 0, 1) := by decide +kernel
theorem dX6_bendsFrom_18 : decode cX6_bendsFrom 18 = .ok (.getfield 11, 3) := by decide +kernel
theorem dX6_bendsFrom_21 : decode cX6_bendsFrom 21 = .ok (.iload_n 3, 1) := by decide +kernel
theorem dX6_bendsFrom_22 : decode cX6_bendsFrom 22 = .ok (.aaload, 1) := by decide +kernel
theorem dX6_bendsFrom_23 : decode cX6_bendsFrom 23 = .ok (.getfield 35, 3) := by decide +kernel
theorem dX6_bendsFrom_26 : decode cX6_bendsFrom 26 = .ok (.getfield 48, 3) := by decide +kernel
theorem dX6_bendsFrom_29 : decode cX6_bendsFrom 29 = .ok (.iadd, 1) := by decide +kernel
theorem dX6_bendsFrom_30 : decode cX6_bendsFrom 30 = .ok (.istore_n 2, 1) := by decide +kernel
theorem dX6_bendsFrom_31 : decode cX6_bendsFrom 31 = .ok (.iinc 3 1, 3) := by decide +kernel
theorem dX6_bendsFrom_34 : decode cX6_bendsFrom 34 = .ok (.goto (-26), 3) := by decide +kernel
theorem dX6_bendsFrom_37 : decode cX6_bendsFrom 37 = .ok (.iload_n 2, 1) := by decide +kernel
theorem dX6_bendsFrom_38 : decode cX6_bendsFrom 38 = .ok (.ireturn, 1) := by decide +kernel
theorem dX6_housesInUse_0 : decode cX6_housesInUse 0 = .ok (.iconst 0, 1) := by decide +kernel
theorem dX6_housesInUse_1 : decode cX6_housesInUse 1 = .ok (.istore_n 1, 1) := by decide +kernel
theorem dX6_housesInUse_2 : decode cX6_housesInUse 2 = .ok (.iconst 0, 1) := by decide +kernel
theorem dX6_housesInUse_3 : decode cX6_housesInUse 3 = .ok (.istore_n 2, 1) := by decide +kernel
theorem dX6_housesInUse_4 : decode cX6_housesInUse 4 = .ok (.iload_n 2, 1) := by decide +kernel
theorem dX6_housesInUse_5 : decode cX6_housesInUse 5 = .ok (.aload_n 0, 1) := by decide +kernel
theorem dX6_housesInUse_6 : decode cX6_housesInUse 6 = .ok (.getfield 18, 3) := by decide +kernel
theorem dX6_housesInUse_9 : decode cX6_housesInUse 9 = .ok (.if_icmp .ge 35, 3) := by decide +kernel
theorem dX6_housesInUse_12 : decode cX6_housesInUse 12 = .ok (.iload_n 1, 1) := by decide +kernel
theorem dX6_housesInUse_13 : decode cX6_housesInUse 13 = .ok (.aload_n 0, 1) := by decide +kernel
theorem dX6_housesInUse_14 : decode cX6_housesInUse 14 = .ok (.iload_n 2, 1) := by decide +kernel
theorem dX6_housesInUse_15 : decode cX6_housesInUse 15 = .ok (.invokevirtual 51, 3) := by decide +kernel
theorem dX6_housesInUse_18 : decode cX6_housesInUse 18 = .ok (.ifCond .eq 17, 3) := by decide +kernel
theorem dX6_housesInUse_21 : decode cX6_housesInUse 21 = .ok (.iconst 1, 1) := by decide +kernel
theorem dX6_housesInUse_22 : decode cX6_housesInUse 22 = .ok (.aload_n 0, 1) := by decide +kernel
theorem dX6_housesInUse_23 : decode cX6_housesInUse 23 = .ok (.getfield 11, 3) := by decide +kernel
theorem dX6_housesInUse_26 : decode cX6_housesInUse 26 = .ok (.iload_n 2, 1) := by decide +kernel
theorem dX6_housesInUse_27 : decode cX6_housesInUse 27 = .ok (.aaload, 1) := by decide +kernel
theorem dX6_housesInUse_28 : decode cX6_housesInUse 28 = .ok (.getfield 29, 3) := by decide +kernel
theorem dX6_housesInUse_31 : decode cX6_housesInUse 31 = .ok (.ishl, 1) := by decide +kernel
theorem dX6_housesInUse_32 : decode cX6_housesInUse 32 = .ok (.goto 4, 3) := by decide +kernel
theorem dX6_housesInUse_35 : decode cX6_housesInUse 35 = .ok (.iconst 0, 1) := by decide +kernel
theorem dX6_housesInUse_36 : decode cX6_housesInUse 36 = .ok (.ior, 1) := by decide +kernel
theorem dX6_housesInUse_37 : decode cX6_housesInUse 37 = .ok (.istore_n 1, 1) := by decide +kernel
theorem dX6_housesInUse_38 : decode cX6_housesInUse 38 = .ok (.iinc 2 1, 3) := by decide +kernel
theorem dX6_housesInUse_41 : decode cX6_housesInUse 41 = .ok (.goto (-37), 3) := by decide +kernel
theorem dX6_housesInUse_44 : decode cX6_housesInUse 44 = .ok (.iload_n 1, 1) := by decide +kernel
theorem dX6_housesInUse_45 : decode cX6_housesInUse 45 = .ok (.ireturn, 1) := by decide +kernel
theorem dX6_countIn_0 : decode cX6_countIn 0 = .ok (.iconst 0, 1) := by decide +kernel
theorem dX6_countIn_1 : decode cX6_countIn 1 = .ok (.istore_n 2, 1) := by decide +kernel
theorem dX6_countIn_2 : decode cX6_countIn 2 = .ok (.iconst 0, 1) := by decide +kernel
theorem dX6_countIn_3 : decode cX6_countIn 3 = .ok (.istore_n 3, 1) := by decide +kernel
theorem dX6_countIn_4 : decode cX6_countIn 4 = .ok (.iload_n 3, 1) := by decide +kernel
theorem dX6_countIn_5 : decode cX6_countIn 5 = .ok (.aload_n 0, 1) := by decide +kernel
theorem dX6_countIn_6 : decode cX6_countIn 6 = .ok (.getfield 18, 3) := by decide +kernel
theorem dX6_countIn_9 : decode cX6_countIn 9 = .ok (.if_icmp .ge 33, 3) := by decide +kernel
theorem dX6_countIn_12 : decode cX6_countIn 12 = .ok (.aload_n 0, 1) := by decide +kernel
theorem dX6_countIn_13 : decode cX6_countIn 13 = .ok (.iload_n 3, 1) := by decide +kernel
theorem dX6_countIn_14 : decode cX6_countIn 14 = .ok (.invokevirtual 51, 3) := by decide +kernel
theorem dX6_countIn_17 : decode cX6_countIn 17 = .ok (.ifCond .eq 19, 3) := by decide +kernel
theorem dX6_countIn_20 : decode cX6_countIn 20 = .ok (.aload_n 0, 1) := by decide +kernel
theorem dX6_countIn_21 : decode cX6_countIn 21 = .ok (.getfield 11, 3) := by decide +kernel
theorem dX6_countIn_24 : decode cX6_countIn 24 = .ok (.iload_n 3, 1) := by decide +kernel
theorem dX6_countIn_25 : decode cX6_countIn 25 = .ok (.aaload, 1) := by decide +kernel
theorem dX6_countIn_26 : decode cX6_countIn 26 = .ok (.getfield 29, 3) := by decide +kernel
theorem dX6_countIn_29 : decode cX6_countIn 29 = .ok (.iload_n 1, 1) := by decide +kernel
theorem dX6_countIn_30 : decode cX6_countIn 30 = .ok (.if_icmp .ne 6, 3) := by decide +kernel
theorem dX6_countIn_33 : decode cX6_countIn 33 = .ok (.iinc 2 1, 3) := by decide +kernel
theorem dX6_countIn_36 : decode cX6_countIn 36 = .ok (.iinc 3 1, 3) := by decide +kernel
theorem dX6_countIn_39 : decode cX6_countIn 39 = .ok (.goto (-35), 3) := by decide +kernel
theorem dX6_countIn_42 : decode cX6_countIn 42 = .ok (.iload_n 2, 1) := by decide +kernel
theorem dX6_countIn_43 : decode cX6_countIn 43 = .ok (.ireturn, 1) := by decide +kernel
theorem dX6_passWinter_0 : decode cX6_passWinter 0 = .ok (.aload_n 0, 1) := by decide +kernel
theorem dX6_passWinter_1 : decode cX6_passWinter 1 = .ok (.invokevirtual 61, 3) := by decide +kernel
theorem dX6_passWinter_4 : decode cX6_passWinter 4 = .ok (.invokestatic 65, 3) := by decide +kernel
theorem dX6_passWinter_7 : decode cX6_passWinter 7 = .ok (.istore_n 1, 1) := by decide +kernel
theorem dX6_passWinter_8 : decode cX6_passWinter 8 = .ok (.iconst 0, 1) := by decide +kernel
theorem dX6_passWinter_9 : decode cX6_passWinter 9 = .ok (.istore_n 2, 1) := by decide +kernel
theorem dX6_passWinter_10 : decode cX6_passWinter 10 = .ok (.iload_n 2, 1) := by decide +kernel
theorem dX6_passWinter_11 : decode cX6_passWinter 11 = .ok (.aload_n 0, 1) := by decide +kernel
theorem dX6_passWinter_12 : decode cX6_passWinter 12 = .ok (.getfield 18, 3) := by decide +kernel
theorem dX6_passWinter_15 : decode cX6_passWinter 15 = .ok (.if_icmp .ge 22, 3) := by decide +kernel
theorem dX6_passWinter_18 : decode cX6_passWinter 18 = .ok (.aload_n 0, 1) := by decide +kernel
theorem dX6_passWinter_19 : decode cX6_passWinter 19 = .ok (.iload_n 2, 1) := by decide +kernel
theorem dX6_passWinter_20 : decode cX6_passWinter 20 = .ok (.invokevirtual 51, 3) := by decide +kernel
theorem dX6_passWinter_23 : decode cX6_passWinter 23 = .ok (.ifCond .eq 8, 3) := by decide +kernel
theorem dX6_passWinter_26 : decode cX6_passWinter 26 = .ok (.aload_n 0, 1) := by decide +kernel
theorem dX6_passWinter_27 : decode cX6_passWinter 27 = .ok (.iload_n 2, 1) := by decide +kernel
theorem dX6_passWinter_28 : decode cX6_passWinter 28 = .ok (.invokevirtual 71, 3) := by decide +kernel
theorem dX6_passWinter_31 : decode cX6_passWinter 31 = .ok (.iinc 2 1, 3) := by decide +kernel
theorem dX6_passWinter_34 : decode cX6_passWinter 34 = .ok (.goto (-24), 3) := by decide +kernel
theorem dX6_passWinter_37 : decode cX6_passWinter 37 = .ok (.aload_n 0, 1) := by decide +kernel
theorem dX6_passWinter_38 : decode cX6_passWinter 38 = .ok (.dup, 1) := by decide +kernel
theorem dX6_passWinter_39 : decode cX6_passWinter 39 = .ok (.getfield 22, 3) := by decide +kernel
theorem dX6_passWinter_42 : decode cX6_passWinter 42 = .ok (.iconst 1, 1) := by decide +kernel
theorem dX6_passWinter_43 : decode cX6_passWinter 43 = .ok (.iadd, 1) := by decide +kernel
theorem dX6_passWinter_44 : decode cX6_passWinter 44 = .ok (.putfield 22, 3) := by decide +kernel
theorem dX6_passWinter_47 : decode cX6_passWinter 47 = .ok (.iload_n 1, 1) := by decide +kernel
theorem dX6_passWinter_48 : decode cX6_passWinter 48 = .ok (.aload_n 0, 1) := by decide +kernel
theorem dX6_passWinter_49 : decode cX6_passWinter 49 = .ok (.invokevirtual 61, 3) := by decide +kernel
theorem dX6_passWinter_52 : decode cX6_passWinter 52 = .ok (.invokestatic 65, 3) := by decide +kernel
theorem dX6_passWinter_55 : decode cX6_passWinter 55 = .ok (.isub, 1) := by decide +kernel
theorem dX6_passWinter_56 : decode cX6_passWinter 56 = .ok (.ireturn, 1) := by decide +kernel
theorem dX6_winterOf_0 : decode cX6_winterOf 0 = .ok (.aload_n 0, 1) := by decide +kernel
theorem dX6_winterOf_1 : decode cX6_winterOf 1 = .ok (.getfield 11, 3) := by decide +kernel
theorem dX6_winterOf_4 : decode cX6_winterOf 4 = .ok (.iload_n 1, 1) := by decide +kernel
theorem dX6_winterOf_5 : decode cX6_winterOf 5 = .ok (.aaload, 1) := by decide +kernel
theorem dX6_winterOf_6 : decode cX6_winterOf 6 = .ok (.astore_n 2, 1) := by decide +kernel
theorem dX6_winterOf_7 : decode cX6_winterOf 7 = .ok (.aload_n 2, 1) := by decide +kernel
theorem dX6_winterOf_8 : decode cX6_winterOf 8 = .ok (.getfield 32, 3) := by decide +kernel
theorem dX6_winterOf_11 : decode cX6_winterOf 11 = .ok (.iconst 3, 1) := by decide +kernel
theorem dX6_winterOf_12 : decode cX6_winterOf 12 = .ok (.if_icmp .ne 11, 3) := by decide +kernel
theorem dX6_winterOf_15 : decode cX6_winterOf 15 = .ok (.aload_n 0, 1) := by decide +kernel
theorem dX6_winterOf_16 : decode cX6_winterOf 16 = .ok (.iload_n 1, 1) := by decide +kernel
theorem dX6_winterOf_17 : decode cX6_winterOf 17 = .ok (.invokevirtual 74, 3) := by decide +kernel
theorem dX6_winterOf_20 : decode cX6_winterOf 20 = .ok (.goto 52, 3) := by decide +kernel
theorem dX6_winterOf_23 : decode cX6_winterOf 23 = .ok (.aload_n 2, 1) := by decide +kernel
theorem dX6_winterOf_24 : decode cX6_winterOf 24 = .ok (.getfield 32, 3) := by decide +kernel
theorem dX6_winterOf_27 : decode cX6_winterOf 27 = .ok (.ifCond .eq 11, 3) := by decide +kernel
theorem dX6_winterOf_30 : decode cX6_winterOf 30 = .ok (.aload_n 2, 1) := by decide +kernel
theorem dX6_winterOf_31 : decode cX6_winterOf 31 = .ok (.getfield 32, 3) := by decide +kernel
theorem dX6_winterOf_34 : decode cX6_winterOf 34 = .ok (.iconst 1, 1) := by decide +kernel
theorem dX6_winterOf_35 : decode cX6_winterOf 35 = .ok (.if_icmp .ne 37, 3) := by decide +kernel
theorem dX6_winterOf_38 : decode cX6_winterOf 38 = .ok (.aload_n 0, 1) := by decide +kernel
theorem dX6_winterOf_39 : decode cX6_winterOf 39 = .ok (.aload_n 2, 1) := by decide +kernel
theorem dX6_winterOf_40 : decode cX6_winterOf 40 = .ok (.getfield 29, 3) := by decide +kernel
theorem dX6_winterOf_43 : decode cX6_winterOf 43 = .ok (.invokevirtual 77, 3) := by decide +kernel
theorem dX6_winterOf_46 : decode cX6_winterOf 46 = .ok (.iconst 3, 1) := by decide +kernel
theorem dX6_winterOf_47 : decode cX6_winterOf 47 = .ok (.if_icmp .lt 25, 3) := by decide +kernel
theorem dX6_winterOf_50 : decode cX6_winterOf 50 = .ok (.aload_n 2, 1) := by decide +kernel
theorem dX6_winterOf_51 : decode cX6_winterOf 51 = .ok (.getfield 35, 3) := by decide +kernel
theorem dX6_winterOf_54 : decode cX6_winterOf 54 = .ok (.invokevirtual 80, 3) := by decide +kernel
theorem dX6_winterOf_57 : decode cX6_winterOf 57 = .ok (.aload_n 2, 1) := by decide +kernel
theorem dX6_winterOf_58 : decode cX6_winterOf 58 = .ok (.getfield 32, 3) := by decide +kernel
theorem dX6_winterOf_61 : decode cX6_winterOf 61 = .ok (.iconst 1, 1) := by decide +kernel
theorem dX6_winterOf_62 : decode cX6_winterOf 62 = .ok (.if_icmp .ne 10, 3) := by decide +kernel
theorem dX6_winterOf_65 : decode cX6_winterOf 65 = .ok (.aload_n 2, 1) := by decide +kernel
theorem dX6_winterOf_66 : decode cX6_winterOf 66 = .ok (.getfield 35, 3) := by decide +kernel
theorem dX6_winterOf_69 : decode cX6_winterOf 69 = .ok (.invokevirtual 83, 3) := by decide +kernel
theorem dX6_winterOf_72 : decode cX6_winterOf 72 = .ok (.return_, 1) := by decide +kernel
theorem dX6_floodFrom_0 : decode cX6_floodFrom 0 = .ok (.iconst 0, 1) := by decide +kernel
theorem dX6_floodFrom_1 : decode cX6_floodFrom 1 = .ok (.istore_n 2, 1) := by decide +kernel
theorem dX6_floodFrom_2 : decode cX6_floodFrom 2 = .ok (.iload_n 2, 1) := by decide +kernel
theorem dX6_floodFrom_3 : decode cX6_floodFrom 3 = .ok (.aload_n 0, 1) := by decide +kernel
theorem dX6_floodFrom_4 : decode cX6_floodFrom 4 = .ok (.getfield 18, 3) := by decide +kernel
theorem dX6_floodFrom_7 : decode cX6_floodFrom 7 = .ok (.if_icmp .ge 47, 3) := by decide +kernel
theorem dX6_floodFrom_10 : decode cX6_floodFrom 10 = .ok (.iload_n 2, 1) := by decide +kernel
theorem dX6_floodFrom_11 : decode cX6_floodFrom 11 = .ok (.iload_n 1, 1) := by decide +kernel
theorem dX6_floodFrom_12 : decode cX6_floodFrom 12 = .ok (.if_icmp .eq 36, 3) := by decide +kernel
end
section
theorem dX6_floodFrom_15 : decode cX6_floodFrom 15 = .ok (.aload_n 0, 1) := by decide +kernel
theorem dX6_floodFrom_16 : decode cX6_floodFrom 16 = .ok (.getfield 11, 3) := by decide +kernel
theorem dX6_floodFrom_19 : decode cX6_floodFrom 19 = .ok (.iload_n 2, 1) := by decide +kernel
theorem dX6_floodFrom_20 : decode cX6_floodFrom 20 = .ok (.aaload, 1) := by decide +kernel
theorem dX6_floodFrom_21 : decode cX6_floodFrom 21 = .ok (.getfield 29, 3) := by decide +kernel
theorem dX6_floodFrom_24 : decode cX6_floodFrom 24 = .ok (.aload_n 0, 1) := by decide +kernel
theorem dX6_floodFrom_25 : decode cX6_floodFrom 25 = .ok (.getfield 11, 3) := by decide +kernel
theorem dX6_floodFrom_28 : decode cX6_floodFrom 28 = .ok (.iload_n 1, 1) := by decide +kernel
theorem dX6_floodFrom_29 : decode cX6_floodFrom 29 = .ok (.aaload, 1) := by decide +kernel
theorem dX6_floodFrom_30 : decode cX6_floodFrom 30 = .ok (.getfield 29, 3) := by decide +kernel
theorem dX6_floodFrom_33 : decode cX6_floodFrom 33 = .ok (.if_icmp .ne 15, 3) := by decide +kernel
theorem dX6_floodFrom_36 : decode cX6_floodFrom 36 = .ok (.aload_n 0, 1) := by decide +kernel
theorem dX6_floodFrom_37 : decode cX6_floodFrom 37 = .ok (.getfield 11, 3) := by decide +kernel
theorem dX6_floodFrom_40 : decode cX6_floodFrom 40 = .ok (.iload_n 2, 1) := by decide +kernel
theorem dX6_floodFrom_41 : decode cX6_floodFrom 41 = .ok (.aaload, 1) := by decide +kernel
theorem dX6_floodFrom_42 : decode cX6_floodFrom 42 = .ok (.getfield 35, 3) := by decide +kernel
theorem dX6_floodFrom_45 : decode cX6_floodFrom 45 = .ok (.invokevirtual 83, 3) := by decide +kernel
theorem dX6_floodFrom_48 : decode cX6_floodFrom 48 = .ok (.iinc 2 1, 3) := by decide +kernel
theorem dX6_floodFrom_51 : decode cX6_floodFrom 51 = .ok (.goto (-49), 3) := by decide +kernel
theorem dX6_floodFrom_54 : decode cX6_floodFrom 54 = .ok (.return_, 1) := by decide +kernel
theorem dX6_hangIn_0 : decode cX6_hangIn 0 = .ok (.aload_n 0, 1) := by decide +kernel
theorem dX6_hangIn_1 : decode cX6_hangIn 1 = .ok (.iload_n 1, 1) := by decide +kernel
theorem dX6_hangIn_2 : decode cX6_hangIn 2 = .ok (.invokevirtual 51, 3) := by decide +kernel
theorem dX6_hangIn_5 : decode cX6_hangIn 5 = .ok (.ifCond .eq 12, 3) := by decide +kernel
theorem dX6_hangIn_8 : decode cX6_hangIn 8 = .ok (.iload_n 2, 1) := by decide +kernel
theorem dX6_hangIn_9 : decode cX6_hangIn 9 = .ok (.ifCond .lt 8, 3) := by decide +kernel
theorem dX6_hangIn_12 : decode cX6_hangIn 12 = .ok (.iload_n 2, 1) := by decide +kernel
theorem dX6_hangIn_13 : decode cX6_hangIn 13 = .ok (.iconst 4, 1) := by decide +kernel
theorem dX6_hangIn_14 : decode cX6_hangIn 14 = .ok (.if_icmp .lt 5, 3) := by decide +kernel
theorem dX6_hangIn_17 : decode cX6_hangIn 17 = .ok (.iconst (-1), 1) := by decide +kernel
theorem dX6_hangIn_18 : decode cX6_hangIn 18 = .ok (.ireturn, 1) := by decide +kernel
theorem dX6_hangIn_19 : decode cX6_hangIn 19 = .ok (.aload_n 0, 1) := by decide +kernel
theorem dX6_hangIn_20 : decode cX6_hangIn 20 = .ok (.getfield 11, 3) := by decide +kernel
theorem dX6_hangIn_23 : decode cX6_hangIn 23 = .ok (.iload_n 1, 1) := by decide +kernel
theorem dX6_hangIn_24 : decode cX6_hangIn 24 = .ok (.aaload, 1) := by decide +kernel
theorem dX6_hangIn_25 : decode cX6_hangIn 25 = .ok (.getfield 29, 3) := by decide +kernel
theorem dX6_hangIn_28 : decode cX6_hangIn 28 = .ok (.iload_n 2, 1) := by decide +kernel
theorem dX6_hangIn_29 : decode cX6_hangIn 29 = .ok (.if_icmp .ne 6, 3) := by decide +kernel
theorem dX6_hangIn_32 : decode cX6_hangIn 32 = .ok (.bipush (-3), 2) := by decide +kernel
theorem dX6_hangIn_34 : decode cX6_hangIn 34 = .ok (.ireturn, 1) := by decide +kernel
theorem dX6_hangIn_35 : decode cX6_hangIn 35 = .ok (.aload_n 0, 1) := by decide +kernel
theorem dX6_hangIn_36 : decode cX6_hangIn 36 = .ok (.getfield 11, 3) := by decide +kernel
theorem dX6_hangIn_39 : decode cX6_hangIn 39 = .ok (.iload_n 1, 1) := by decide +kernel
theorem dX6_hangIn_40 : decode cX6_hangIn 40 = .ok (.aaload, 1) := by decide +kernel
theorem dX6_hangIn_41 : decode cX6_hangIn 41 = .ok (.iload_n 2, 1) := by decide +kernel
theorem dX6_hangIn_42 : decode cX6_hangIn 42 = .ok (.putfield 29, 3) := by decide +kernel
theorem dX6_hangIn_45 : decode cX6_hangIn 45 = .ok (.aload_n 0, 1) := by decide +kernel
theorem dX6_hangIn_46 : decode cX6_hangIn 46 = .ok (.iload_n 2, 1) := by decide +kernel
theorem dX6_hangIn_47 : decode cX6_hangIn 47 = .ok (.invokevirtual 77, 3) := by decide +kernel
theorem dX6_hangIn_50 : decode cX6_hangIn 50 = .ok (.ireturn, 1) := by decide +kernel
theorem dX6_turnAbout_0 : decode cX6_turnAbout 0 = .ok (.aload_n 0, 1) := by decide +kernel
theorem dX6_turnAbout_1 : decode cX6_turnAbout 1 = .ok (.iload_n 1, 1) := by decide +kernel
theorem dX6_turnAbout_2 : decode cX6_turnAbout 2 = .ok (.invokevirtual 51, 3) := by decide +kernel
theorem dX6_turnAbout_5 : decode cX6_turnAbout 5 = .ok (.ifCond .ne 5, 3) := by decide +kernel
theorem dX6_turnAbout_8 : decode cX6_turnAbout 8 = .ok (.iconst (-1), 1) := by decide +kernel
theorem dX6_turnAbout_9 : decode cX6_turnAbout 9 = .ok (.ireturn, 1) := by decide +kernel
theorem dX6_turnAbout_10 : decode cX6_turnAbout 10 = .ok (.aload_n 0, 1) := by decide +kernel
theorem dX6_turnAbout_11 : decode cX6_turnAbout 11 = .ok (.getfield 11, 3) := by decide +kernel
theorem dX6_turnAbout_14 : decode cX6_turnAbout 14 = .ok (.iload_n 1, 1) := by decide +kernel
theorem dX6_turnAbout_15 : decode cX6_turnAbout 15 = .ok (.aaload, 1) := by decide +kernel
theorem dX6_turnAbout_16 : decode cX6_turnAbout 16 = .ok (.getfield 35, 3) := by decide +kernel
theorem dX6_turnAbout_19 : decode cX6_turnAbout 19 = .ok (.invokevirtual 86, 3) := by decide +kernel
theorem dX6_turnAbout_22 : decode cX6_turnAbout 22 = .ok (.aload_n 0, 1) := by decide +kernel
theorem dX6_turnAbout_23 : decode cX6_turnAbout 23 = .ok (.getfield 11, 3) := by decide +kernel
theorem dX6_turnAbout_26 : decode cX6_turnAbout 26 = .ok (.iload_n 1, 1) := by decide +kernel
theorem dX6_turnAbout_27 : decode cX6_turnAbout 27 = .ok (.aaload, 1) := by decide +kernel
theorem dX6_turnAbout_28 : decode cX6_turnAbout 28 = .ok (.getfield 35, 3) := by decide +kernel
theorem dX6_turnAbout_31 : decode cX6_turnAbout 31 = .ok (.getfield 89, 3) := by decide +kernel
theorem dX6_turnAbout_34 : decode cX6_turnAbout 34 = .ok (.iconst 0, 1) := by decide +kernel
theorem dX6_turnAbout_35 : decode cX6_turnAbout 35 = .ok (.iaload, 1) := by decide +kernel
theorem dX6_turnAbout_36 : decode cX6_turnAbout 36 = .ok (.ireturn, 1) := by decide +kernel
theorem dX6_snipEnd_0 : decode cX6_snipEnd 0 = .ok (.aload_n 0, 1) := by decide +kernel
theorem dX6_snipEnd_1 : decode cX6_snipEnd 1 = .ok (.iload_n 1, 1) := by decide +kernel
theorem dX6_snipEnd_2 : decode cX6_snipEnd 2 = .ok (.invokevirtual 51, 3) := by decide +kernel
theorem dX6_snipEnd_5 : decode cX6_snipEnd 5 = .ok (.ifCond .ne 5, 3) := by decide +kernel
theorem dX6_snipEnd_8 : decode cX6_snipEnd 8 = .ok (.iconst (-1), 1) := by decide +kernel
theorem dX6_snipEnd_9 : decode cX6_snipEnd 9 = .ok (.ireturn, 1) := by decide +kernel
theorem dX6_snipEnd_10 : decode cX6_snipEnd 10 = .ok (.aload_n 0, 1) := by decide +kernel
theorem dX6_snipEnd_11 : decode cX6_snipEnd 11 = .ok (.getfield 11, 3) := by decide +kernel
theorem dX6_snipEnd_14 : decode cX6_snipEnd 14 = .ok (.iload_n 1, 1) := by decide +kernel
theorem dX6_snipEnd_15 : decode cX6_snipEnd 15 = .ok (.aaload, 1) := by decide +kernel
theorem dX6_snipEnd_16 : decode cX6_snipEnd 16 = .ok (.getfield 35, 3) := by decide +kernel
theorem dX6_snipEnd_19 : decode cX6_snipEnd 19 = .ok (.astore_n 2, 1) := by decide +kernel
theorem dX6_snipEnd_20 : decode cX6_snipEnd 20 = .ok (.aload_n 2, 1) := by decide +kernel
theorem dX6_snipEnd_21 : decode cX6_snipEnd 21 = .ok (.getfield 48, 3) := by decide +kernel
theorem dX6_snipEnd_24 : decode cX6_snipEnd 24 = .ok (.iconst 2, 1) := by decide +kernel
theorem dX6_snipEnd_25 : decode cX6_snipEnd 25 = .ok (.if_icmp .ge 6, 3) := by decide +kernel
theorem dX6_snipEnd_28 : decode cX6_snipEnd 28 = .ok (.bipush (-3), 2) := by decide +kernel
theorem dX6_snipEnd_30 : decode cX6_snipEnd 30 = .ok (.ireturn, 1) := by decide +kernel
theorem dX6_snipEnd_31 : decode cX6_snipEnd 31 = .ok (.aload_n 2, 1) := by decide +kernel
theorem dX6_snipEnd_32 : decode cX6_snipEnd 32 = .ok (.invokevirtual 80, 3) := by decide +kernel
theorem dX6_snipEnd_35 : decode cX6_snipEnd 35 = .ok (.aload_n 2, 1) := by decide +kernel
theorem dX6_snipEnd_36 : decode cX6_snipEnd 36 = .ok (.getfield 89, 3) := by decide +kernel
theorem dX6_snipEnd_39 : decode cX6_snipEnd 39 = .ok (.aload_n 2, 1) := by decide +kernel
theorem dX6_snipEnd_40 : decode cX6_snipEnd 40 = .ok (.getfield 48, 3) := by decide +kernel
theorem dX6_snipEnd_43 : decode cX6_snipEnd 43 = .ok (.iaload, 1) := by decide +kernel
theorem dX6_snipEnd_44 : decode cX6_snipEnd 44 = .ok (.ireturn, 1) := by decide +kernel
theorem dX6_joinTo_0 : decode cX6_joinTo 0 = .ok (.aload_n 0, 1) := by decide +kernel
theorem dX6_joinTo_1 : decode cX6_joinTo 1 = .ok (.iload_n 1, 1) := by decide +kernel
theorem dX6_joinTo_2 : decode cX6_joinTo 2 = .ok (.invokevirtual 51, 3) := by decide +kernel
theorem dX6_joinTo_5 : decode cX6_joinTo 5 = .ok (.ifCond .eq 11, 3) := by decide +kernel
theorem dX6_joinTo_8 : decode cX6_joinTo 8 = .ok (.aload_n 0, 1) := by decide +kernel
theorem dX6_joinTo_9 : decode cX6_joinTo 9 = .ok (.iload_n 2, 1) := by decide +kernel
theorem dX6_joinTo_10 : decode cX6_joinTo 10 = .ok (.invokevirtual 51, 3) := by decide +kernel
theorem dX6_joinTo_13 : decode cX6_joinTo 13 = .ok (.ifCond .ne 5, 3) := by decide +kernel
theorem dX6_joinTo_16 : decode cX6_joinTo 16 = .ok (.iconst (-1), 1) := by decide +kernel
theorem dX6_joinTo_17 : decode cX6_joinTo 17 = .ok (.ireturn, 1) := by decide +kernel
theorem dX6_joinTo_18 : decode cX6_joinTo 18 = .ok (.iload_n 1, 1) := by decide +kernel
theorem dX6_joinTo_19 : decode cX6_joinTo 19 = .ok (.iload_n 2, 1) := by decide +kernel
theorem dX6_joinTo_20 : decode cX6_joinTo 20 = .ok (.if_icmp .ne 6, 3) := by decide +kernel
theorem dX6_joinTo_23 : decode cX6_joinTo 23 = .ok (.bipush (-2), 2) := by decide +kernel
theorem dX6_joinTo_25 : decode cX6_joinTo 25 = .ok (.ireturn, 1) := by decide +kernel
theorem dX6_joinTo_26 : decode cX6_joinTo 26 = .ok (.aload_n 0, 1) := by decide +kernel
theorem dX6_joinTo_27 : decode cX6_joinTo 27 = .ok (.getfield 11, 3) := by decide +kernel
theorem dX6_joinTo_30 : decode cX6_joinTo 30 = .ok (.iload_n 1, 1) := by decide +kernel
theorem dX6_joinTo_31 : decode cX6_joinTo 31 = .ok (.aaload, 1) := by decide +kernel
theorem dX6_joinTo_32 : decode cX6_joinTo 32 = .ok (.getfield 29, 3) := by decide +kernel
theorem dX6_joinTo_35 : decode cX6_joinTo 35 = .ok (.aload_n 0, 1) := by decide +kernel
theorem dX6_joinTo_36 : decode cX6_joinTo 36 = .ok (.getfield 11, 3) := by decide +kernel
theorem dX6_joinTo_39 : decode cX6_joinTo 39 = .ok (.iload_n 2, 1) := by decide +kernel
theorem dX6_joinTo_40 : decode cX6_joinTo 40 = .ok (.aaload, 1) := by decide +kernel
theorem dX6_joinTo_41 : decode cX6_joinTo 41 = .ok (.getfield 29, 3) := by decide +kernel
theorem dX6_joinTo_44 : decode cX6_joinTo 44 = .ok (.if_icmp .eq 6, 3) := by decide +kernel
theorem dX6_joinTo_47 : decode cX6_joinTo 47 = .ok (.bipush (-3), 2) := by decide +kernel
theorem dX6_joinTo_49 : decode cX6_joinTo 49 = .ok (.ireturn, 1) := by decide +kernel
theorem dX6_joinTo_50 : decode cX6_joinTo 50 = .ok (.aload_n 0, 1) := by decide +kernel
theorem dX6_joinTo_51 : decode cX6_joinTo 51 = .ok (.getfield 11, 3) := by decide +kernel
theorem dX6_joinTo_54 : decode cX6_joinTo 54 = .ok (.iload_n 1, 1) := by decide +kernel
theorem dX6_joinTo_55 : decode cX6_joinTo 55 = .ok (.aaload, 1) := by decide +kernel
theorem dX6_joinTo_56 : decode cX6_joinTo 56 = .ok (.getfield 35, 3) := by decide +kernel
theorem dX6_joinTo_59 : decode cX6_joinTo 59 = .ok (.astore_n 3, 1) := by decide +kernel
theorem dX6_joinTo_60 : decode cX6_joinTo 60 = .ok (.aload_n 0, 1) := by decide +kernel
theorem dX6_joinTo_61 : decode cX6_joinTo 61 = .ok (.getfield 11, 3) := by decide +kernel
theorem dX6_joinTo_64 : decode cX6_joinTo 64 = .ok (.iload_n 2, 1) := by decide +kernel
theorem dX6_joinTo_65 : decode cX6_joinTo 65 = .ok (.aaload, 1) := by decide +kernel
theorem dX6_joinTo_66 : decode cX6_joinTo 66 = .ok (.getfield 35, 3) := by decide +kernel
theorem dX6_joinTo_69 : decode cX6_joinTo 69 = .ok (.astore 4, 2) := by decide +kernel
theorem dX6_joinTo_71 : decode cX6_joinTo 71 = .ok (.aload_n 3, 1) := by decide +kernel
theorem dX6_joinTo_72 : decode cX6_joinTo 72 = .ok (.getfield 48, 3) := by decide +kernel
theorem dX6_joinTo_75 : decode cX6_joinTo 75 = .ok (.aload 4, 2) := by decide +kernel
theorem dX6_joinTo_77 : decode cX6_joinTo 77 = .ok (.getfield 48, 3) := by decide +kernel
theorem dX6_joinTo_80 : decode cX6_joinTo 80 = .ok (.iadd, 1) := by decide +kernel
theorem dX6_joinTo_81 : decode cX6_joinTo 81 = .ok (.aload_n 3, 1) := by decide +kernel
theorem dX6_joinTo_82 : decode cX6_joinTo 82 = .ok (.aload 4, 2) := by decide +kernel
theorem dX6_joinTo_84 : decode cX6_joinTo 84 = .ok (.invokevirtual 93, 3) := by decide +kernel
theorem dX6_joinTo_87 : decode cX6_joinTo 87 = .ok (.isub, 1) := by decide +kernel
theorem dX6_joinTo_88 : decode cX6_joinTo 88 = .ok (.bipush 12, 2) := by decide +kernel
theorem dX6_joinTo_90 : decode cX6_joinTo 90 = .ok (.if_icmp .le 6, 3) := by decide +kernel
theorem dX6_joinTo_93 : decode cX6_joinTo 93 = .ok (.bipush (-4), 2) := by decide +kernel
theorem dX6_joinTo_95 : decode cX6_joinTo 95 = .ok (.ireturn, 1) := by decide +kernel
theorem dX6_joinTo_96 : decode cX6_joinTo 96 = .ok (.aload_n 3, 1) := by decide +kernel
theorem dX6_joinTo_97 : decode cX6_joinTo 97 = .ok (.aload 4, 2) := by decide +kernel
theorem dX6_joinTo_99 : decode cX6_joinTo 99 = .ok (.invokevirtual 97, 3) := by decide +kernel
theorem dX6_joinTo_102 : decode cX6_joinTo 102 = .ok (.aload 4, 2) := by decide +kernel
theorem dX6_joinTo_104 : decode cX6_joinTo 104 = .ok (.invokevirtual 39, 3) := by decide +kernel
theorem dX6_joinTo_107 : decode cX6_joinTo 107 = .ok (.aload_n 3, 1) := by decide +kernel
theorem dX6_joinTo_108 : decode cX6_joinTo 108 = .ok (.getfield 48, 3) := by decide +kernel
theorem dX6_joinTo_111 : decode cX6_joinTo 111 = .ok (.ireturn, 1) := by decide +kernel
theorem dX7_init_0 : decode cX7_init 0 = .ok (.aload_n 0, 1) := by decide +kernel
theorem dX7_init_1 : decode cX7_init 1 = .ok (.invokespecial 1, 3) := by decide +kernel
theorem dX7_init_4 : decode cX7_init 4 = .ok (.aload_n 0, 1) := by decide +kernel
theorem dX7_init_5 : decode cX7_init 5 = .ok (.new 7, 3) := by decide +kernel
theorem dX7_init_8 : decode cX7_init 8 = .ok (.dup, 1) := by decide +kernel
theorem dX7_init_9 : decode cX7_init 9 = .ok (.invokespecial 9, 3) := by decide +kernel
theorem dX7_init_12 : decode cX7_init 12 = .ok (.putfield 10, 3) := by decide +kernel
theorem dX7_init_15 : decode cX7_init 15 = .ok (.aload_n 0, 1) := by decide +kernel
theorem dX7_init_16 : decode cX7_init 16 = .ok (.new 16, 3) := by decide +kernel
theorem dX7_init_19 : decode cX7_init 19 = .ok (.dup, 1) := by decide +kernel
theorem dX7_init_20 : decode cX7_init 20 = .ok (.invokespecial 18, 3) := by decide +kernel
theorem dX7_init_23 : decode cX7_init 23 = .ok (.putfield 19, 3) := by decide +kernel
theorem dX7_init_26 : decode cX7_init 26 = .ok (.aload_n 0, 1) := by decide +kernel
theorem dX7_init_27 : decode cX7_init 27 = .ok (.new 16, 3) := by decide +kernel
theorem dX7_init_30 : decode cX7_init 30 = .ok (.dup, 1) := by decide +kernel
theorem dX7_init_31 : decode cX7_init 31 = .ok (.invokespecial 18, 3) := by decide +kernel
theorem dX7_init_34 : decode cX7_init 34 = .ok (.putfield 23, 3) := by decide +kernel
theorem dX7_init_37 : decode cX7_init 37 = .ok (.aload_n 0, 1) := by decide +kernel
theorem dX7_init_38 : decode cX7_init 38 = .ok (.new 26, 3) := by decide +kernel
theorem dX7_init_41 : decode cX7_init 41 = .ok (.dup, 1) := by decide +kernel
theorem dX7_init_42 : decode cX7_init 42 = .ok (.invokespecial 28, 3) := by decide +kernel
theorem dX7_init_45 : decode cX7_init 45 = .ok (.putfield 29, 3) := by decide +kernel
theorem dX7_init_48 : decode cX7_init 48 = .ok (.aload_n 0, 1) := by decide +kernel
theorem dX7_init_49 : decode cX7_init 49 = .ok (.new 33, 3) := by decide +kernel
theorem dX7_init_52 : decode cX7_init 52 = .ok (.dup, 1) := by decide +kernel
theorem dX7_init_53 : decode cX7_init 53 = .ok (.invokespecial 35, 3) := by decide +kernel
theorem dX7_init_56 : decode cX7_init 56 = .ok (.putfield 36, 3) := by decide +kernel
theorem dX7_init_59 : decode cX7_init 59 = .ok (.aload_n 0, 1) := by decide +kernel
theorem dX7_init_60 : decode cX7_init 60 = .ok (.new 40, 3) := by decide +kernel
theorem dX7_init_63 : decode cX7_init 63 = .ok (.dup, 1) := by decide +kernel
theorem dX7_init_64 : decode cX7_init 64 = .ok (.invokespecial 42, 3) := by decide +kernel
theorem dX7_init_67 : decode cX7_init 67 = .ok (.putfield 43, 3) := by decide +kernel
theorem dX7_init_70 : decode cX7_init 70 = .ok (.aload_n 0, 1) := by decide +kernel
theorem dX7_init_71 : decode cX7_init 71 = .ok (.new 47, 3) := by decide +kernel
theorem dX7_init_74 : decode cX7_init 74 = .ok (.dup, 1) := by decide +kernel
theorem dX7_init_75 : decode cX7_init 75 = .ok (.bipush 12, 2) := by decide +kernel
theorem dX7_init_77 : decode cX7_init 77 = .ok (.invokespecial 49, 3) := by decide +kernel
theorem dX7_init_80 : decode cX7_init 80 = .ok (.putfield 52, 3) := by decide +kernel
theorem dX7_init_83 : decode cX7_init 83 = .ok (.aload_n 0, 1) := by decide +kernel
theorem dX7_init_84 : decode cX7_init 84 = .ok (.new 47, 3) := by decide +kernel
theorem dX7_init_87 : decode cX7_init 87 = .ok (.dup, 1) := by decide +kernel
theorem dX7_init_88 : decode cX7_init 88 = .ok (.bipush 48, 2) := by decide +kernel
theorem dX7_init_90 : decode cX7_init 90 = .ok (.invokespecial 49, 3) := by decide +kernel
theorem dX7_init_93 : decode cX7_init 93 = .ok (.putfield 56, 3) := by decide +kernel
theorem dX7_init_96 : decode cX7_init 96 = .ok (.aload_n 0, 1) := by decide +kernel
theorem dX7_init_97 : decode cX7_init 97 = .ok (.new 47, 3) := by decide +kernel
theorem dX7_init_100 : decode cX7_init 100 = .ok (.dup, 1) := by decide +kernel
theorem dX7_init_101 : decode cX7_init 101 = .ok (.bipush 12, 2) := by decide +kernel
theorem dX7_init_103 : decode cX7_init 103 = .ok (.invokespecial 49, 3) := by decide +kernel
theorem dX7_init_106 : decode cX7_init 106 = .ok (.putfield 59, 3) := by decide +kernel
theorem dX7_init_109 : decode cX7_init 109 = .ok (.aload_n 0, 1) := by decide +kernel
theorem dX7_init_110 : decode cX7_init 110 = .ok (.iconst 4, 1) := by decide +kernel
theorem dX7_init_111 : decode cX7_init 111 = .ok (.newarray .int, 2) := by decide +kernel
theorem dX7_init_113 : decode cX7_init 113 = .ok (.putfield 62, 3) := by decide +kernel
theorem dX7_init_116 : decode cX7_init 116 = .ok (.aload_n 0, 1) := by decide +kernel
theorem dX7_init_117 : decode cX7_init 117 = .ok (.bipush 16, 2) := by decide +kernel
theorem dX7_init_119 : decode cX7_init 119 = .ok (.newarray .int, 2) := by decide +kernel
theorem dX7_init_121 : decode cX7_init 121 = .ok (.putfield 66, 3) := by decide +kernel
theorem dX7_init_124 : decode cX7_init 124 = .ok (.aload_n 0, 1) := by decide +kernel
theorem dX7_init_125 : decode cX7_init 125 = .ok (.bipush 16, 2) := by decide +kernel
theorem dX7_init_127 : decode cX7_init 127 = .ok (.newarray .int, 2) := by decide +kernel
theorem dX7_init_129 : decode cX7_init 129 = .ok (.putfield 69, 3) := by decide +kernel
theorem dX7_init_132 : decode cX7_init 132 = .ok (.aload_n 0, 1) := by decide +kernel
theorem dX7_init_133 : decode cX7_init 133 = .ok (.lconst 0, 1) := by decide +kernel
theorem dX7_init_134 : decode cX7_init 134 = .ok (.putfield 72, 3) := by decide +kernel
theorem dX7_init_137 : decode cX7_init 137 = .ok (.return_, 1) := by decide +kernel
theorem dX7_write_0 : decode cX7_write 0 = .ok (.iload_n 1, 1) := by decide +kernel
theorem dX7_write_1 : decode cX7_write 1 = .ok (.ifCond .lt 10, 3) := by decide +kernel
theorem dX7_write_4 : decode cX7_write 4 = .ok (.iload_n 1, 1) := by decide +kernel
theorem dX7_write_5 : decode cX7_write 5 = .ok (.sipush 255, 3) := by decide +kernel
theorem dX7_write_8 : decode cX7_write 8 = .ok (.if_icmp .le 6, 3) := by decide +kernel
theorem dX7_write_11 : decode cX7_write 11 = .ok (.bipush (-2), 2) := by decide +kernel
theorem dX7_write_13 : decode cX7_write 13 = .ok (.ireturn, 1) := by decide +kernel
theorem dX7_write_14 : decode cX7_write 14 = .ok (.aload_n 0, 1) := by decide +kernel
theorem dX7_write_15 : decode cX7_write 15 = .ok (.getfield 10, 3) := by decide +kernel
theorem dX7_write_18 : decode cX7_write 18 = .ok (.iload_n 1, 1) := by decide +kernel
theorem dX7_write_19 : decode cX7_write 19 = .ok (.invokevirtual 76, 3) := by decide +kernel
theorem dX7_write_22 : decode cX7_write 22 = .ok (.ireturn, 1) := by decide +kernel
theorem dX7_wipe_0 : decode cX7_wipe 0 = .ok (.aload_n 0, 1) := by decide +kernel
theorem dX7_wipe_1 : decode cX7_wipe 1 = .ok (.getfield 10, 3) := by decide +kernel
theorem dX7_wipe_4 : decode cX7_wipe 4 = .ok (.invokevirtual 80, 3) := by decide +kernel
theorem dX7_wipe_7 : decode cX7_wipe 7 = .ok (.ireturn, 1) := by decide +kernel
theorem dX7_fault_0 : decode cX7_fault 0 = .ok (.aload_n 0, 1) := by decide +kernel
theorem dX7_fault_1 : decode cX7_fault 1 = .ok (.getfield 10, 3) := by decide +kernel
theorem dX7_fault_4 : decode cX7_fault 4 = .ok (.invokevirtual 84, 3) := by decide +kernel
theorem dX7_fault_7 : decode cX7_fault 7 = .ok (.ireturn, 1) := by decide +kernel
theorem dX7_valley_0 : decode cX7_valley 0 = .ok (.aload_n 0, 1) := by decide +kernel
theorem dX7_valley_1 : decode cX7_valley 1 = .ok (.getfield 10, 3) := by decide +kernel
theorem dX7_valley_4 : decode cX7_valley 4 = .ok (.invokevirtual 84, 3) := by decide +kernel
theorem dX7_valley_7 : decode cX7_valley 7 = .ok (.bipush (-9), 2) := by decide +kernel
theorem dX7_valley_9 : decode cX7_valley 9 = .ok (.if_icmp .eq 6, 3) := by decide +kernel
theorem dX7_valley_12 : decode cX7_valley 12 = .ok (.bipush (-3), 2) := by decide +kernel
theorem dX7_valley_14 : decode cX7_valley 14 = .ok (.ireturn, 1) := by decide +kernel
theorem dX7_valley_15 : decode cX7_valley 15 = .ok (.aload_n 0, 1) := by decide +kernel
theorem dX7_valley_16 : decode cX7_valley 16 = .ok (.getfield 10, 3) := by decide +kernel
theorem dX7_valley_19 : decode cX7_valley 19 = .ok (.aload_n 0, 1) := by decide +kernel
theorem dX7_valley_20 : decode cX7_valley 20 = .ok (.getfield 19, 3) := by decide +kernel
theorem dX7_valley_23 : decode cX7_valley 23 = .ok (.invokevirtual 87, 3) := by decide +kernel
theorem dX7_valley_26 : decode cX7_valley 26 = .ok (.aload_n 0, 1) := by decide +kernel
theorem dX7_valley_27 : decode cX7_valley 27 = .ok (.getfield 29, 3) := by decide +kernel
theorem dX7_valley_30 : decode cX7_valley 30 = .ok (.invokevirtual 91, 3) := by decide +kernel
theorem dX7_valley_33 : decode cX7_valley 33 = .ok (.aload_n 0, 1) := by decide +kernel
theorem dX7_valley_34 : decode cX7_valley 34 = .ok (.getfield 36, 3) := by decide +kernel
theorem dX7_valley_37 : decode cX7_valley 37 = .ok (.invokevirtual 93, 3) := by decide +kernel
theorem dX7_valley_40 : decode cX7_valley 40 = .ok (.aload_n 0, 1) := by decide +kernel
theorem dX7_valley_41 : decode cX7_valley 41 = .ok (.getfield 19, 3) := by decide +kernel
theorem dX7_valley_44 : decode cX7_valley 44 = .ok (.getfield 94, 3) := by decide +kernel
theorem dX7_valley_47 : decode cX7_valley 47 = .ok (.ireturn, 1) := by decide +kernel
theorem dX7_bed_0 : decode cX7_bed 0 = .ok (.iload_n 1, 1) := by decide +kernel
theorem dX7_bed_1 : decode cX7_bed 1 = .ok (.ifCond .lt 17, 3) := by decide +kernel
theorem dX7_bed_4 : decode cX7_bed 4 = .ok (.iload_n 1, 1) := by decide +kernel
theorem dX7_bed_5 : decode cX7_bed 5 = .ok (.bipush 12, 2) := by decide +kernel
theorem dX7_bed_7 : decode cX7_bed 7 = .ok (.if_icmp .gt 11, 3) := by decide +kernel
theorem dX7_bed_10 : decode cX7_bed 10 = .ok (.iload_n 1, 1) := by decide +kernel
theorem dX7_bed_11 : decode cX7_bed 11 = .ok (.lload_n 2, 1) := by decide +kernel
theorem dX7_bed_12 : decode cX7_bed 12 = .ok (.invokestatic 98, 3) := by decide +kernel
theorem dX7_bed_15 : decode cX7_bed 15 = .ok (.ifCond .ne 6, 3) := by decide +kernel
theorem dX7_bed_18 : decode cX7_bed 18 = .ok (.bipush (-2), 2) := by decide +kernel
theorem dX7_bed_20 : decode cX7_bed 20 = .ok (.ireturn, 1) := by decide +kernel
theorem dX7_bed_21 : decode cX7_bed 21 = .ok (.aload_n 0, 1) := by decide +kernel
theorem dX7_bed_22 : decode cX7_bed 22 = .ok (.getfield 52, 3) := by decide +kernel
theorem dX7_bed_25 : decode cX7_bed 25 = .ok (.getfield 102, 3) := by decide +kernel
theorem dX7_bed_28 : decode cX7_bed 28 = .ok (.istore 4, 2) := by decide +kernel
theorem dX7_bed_30 : decode cX7_bed 30 = .ok (.aload_n 0, 1) := by decide +kernel
theorem dX7_bed_31 : decode cX7_bed 31 = .ok (.getfield 52, 3) := by decide +kernel
theorem dX7_bed_34 : decode cX7_bed 34 = .ok (.iload_n 1, 1) := by decide +kernel
theorem dX7_bed_35 : decode cX7_bed 35 = .ok (.lload_n 2, 1) := by decide +kernel
theorem dX7_bed_36 : decode cX7_bed 36 = .ok (.invokevirtual 105, 3) := by decide +kernel
theorem dX7_bed_39 : decode cX7_bed 39 = .ok (.iload 4, 2) := by decide +kernel
theorem dX7_bed_41 : decode cX7_bed 41 = .ok (.ireturn, 1) := by decide +kernel
theorem dX7_strand_0 : decode cX7_strand 0 = .ok (.aload_n 0, 1) := by decide +kernel
theorem dX7_strand_1 : decode cX7_strand 1 = .ok (.getfield 19, 3) := by decide +kernel
theorem dX7_strand_4 : decode cX7_strand 4 = .ok (.iload_n 1, 1) := by decide +kernel
theorem dX7_strand_5 : decode cX7_strand 5 = .ok (.invokevirtual 109, 3) := by decide +kernel
theorem dX7_strand_8 : decode cX7_strand 8 = .ok (.ifCond .ne 5, 3) := by decide +kernel
theorem dX7_strand_11 : decode cX7_strand 11 = .ok (.iconst (-1), 1) := by decide +kernel
theorem dX7_strand_12 : decode cX7_strand 12 = .ok (.ireturn, 1) := by decide +kernel
theorem dX7_strand_13 : decode cX7_strand 13 = .ok (.aload_n 0, 1) := by decide +kernel
theorem dX7_strand_14 : decode cX7_strand 14 = .ok (.getfield 19, 3) := by decide +kernel
theorem dX7_strand_17 : decode cX7_strand 17 = .ok (.getfield 113, 3) := by decide +kernel
theorem dX7_strand_20 : decode cX7_strand 20 = .ok (.iload_n 1, 1) := by decide +kernel
theorem dX7_strand_21 : decode cX7_strand 21 = .ok (.aaload, 1) := by decide +kernel
theorem dX7_strand_22 : decode cX7_strand 22 = .ok (.astore_n 3, 1) := by decide +kernel
theorem dX7_strand_23 : decode cX7_strand 23 = .ok (.iload_n 2, 1) := by decide +kernel
theorem dX7_strand_24 : decode cX7_strand 24 = .ok (.tableswitch 62 0 3 #[32, 37, 42, 50], 32) := by decide +kernel
theorem dX7_strand_56 : decode cX7_strand 56 = .ok (.aload_n 3, 1) := by decide +kernel
theorem dX7_strand_57 : decode cX7_strand 57 = .ok (.getfield 117, 3) := by decide +kernel
theorem dX7_strand_60 : decode cX7_strand 60 = .ok (.ireturn, 1) := by decide +kernel
theorem dX7_strand_61 : decode cX7_strand 61 = .ok (.aload_n 3, 1) := by decide +kernel
theorem dX7_strand_62 : decode cX7_strand 62 = .ok (.getfield 122, 3) := by decide +kernel
theorem dX7_strand_65 : decode cX7_strand 65 = .ok (.ireturn, 1) := by decide +kernel
theorem dX7_strand_66 : decode cX7_strand 66 = .ok (.aload_n 3, 1) := by decide +kernel
theorem dX7_strand_67 : decode cX7_strand 67 = .ok (.getfield 125, 3) := by decide +kernel
theorem dX7_strand_70 : decode cX7_strand 70 = .ok (.getfield 102, 3) := by decide +kernel
theorem dX7_strand_73 : decode cX7_strand 73 = .ok (.ireturn, 1) := by decide +kernel
theorem dX7_strand_74 : decode cX7_strand 74 = .ok (.aload_n 0, 1) := by decide +kernel
theorem dX7_strand_75 : decode cX7_strand 75 = .ok (.getfield 52, 3) := by decide +kernel
theorem dX7_strand_78 : decode cX7_strand 78 = .ok (.aload_n 3, 1) := by decide +kernel
theorem dX7_strand_79 : decode cX7_strand 79 = .ok (.getfield 125, 3) := by decide +kernel
theorem dX7_strand_82 : decode cX7_strand 82 = .ok (.invokevirtual 128, 3) := by decide +kernel
theorem dX7_strand_85 : decode cX7_strand 85 = .ok (.ireturn, 1) := by decide +kernel
theorem dX7_strand_86 : decode cX7_strand 86 = .ok (.bipush (-2), 2) := by decide +kernel
theorem dX7_strand_88 : decode cX7_strand 88 = .ok (.ireturn, 1) := by decide +kernel
theorem dX7_bends_0 : decode cX7_bends 0 = .ok (.aload_n 0, 1) := by decide +kernel
theorem dX7_bends_1 : decode cX7_bends 1 = .ok (.getfield 19, 3) := by decide +kernel
theorem dX7_bends_4 : decode cX7_bends 4 = .ok (.iload_n 1, 1) := by decide +kernel
theorem dX7_bends_5 : decode cX7_bends 5 = .ok (.invokevirtual 109, 3) := by decide +kernel
theorem dX7_bends_8 : decode cX7_bends 8 = .ok (.ifCond .eq 21, 3) := by decide +kernel
theorem dX7_bends_11 : decode cX7_bends 11 = .ok (.aload_n 0, 1) := by decide +kernel
theorem dX7_bends_12 : decode cX7_bends 12 = .ok (.getfield 19, 3) := by decide +kernel
theorem dX7_bends_15 : decode cX7_bends 15 = .ok (.getfield 113, 3) := by decide +kernel
theorem dX7_bends_18 : decode cX7_bends 18 = .ok (.iload_n 1, 1) := by decide +kernel
theorem dX7_bends_19 : decode cX7_bends 19 = .ok (.aaload, 1) := by decide +kernel
theorem dX7_bends_20 : decode cX7_bends 20 = .ok (.getfield 125, 3) := by decide +kernel
theorem dX7_bends_23 : decode cX7_bends 23 = .ok (.invokevirtual 132, 3) := by decide +kernel
theorem dX7_bends_26 : decode cX7_bends 26 = .ok (.goto 6, 3) := by decide +kernel
theorem dX7_bends_29 : decode cX7_bends 29 = .ok (.ldc2_w 136, 3) := by decide +kernel
theorem dX7_bends_32 : decode cX7_bends 32 = .ok (.lreturn, 1) := by decide +kernel
theorem dX7_isRowOfBends_0 : decode cX7_isRowOfBends 0 = .ok (.lload_n 1, 1) := by decide +kernel
theorem dX7_isRowOfBends_1 : decode cX7_isRowOfBends 1 = .ok (.lstore_n 3, 1) := by decide +kernel
theorem dX7_isRowOfBends_2 : decode cX7_isRowOfBends 2 = .ok (.iconst 0, 1) := by decide +kernel
theorem dX7_isRowOfBends_3 : decode cX7_isRowOfBends 3 = .ok (.istore 5, 2) := by decide +kernel
theorem dX7_isRowOfBends_5 : decode cX7_isRowOfBends 5 = .ok (.iload 5, 2) := by decide +kernel
theorem dX7_isRowOfBends_7 : decode cX7_isRowOfBends 7 = .ok (.iload_n 0, 1) := by decide +kernel
theorem dX7_isRowOfBends_8 : decode cX7_isRowOfBends 8 = .ok (.if_icmp .ge 40, 3) := by decide +kernel
theorem dX7_isRowOfBends_11 : decode cX7_isRowOfBends 11 = .ok (.lload_n 3, 1) := by decide +kernel
theorem dX7_isRowOfBends_12 : decode cX7_isRowOfBends 12 = .ok (.ldc2_w 138, 3) := by decide +kernel
theorem dX7_isRowOfBends_15 : decode cX7_isRowOfBends 15 = .ok (.lrem, 1) := by decide +kernel
theorem dX7_isRowOfBends_16 : decode cX7_isRowOfBends 16 = .ok (.lstore 6, 2) := by decide +kernel
theorem dX7_isRowOfBends_18 : decode cX7_isRowOfBends 18 = .ok (.lload 6, 2) := by decide +kernel
theorem dX7_isRowOfBends_20 : decode cX7_isRowOfBends 20 = .ok (.lconst 1, 1) := by decide +kernel
theorem dX7_isRowOfBends_21 : decode cX7_isRowOfBends 21 = .ok (.lcmp, 1) := by decide +kernel
theorem dX7_isRowOfBends_22 : decode cX7_isRowOfBends 22 = .ok (.ifCond .lt 12, 3) := by decide +kernel
theorem dX7_isRowOfBends_25 : decode cX7_isRowOfBends 25 = .ok (.lload 6, 2) := by decide +kernel
theorem dX7_isRowOfBends_27 : decode cX7_isRowOfBends 27 = .ok (.ldc2_w 140, 3) := by decide +kernel
theorem dX7_isRowOfBends_30 : decode cX7_isRowOfBends 30 = .ok (.lcmp, 1) := by decide +kernel
theorem dX7_isRowOfBends_31 : decode cX7_isRowOfBends 31 = .ok (.ifCond .le 5, 3) := by decide +kernel
theorem dX7_isRowOfBends_34 : decode cX7_isRowOfBends 34 = .ok (.iconst 0, 1) := by decide +kernel
theorem dX7_isRowOfBends_35 : decode cX7_isRowOfBends 35 = .ok (.ireturn, 1) := by decide +kernel
theorem dX7_isRowOfBends_36 : decode cX7_isRowOfBends 36 = .ok (.lload_n 3, 1) := by decide +kernel
theorem dX7_isRowOfBends_37 : decode cX7_isRowOfBends 37 = .ok (.ldc2_w 138, 3) := by decide +kernel
theorem dX7_isRowOfBends_40 : decode cX7_isRowOfBends 40 = .ok (.ldiv, 1) := by decide +kernel
theorem dX7_isRowOfBends_41 : decode cX7_isRowOfBends 41 = .ok (.lstore_n 3, 1) := by decide +kernel
theorem dX7_isRowOfBends_42 : decode cX7_isRowOfBends 42 = .ok (.iinc 5 1, 3) := by decide +kernel
theorem dX7_isRowOfBends_45 : decode cX7_isRowOfBends 45 = .ok (.goto (-40), 3) := by decide +kernel
theorem dX7_isRowOfBends_48 : decode cX7_isRowOfBends 48 = .ok (.lload_n 3, 1) := by decide +kernel
theorem dX7_isRowOfBends_49 : decode cX7_isRowOfBends 49 = .ok (.lconst 0, 1) := by decide +kernel
theorem dX7_isRowOfBends_50 : decode cX7_isRowOfBends 50 = .ok (.lcmp, 1) := by decide +kernel
theorem dX7_isRowOfBends_51 : decode cX7_isRowOfBends 51 = .ok (.ifCond .ne 7, 3) := by decide +kernel
theorem dX7_isRowOfBends_54 : decode cX7_isRowOfBends 54 = .ok (.iconst 1, 1) := by decide +kernel
theorem dX7_isRowOfBends_55 : decode cX7_isRowOfBends 55 = .ok (.goto 4, 3) := by decide +kernel
theorem dX7_isRowOfBends_58 : decode cX7_isRowOfBends 58 = .ok (.iconst 0, 1) := by decide +kernel
theorem dX7_isRowOfBends_59 : decode cX7_isRowOfBends 59 = .ok (.ireturn, 1) := by decide +kernel
theorem dX7_winter_0 : decode cX7_winter 0 = .ok (.aload_n 0, 1) := by decide +kernel
theorem dX7_winter_1 : decode cX7_winter 1 = .ok (.getfield 23, 3) := by decide +kernel
theorem dX7_winter_4 : decode cX7_winter 4 = .ok (.aload_n 0, 1) := by decide +kernel
theorem dX7_winter_5 : decode cX7_winter 5 = .ok (.getfield 19, 3) := by decide +kernel
theorem dX7_winter_8 : decode cX7_winter 8 = .ok (.invokevirtual 142, 3) := by decide +kernel
theorem dX7_winter_11 : decode cX7_winter 11 = .ok (.aload_n 0, 1) := by decide +kernel
theorem dX7_winter_12 : decode cX7_winter 12 = .ok (.aload_n 0, 1) := by decide +kernel
theorem dX7_winter_13 : decode cX7_winter 13 = .ok (.getfield 23, 3) := by decide +kernel
theorem dX7_winter_16 : decode cX7_winter 16 = .ok (.invokevirtual 145, 3) := by decide +kernel
theorem dX7_winter_19 : decode cX7_winter 19 = .ok (.invokevirtual 148, 3) := by decide +kernel
theorem dX7_winter_22 : decode cX7_winter 22 = .ok (.ireturn, 1) := by decide +kernel
theorem dX7_hang_0 : decode cX7_hang 0 = .ok (.aload_n 0, 1) := by decide +kernel
theorem dX7_hang_1 : decode cX7_hang 1 = .ok (.getfield 23, 3) := by decide +kernel
theorem dX7_hang_4 : decode cX7_hang 4 = .ok (.aload_n 0, 1) := by decide +kernel
theorem dX7_hang_5 : decode cX7_hang 5 = .ok (.getfield 19, 3) := by decide +kernel
theorem dX7_hang_8 : decode cX7_hang 8 = .ok (.invokevirtual 142, 3) := by decide +kernel
theorem dX7_hang_11 : decode cX7_hang 11 = .ok (.aload_n 0, 1) := by decide +kernel
theorem dX7_hang_12 : decode cX7_hang 12 = .ok (.aload_n 0, 1) := by decide +kernel
theorem dX7_hang_13 : decode cX7_hang 13 = .ok (.getfield 23, 3) := by decide +kernel
theorem dX7_hang_16 : decode cX7_hang 16 = .ok (.iload_n 1, 1) := by decide +kernel
theorem dX7_hang_17 : decode cX7_hang 17 = .ok (.iload_n 2, 1) := by decide +kernel
theorem dX7_hang_18 : decode cX7_hang 18 = .ok (.invokevirtual 151, 3) := by decide +kernel
theorem dX7_hang_21 : decode cX7_hang 21 = .ok (.invokevirtual 148, 3) := by decide +kernel
theorem dX7_hang_24 : decode cX7_hang 24 = .ok (.ireturn, 1) := by decide +kernel
theorem dX7_turn_0 : decode cX7_turn 0 = .ok (.aload_n 0, 1) := by decide +kernel
theorem dX7_turn_1 : decode cX7_turn 1 = .ok (.getfield 23, 3) := by decide +kernel
theorem dX7_turn_4 : decode cX7_turn 4 = .ok (.aload_n 0, 1) := by decide +kernel
theorem dX7_turn_5 : decode cX7_turn 5 = .ok (.getfield 19, 3) := by decide +kernel
theorem dX7_turn_8 : decode cX7_turn 8 = .ok (.invokevirtual 142, 3) := by decide +kernel
theorem dX7_turn_11 : decode cX7_turn 11 = .ok (.aload_n 0, 1) := by decide +kernel
theorem dX7_turn_12 : decode cX7_turn 12 = .ok (.aload_n 0, 1) := by decide +kernel
theorem dX7_turn_13 : decode cX7_turn 13 = .ok (.getfield 23, 3) := by decide +kernel
theorem dX7_turn_16 : decode cX7_turn 16 = .ok (.iload_n 1, 1) := by decide +kernel
theorem dX7_turn_17 : decode cX7_turn 17 = .ok (.invokevirtual 155, 3) := by decide +kernel
theorem dX7_turn_20 : decode cX7_turn 20 = .ok (.invokevirtual 148, 3) := by decide +kernel
theorem dX7_turn_23 : decode cX7_turn 23 = .ok (.ireturn, 1) := by decide +kernel
theorem dX7_snip_0 : decode cX7_snip 0 = .ok (.aload_n 0, 1) := by decide +kernel
theorem dX7_snip_1 : decode cX7_snip 1 = .ok (.getfield 23, 3) := by decide +kernel
theorem dX7_snip_4 : decode cX7_snip 4 = .ok (.aload_n 0, 1) := by decide +kernel
theorem dX7_snip_5 : decode cX7_snip 5 = .ok (.getfield 19, 3) := by decide +kernel
theorem dX7_snip_8 : decode cX7_snip 8 = .ok (.invokevirtual 142, 3) := by decide +kernel
theorem dX7_snip_11 : decode cX7_snip 11 = .ok (.aload_n 0, 1) := by decide +kernel
theorem dX7_snip_12 : decode cX7_snip 12 = .ok (.aload_n 0, 1) := by decide +kernel
theorem dX7_snip_13 : decode cX7_snip 13 = .ok (.getfield 23, 3) := by decide +kernel
theorem dX7_snip_16 : decode cX7_snip 16 = .ok (.iload_n 1, 1) := by decide +kernel
theorem dX7_snip_17 : decode cX7_snip 17 = .ok (.invokevirtual 158, 3) := by decide +kernel
theorem dX7_snip_20 : decode cX7_snip 20 = .ok (.invokevirtual 148, 3) := by decide +kernel
theorem dX7_snip_23 : decode cX7_snip 23 = .ok (.ireturn, 1) := by decide +kernel
theorem dX7_join_0 : decode cX7_join 0 = .ok (.aload_n 0, 1) := by decide +kernel
theorem dX7_join_1 : decode cX7_join 1 = .ok (.getfield 23, 3) := by decide +kernel
theorem dX7_join_4 : decode cX7_join 4 = .ok (.aload_n 0, 1) := by decide +kernel
theorem dX7_join_5 : decode cX7_join 5 = .ok (.getfield 19, 3) := by decide +kernel
theorem dX7_join_8 : decode cX7_join 8 = .ok (.invokevirtual 142, 3) := by decide +kernel
theorem dX7_join_11 : decode cX7_join 11 = .ok (.aload_n 0, 1) := by decide +kernel
theorem dX7_join_12 : decode cX7_join 12 = .ok (.aload_n 0, 1) := by decide +kernel
theorem dX7_join_13 : decode cX7_join 13 = .ok (.getfield 23, 3) := by decide +kernel
theorem dX7_join_16 : decode cX7_join 16 = .ok (.iload_n 1, 1) := by decide +kernel
theorem dX7_join_17 : decode cX7_join 17 = .ok (.iload_n 2, 1) := by decide +kernel
theorem dX7_join_18 : decode cX7_join 18 = .ok (.invokevirtual 161, 3) := by decide +kernel
theorem dX7_join_21 : decode cX7_join 21 = .ok (.invokevirtual 148, 3) := by decide +kernel
theorem dX7_join_24 : decode cX7_join 24 = .ok (.ireturn, 1) := by decide +kernel
theorem dX7_undo_0 : decode cX7_undo 0 = .ok (.aload_n 0, 1) := by decide +kernel
theorem dX7_undo_1 : decode cX7_undo 1 = .ok (.getfield 29, 3) := by decide +kernel
theorem dX7_undo_4 : decode cX7_undo 4 = .ok (.aload_n 0, 1) := by decide +kernel
theorem dX7_undo_5 : decode cX7_undo 5 = .ok (.getfield 19, 3) := by decide +kernel
theorem dX7_undo_8 : decode cX7_undo 8 = .ok (.invokevirtual 164, 3) := by decide +kernel
theorem dX7_undo_11 : decode cX7_undo 11 = .ok (.ireturn, 1) := by decide +kernel
theorem dX7_take_0 : decode cX7_take 0 = .ok (.iload_n 1, 1) := by decide +kernel
theorem dX7_take_1 : decode cX7_take 1 = .ok (.ifCond .lt 25, 3) := by decide +kernel
theorem dX7_take_4 : decode cX7_take 4 = .ok (.aload_n 0, 1) := by decide +kernel
theorem dX7_take_5 : decode cX7_take 5 = .ok (.getfield 29, 3) := by decide +kernel
theorem dX7_take_8 : decode cX7_take 8 = .ok (.aload_n 0, 1) := by decide +kernel
theorem dX7_take_9 : decode cX7_take 9 = .ok (.getfield 19, 3) := by decide +kernel
theorem dX7_take_12 : decode cX7_take 12 = .ok (.invokevirtual 168, 3) := by decide +kernel
theorem dX7_take_15 : decode cX7_take 15 = .ok (.aload_n 0, 1) := by decide +kernel
theorem dX7_take_16 : decode cX7_take 16 = .ok (.getfield 19, 3) := by decide +kernel
theorem dX7_take_19 : decode cX7_take 19 = .ok (.aload_n 0, 1) := by decide +kernel
theorem dX7_take_20 : decode cX7_take 20 = .ok (.getfield 23, 3) := by decide +kernel
theorem dX7_take_23 : decode cX7_take 23 = .ok (.invokevirtual 142, 3) := by decide +kernel
theorem dX7_take_26 : decode cX7_take 26 = .ok (.iload_n 1, 1) := by decide +kernel
theorem dX7_take_27 : decode cX7_take 27 = .ok (.ireturn, 1) := by decide +kernel
theorem dX7_later_0 : decode cX7_later 0 = .ok (.aload_n 0, 1) := by decide +kernel
theorem dX7_later_1 : decode cX7_later 1 = .ok (.getfield 19, 3) := by decide +kernel
theorem dX7_later_4 : decode cX7_later 4 = .ok (.iload_n 1, 1) := by decide +kernel
theorem dX7_later_5 : decode cX7_later 5 = .ok (.invokevirtual 109, 3) := by decide +kernel
theorem dX7_later_8 : decode cX7_later 8 = .ok (.ifCond .ne 5, 3) := by decide +kernel
theorem dX7_later_11 : decode cX7_later 11 = .ok (.iconst (-1), 1) := by decide +kernel
theorem dX7_later_12 : decode cX7_later 12 = .ok (.ireturn, 1) := by decide +kernel
theorem dX7_later_13 : decode cX7_later 13 = .ok (.iload_n 2, 1) := by decide +kernel
theorem dX7_later_14 : decode cX7_later 14 = .ok (.ifCond .lt 9, 3) := by decide +kernel
theorem dX7_later_17 : decode cX7_later 17 = .ok (.iload_n 2, 1) := by decide +kernel
theorem dX7_later_18 : decode cX7_later 18 = .ok (.bipush 20, 2) := by decide +kernel
theorem dX7_later_20 : decode cX7_later 20 = .ok (.if_icmp .le 6, 3) := by decide +kernel
theorem dX7_later_23 : decode cX7_later 23 = .ok (.bipush (-2), 2) := by decide +kernel
theorem dX7_later_25 : decode cX7_later 25 = .ok (.ireturn, 1) := by decide +kernel
theorem dX7_later_26 : decode cX7_later 26 = .ok (.aload_n 0, 1) := by decide +kernel
theorem dX7_later_27 : decode cX7_later 27 = .ok (.getfield 23, 3) := by decide +kernel
theorem dX7_later_30 : decode cX7_later 30 = .ok (.aload_n 0, 1) := by decide +kernel
theorem dX7_later_31 : decode cX7_later 31 = .ok (.getfield 19, 3) := by decide +kernel
theorem dX7_later_34 : decode cX7_later 34 = .ok (.invokevirtual 142, 3) := by decide +kernel
theorem dX7_later_37 : decode cX7_later 37 = .ok (.iconst 0, 1) := by decide +kernel
theorem dX7_later_38 : decode cX7_later 38 = .ok (.istore_n 3, 1) := by decide +kernel
theorem dX7_later_39 : decode cX7_later 39 = .ok (.iload_n 3, 1) := by decide +kernel
theorem dX7_later_40 : decode cX7_later 40 = .ok (.iload_n 2, 1) := by decide +kernel
theorem dX7_later_41 : decode cX7_later 41 = .ok (.if_icmp .ge 17, 3) := by decide +kernel
theorem dX7_later_44 : decode cX7_later 44 = .ok (.aload_n 0, 1) := by decide +kernel
theorem dX7_later_45 : decode cX7_later 45 = .ok (.getfield 23, 3) := by decide +kernel
theorem dX7_later_48 : decode cX7_later 48 = .ok (.invokevirtual 145, 3) := by decide +kernel
theorem dX7_later_51 : decode cX7_later 51 = .ok (.pop, 1) := by decide +kernel
theorem dX7_later_52 : decode cX7_later 52 = .ok (.iinc 3 1, 3) := by decide +kernel
theorem dX7_later_55 : decode cX7_later 55 = .ok (.goto (-16), 3) := by decide +kernel
theorem dX7_later_58 : decode cX7_later 58 = .ok (.aload_n 0, 1) := by decide +kernel
theorem dX7_later_59 : decode cX7_later 59 = .ok (.getfield 23, 3) := by decide +kernel
theorem dX7_later_62 : decode cX7_later 62 = .ok (.getfield 113, 3) := by decide +kernel
theorem dX7_later_65 : decode cX7_later 65 = .ok (.iload_n 1, 1) := by decide +kernel
theorem dX7_later_66 : decode cX7_later 66 = .ok (.aaload, 1) := by decide +kernel
theorem dX7_later_67 : decode cX7_later 67 = .ok (.getfield 125, 3) := by decide +kernel
theorem dX7_later_70 : decode cX7_later 70 = .ok (.getfield 102, 3) := by decide +kernel
theorem dX7_later_73 : decode cX7_later 73 = .ok (.ireturn, 1) := by decide +kernel
theorem dX7_lasts_0 : decode cX7_lasts 0 = .ok (.aload_n 0, 1) := by decide +kernel
theorem dX7_lasts_1 : decode cX7_lasts 1 = .ok (.getfield 19, 3) := by decide +kernel
theorem dX7_lasts_4 : decode cX7_lasts 4 = .ok (.iload_n 1, 1) := by decide +kernel
theorem dX7_lasts_5 : decode cX7_lasts 5 = .ok (.invokevirtual 109, 3) := by decide +kernel
theorem dX7_lasts_8 : decode cX7_lasts 8 = .ok (.ifCond .ne 5, 3) := by decide +kernel
theorem dX7_lasts_11 : decode cX7_lasts 11 = .ok (.iconst (-1), 1) := by decide +kernel
theorem dX7_lasts_12 : decode cX7_lasts 12 = .ok (.ireturn, 1) := by decide +kernel
theorem dX7_lasts_13 : decode cX7_lasts 13 = .ok (.aload_n 0, 1) := by decide +kernel
theorem dX7_lasts_14 : decode cX7_lasts 14 = .ok (.getfield 23, 3) := by decide +kernel
theorem dX7_lasts_17 : decode cX7_lasts 17 = .ok (.aload_n 0, 1) := by decide +kernel
theorem dX7_lasts_18 : decode cX7_lasts 18 = .ok (.getfield 19, 3) := by decide +kernel
theorem dX7_lasts_21 : decode cX7_lasts 21 = .ok (.invokevirtual 142, 3) := by decide +kernel
theorem dX7_lasts_24 : decode cX7_lasts 24 = .ok (.iconst 1, 1) := by decide +kernel
theorem dX7_lasts_25 : decode cX7_lasts 25 = .ok (.istore_n 2, 1) := by decide +kernel
theorem dX7_lasts_26 : decode cX7_lasts 26 = .ok (.iload_n 2, 1) := by decide +kernel
theorem dX7_lasts_27 : decode cX7_lasts 27 = .ok (.bipush 20, 2) := by decide +kernel
theorem dX7_lasts_29 : decode cX7_lasts 29 = .ok (.if_icmp .gt 30, 3) := by decide +kernel
theorem dX7_lasts_32 : decode cX7_lasts 32 = .ok (.aload_n 0, 1) := by decide +kernel
theorem dX7_lasts_33 : decode cX7_lasts 33 = .ok (.getfield 23, 3) := by decide +kernel
theorem dX7_lasts_36 : decode cX7_lasts 36 = .ok (.invokevirtual 145, 3) := by decide +kernel
theorem dX7_lasts_39 : decode cX7_lasts 39 = .ok (.pop, 1) := by decide +kernel
theorem dX7_lasts_40 : decode cX7_lasts 40 = .ok (.aload_n 0, 1) := by decide +kernel
theorem dX7_lasts_41 : decode cX7_lasts 41 = .ok (.getfield 23, 3) := by decide +kernel
theorem dX7_lasts_44 : decode cX7_lasts 44 = .ok (.iload_n 1, 1) := by decide +kernel
theorem dX7_lasts_45 : decode cX7_lasts 45 = .ok (.invokevirtual 109, 3) := by decide +kernel
theorem dX7_lasts_48 : decode cX7_lasts 48 = .ok (.ifCond .ne 5, 3) := by decide +kernel
theorem dX7_lasts_51 : decode cX7_lasts 51 = .ok (.iload_n 2, 1) := by decide +kernel
theorem dX7_lasts_52 : decode cX7_lasts 52 = .ok (.ireturn, 1) := by decide +kernel
theorem dX7_lasts_53 : decode cX7_lasts 53 = .ok (.iinc 2 1, 3) := by decide +kernel
theorem dX7_lasts_56 : decode cX7_lasts 56 = .ok (.goto (-30), 3) := by decide +kernel
theorem dX7_lasts_59 : decode cX7_lasts 59 = .ok (.bipush (-9), 2) := by decide +kernel
theorem dX7_lasts_61 : decode cX7_lasts 61 = .ok (.ireturn, 1) := by decide +kernel
theorem dX7_overlap_0 : decode cX7_overlap 0 = .ok (.aload_n 0, 1) := by decide +kernel
theorem dX7_overlap_1 : decode cX7_overlap 1 = .ok (.getfield 19, 3) := by decide +kernel
theorem dX7_overlap_4 : decode cX7_overlap 4 = .ok (.iload_n 1, 1) := by decide +kernel
theorem dX7_overlap_5 : decode cX7_overlap 5 = .ok (.invokevirtual 109, 3) := by decide +kernel
theorem dX7_overlap_8 : decode cX7_overlap 8 = .ok (.ifCond .eq 14, 3) := by decide +kernel
theorem dX7_overlap_11 : decode cX7_overlap 11 = .ok (.aload_n 0, 1) := by decide +kernel
theorem dX7_overlap_12 : decode cX7_overlap 12 = .ok (.getfield 19, 3) := by decide +kernel
theorem dX7_overlap_15 : decode cX7_overlap 15 = .ok (.iload_n 2, 1) := by decide +kernel
theorem dX7_overlap_16 : decode cX7_overlap 16 = .ok (.invokevirtual 109, 3) := by decide +kernel
theorem dX7_overlap_19 : decode cX7_overlap 19 = .ok (.ifCond .ne 5, 3) := by decide +kernel
theorem dX7_overlap_22 : decode cX7_overlap 22 = .ok (.iconst (-1), 1) := by decide +kernel
theorem dX7_overlap_23 : decode cX7_overlap 23 = .ok (.ireturn, 1) := by decide +kernel
theorem dX7_overlap_24 : decode cX7_overlap 24 = .ok (.iload_n 1, 1) := by decide +kernel
theorem dX7_overlap_25 : decode cX7_overlap 25 = .ok (.iload_n 2, 1) := by decide +kernel
theorem dX7_overlap_26 : decode cX7_overlap 26 = .ok (.if_icmp .ne 6, 3) := by decide +kernel
theorem dX7_overlap_29 : decode cX7_overlap 29 = .ok (.bipush (-2), 2) := by decide +kernel
theorem dX7_overlap_31 : decode cX7_overlap 31 = .ok (.ireturn, 1) := by decide +kernel
theorem dX7_overlap_32 : decode cX7_overlap 32 = .ok (.aload_n 0, 1) := by decide +kernel
theorem dX7_overlap_33 : decode cX7_overlap 33 = .ok (.getfield 19, 3) := by decide +kernel
theorem dX7_overlap_36 : decode cX7_overlap 36 = .ok (.getfield 113, 3) := by decide +kernel
theorem dX7_overlap_39 : decode cX7_overlap 39 = .ok (.iload_n 1, 1) := by decide +kernel
theorem dX7_overlap_40 : decode cX7_overlap 40 = .ok (.aaload, 1) := by decide +kernel
theorem dX7_overlap_41 : decode cX7_overlap 41 = .ok (.getfield 125, 3) := by decide +kernel
theorem dX7_overlap_44 : decode cX7_overlap 44 = .ok (.aload_n 0, 1) := by decide +kernel
theorem dX7_overlap_45 : decode cX7_overlap 45 = .ok (.getfield 19, 3) := by decide +kernel
theorem dX7_overlap_48 : decode cX7_overlap 48 = .ok (.getfield 113, 3) := by decide +kernel
theorem dX7_overlap_51 : decode cX7_overlap 51 = .ok (.iload_n 2, 1) := by decide +kernel
theorem dX7_overlap_52 : decode cX7_overlap 52 = .ok (.aaload, 1) := by decide +kernel
theorem dX7_overlap_53 : decode cX7_overlap 53 = .ok (.getfield 125, 3) := by decide +kernel
theorem dX7_overlap_56 : decode cX7_overlap 56 = .ok (.invokevirtual 171, 3) := by decide +kernel
theorem dX7_overlap_59 : decode cX7_overlap 59 = .ok (.ireturn, 1) := by decide +kernel
theorem dX7_river_0 : decode cX7_river 0 = .ok (.iload_n 1, 1) := by decide +kernel
theorem dX7_river_1 : decode cX7_river 1 = .ok (.ifCond .eq 11, 3) := by decide +kernel
theorem dX7_river_4 : decode cX7_river 4 = .ok (.iload_n 1, 1) := by decide +kernel
theorem dX7_river_5 : decode cX7_river 5 = .ok (.iconst 1, 1) := by decide +kernel
theorem dX7_river_6 : decode cX7_river 6 = .ok (.if_icmp .eq 6, 3) := by decide +kernel
theorem dX7_river_9 : decode cX7_river 9 = .ok (.bipush (-2), 2) := by decide +kernel
theorem dX7_river_11 : decode cX7_river 11 = .ok (.ireturn, 1) := by decide +kernel
theorem dX7_river_12 : decode cX7_river 12 = .ok (.aload_n 0, 1) := by decide +kernel
theorem dX7_river_13 : decode cX7_river 13 = .ok (.getfield 19, 3) := by decide +kernel
theorem dX7_river_16 : decode cX7_river 16 = .ok (.invokevirtual 174, 3) := by decide +kernel
theorem dX7_river_19 : decode cX7_river 19 = .ok (.invokestatic 177, 3) := by decide +kernel
theorem dX7_river_22 : decode cX7_river 22 = .ok (.istore_n 2, 1) := by decide +kernel
theorem dX7_river_23 : decode cX7_river 23 = .ok (.iconst (-1), 1) := by decide +kernel
theorem dX7_river_24 : decode cX7_river 24 = .ok (.istore_n 3, 1) := by decide +kernel
theorem dX7_river_25 : decode cX7_river 25 = .ok (.iconst 0, 1) := by decide +kernel
theorem dX7_river_26 : decode cX7_river 26 = .ok (.istore 4, 2) := by decide +kernel
theorem dX7_river_28 : decode cX7_river 28 = .ok (.iconst 0, 1) := by decide +kernel
theorem dX7_river_29 : decode cX7_river 29 = .ok (.istore 5, 2) := by decide +kernel
theorem dX7_river_31 : decode cX7_river 31 = .ok (.iload 5, 2) := by decide +kernel
theorem dX7_river_33 : decode cX7_river 33 = .ok (.iconst 1, 1) := by decide +kernel
theorem dX7_river_34 : decode cX7_river 34 = .ok (.iconst 2, 1) := by decide +kernel
theorem dX7_river_35 : decode cX7_river 35 = .ok (.iload_n 2, 1) := by decide +kernel
theorem dX7_river_36 : decode cX7_river 36 = .ok (.imul, 1) := by decide +kernel
theorem dX7_river_37 : decode cX7_river 37 = .ok (.ishl, 1) := by decide +kernel
theorem dX7_river_38 : decode cX7_river 38 = .ok (.if_icmp .ge 58, 3) := by decide +kernel
theorem dX7_river_41 : decode cX7_river 41 = .ok (.aload_n 0, 1) := by decide +kernel
theorem dX7_river_42 : decode cX7_river 42 = .ok (.iload 5, 2) := by decide +kernel
theorem dX7_river_44 : decode cX7_river 44 = .ok (.iload_n 2, 1) := by decide +kernel
theorem dX7_river_45 : decode cX7_river 45 = .ok (.invokevirtual 182, 3) := by decide +kernel
theorem dX7_river_48 : decode cX7_river 48 = .ok (.ifCond .ne 6, 3) := by decide +kernel
theorem dX7_river_51 : decode cX7_river 51 = .ok (.goto 39, 3) := by decide +kernel
theorem dX7_river_54 : decode cX7_river 54 = .ok (.aload_n 0, 1) := by decide +kernel
theorem dX7_river_55 : decode cX7_river 55 = .ok (.iload 5, 2) := by decide +kernel
theorem dX7_river_57 : decode cX7_river 57 = .ok (.iload_n 2, 1) := by decide +kernel
theorem dX7_river_58 : decode cX7_river 58 = .ok (.invokevirtual 186, 3) := by decide +kernel
theorem dX7_river_61 : decode cX7_river 61 = .ok (.istore 6, 2) := by decide +kernel
theorem dX7_river_63 : decode cX7_river 63 = .ok (.iload_n 3, 1) := by decide +kernel
theorem dX7_river_64 : decode cX7_river 64 = .ok (.ifCond .lt 14, 3) := by decide +kernel
theorem dX7_river_67 : decode cX7_river 67 = .ok (.aload_n 0, 1) := by decide +kernel
theorem dX7_river_68 : decode cX7_river 68 = .ok (.getfield 56, 3) := by decide +kernel
theorem dX7_river_71 : decode cX7_river 71 = .ok (.getfield 102, 3) := by decide +kernel
theorem dX7_river_74 : decode cX7_river 74 = .ok (.iload_n 3, 1) := by decide +kernel
theorem dX7_river_75 : decode cX7_river 75 = .ok (.if_icmp .ge 15, 3) := by decide +kernel
theorem dX7_river_78 : decode cX7_river 78 = .ok (.aload_n 0, 1) := by decide +kernel
theorem dX7_river_79 : decode cX7_river 79 = .ok (.getfield 56, 3) := by decide +kernel
theorem dX7_river_82 : decode cX7_river 82 = .ok (.getfield 102, 3) := by decide +kernel
theorem dX7_river_85 : decode cX7_river 85 = .ok (.istore_n 3, 1) := by decide +kernel
theorem dX7_river_86 : decode cX7_river 86 = .ok (.iload 6, 2) := by decide +kernel
theorem dX7_river_88 : decode cX7_river 88 = .ok (.istore 4, 2) := by decide +kernel
theorem dX7_river_90 : decode cX7_river 90 = .ok (.iinc 5 1, 3) := by decide +kernel
theorem dX7_river_93 : decode cX7_river 93 = .ok (.goto (-62), 3) := by decide +kernel
theorem dX7_river_96 : decode cX7_river 96 = .ok (.iload_n 1, 1) := by decide +kernel
theorem dX7_river_97 : decode cX7_river 97 = .ok (.ifCond .ne 7, 3) := by decide +kernel
theorem dX7_river_100 : decode cX7_river 100 = .ok (.iload_n 3, 1) := by decide +kernel
theorem dX7_river_101 : decode cX7_river 101 = .ok (.goto 5, 3) := by decide +kernel
theorem dX7_river_104 : decode cX7_river 104 = .ok (.iload 4, 2) := by decide +kernel
theorem dX7_river_106 : decode cX7_river 106 = .ok (.ireturn, 1) := by decide +kernel
theorem dX7_isOrder_0 : decode cX7_isOrder 0 = .ok (.iconst 0, 1) := by decide +kernel
theorem dX7_isOrder_1 : decode cX7_isOrder 1 = .ok (.istore_n 3, 1) := by decide +kernel
theorem dX7_isOrder_2 : decode cX7_isOrder 2 = .ok (.iconst 0, 1) := by decide +kernel
theorem dX7_isOrder_3 : decode cX7_isOrder 3 = .ok (.istore 4, 2) := by decide +kernel
theorem dX7_isOrder_5 : decode cX7_isOrder 5 = .ok (.iload 4, 2) := by decide +kernel
theorem dX7_isOrder_7 : decode cX7_isOrder 7 = .ok (.iload_n 2, 1) := by decide +kernel
theorem dX7_isOrder_8 : decode cX7_isOrder 8 = .ok (.if_icmp .ge 21, 3) := by decide +kernel
theorem dX7_isOrder_11 : decode cX7_isOrder 11 = .ok (.iload_n 3, 1) := by decide +kernel
theorem dX7_isOrder_12 : decode cX7_isOrder 12 = .ok (.iconst 1, 1) := by decide +kernel
theorem dX7_isOrder_13 : decode cX7_isOrder 13 = .ok (.iload_n 1, 1) := by decide +kernel
theorem dX7_isOrder_14 : decode cX7_isOrder 14 = .ok (.iload_n 2, 1) := by decide +kernel
theorem dX7_isOrder_15 : decode cX7_isOrder 15 = .ok (.iload 4, 2) := by decide +kernel
theorem dX7_isOrder_17 : decode cX7_isOrder 17 = .ok (.invokestatic 189, 3) := by decide +kernel
theorem dX7_isOrder_20 : decode cX7_isOrder 20 = .ok (.ishl, 1) := by decide +kernel
theorem dX7_isOrder_21 : decode cX7_isOrder 21 = .ok (.ior, 1) := by decide +kernel
theorem dX7_isOrder_22 : decode cX7_isOrder 22 = .ok (.istore_n 3, 1) := by decide +kernel
theorem dX7_isOrder_23 : decode cX7_isOrder 23 = .ok (.iinc 4 1, 3) := by decide +kernel
theorem dX7_isOrder_26 : decode cX7_isOrder 26 = .ok (.goto (-21), 3) := by decide +kernel
theorem dX7_isOrder_29 : decode cX7_isOrder 29 = .ok (.iload_n 3, 1) := by decide +kernel
theorem dX7_isOrder_30 : decode cX7_isOrder 30 = .ok (.aload_n 0, 1) := by decide +kernel
theorem dX7_isOrder_31 : decode cX7_isOrder 31 = .ok (.getfield 19, 3) := by decide +kernel
theorem dX7_isOrder_34 : decode cX7_isOrder 34 = .ok (.invokevirtual 174, 3) := by decide +kernel
theorem dX7_isOrder_37 : decode cX7_isOrder 37 = .ok (.if_icmp .ne 7, 3) := by decide +kernel
theorem dX7_isOrder_40 : decode cX7_isOrder 40 = .ok (.iconst 1, 1) := by decide +kernel
theorem dX7_isOrder_41 : decode cX7_isOrder 41 = .ok (.goto 4, 3) := by decide +kernel
theorem dX7_isOrder_44 : decode cX7_isOrder 44 = .ok (.iconst 0, 1) := by decide +kernel
theorem dX7_isOrder_45 : decode cX7_isOrder 45 = .ok (.ireturn, 1) := by decide +kernel
theorem dX7_flow_0 : decode cX7_flow 0 = .ok (.iconst 0, 1) := by decide +kernel
theorem dX7_flow_1 : decode cX7_flow 1 = .ok (.istore_n 3, 1) := by decide +kernel
theorem dX7_flow_2 : decode cX7_flow 2 = .ok (.aload_n 0, 1) := by decide +kernel
theorem dX7_flow_3 : decode cX7_flow 3 = .ok (.getfield 56, 3) := by decide +kernel
theorem dX7_flow_6 : decode cX7_flow 6 = .ok (.invokevirtual 193, 3) := by decide +kernel
theorem dX7_flow_9 : decode cX7_flow 9 = .ok (.iconst 0, 1) := by decide +kernel
theorem dX7_flow_10 : decode cX7_flow 10 = .ok (.istore 4, 2) := by decide +kernel
theorem dX7_flow_12 : decode cX7_flow 12 = .ok (.iload 4, 2) := by decide +kernel
theorem dX7_flow_14 : decode cX7_flow 14 = .ok (.iload_n 2, 1) := by decide +kernel
theorem dX7_flow_15 : decode cX7_flow 15 = .ok (.if_icmp .ge 48, 3) := by decide +kernel
theorem dX7_flow_18 : decode cX7_flow 18 = .ok (.iload_n 1, 1) := by decide +kernel
theorem dX7_flow_19 : decode cX7_flow 19 = .ok (.iload_n 2, 1) := by decide +kernel
theorem dX7_flow_20 : decode cX7_flow 20 = .ok (.iload 4, 2) := by decide +kernel
theorem dX7_flow_22 : decode cX7_flow 22 = .ok (.invokestatic 189, 3) := by decide +kernel
theorem dX7_flow_25 : decode cX7_flow 25 = .ok (.istore 5, 2) := by decide +kernel
theorem dX7_flow_27 : decode cX7_flow 27 = .ok (.aload_n 0, 1) := by decide +kernel
theorem dX7_flow_28 : decode cX7_flow 28 = .ok (.getfield 56, 3) := by decide +kernel
theorem dX7_flow_31 : decode cX7_flow 31 = .ok (.aload_n 0, 1) := by decide +kernel
theorem dX7_flow_32 : decode cX7_flow 32 = .ok (.getfield 19, 3) := by decide +kernel
theorem dX7_flow_35 : decode cX7_flow 35 = .ok (.getfield 113, 3) := by decide +kernel
theorem dX7_flow_38 : decode cX7_flow 38 = .ok (.iload 5, 2) := by decide +kernel
theorem dX7_flow_40 : decode cX7_flow 40 = .ok (.aaload, 1) := by decide +kernel
theorem dX7_flow_41 : decode cX7_flow 41 = .ok (.getfield 125, 3) := by decide +kernel
theorem dX7_flow_44 : decode cX7_flow 44 = .ok (.invokevirtual 194, 3) := by decide +kernel
theorem dX7_flow_47 : decode cX7_flow 47 = .ok (.bipush 10, 2) := by decide +kernel
theorem dX7_flow_49 : decode cX7_flow 49 = .ok (.iload_n 3, 1) := by decide +kernel
theorem dX7_flow_50 : decode cX7_flow 50 = .ok (.imul, 1) := by decide +kernel
theorem dX7_flow_51 : decode cX7_flow 51 = .ok (.iload 5, 2) := by decide +kernel
theorem dX7_flow_53 : decode cX7_flow 53 = .ok (.iadd, 1) := by decide +kernel
theorem dX7_flow_54 : decode cX7_flow 54 = .ok (.iconst 1, 1) := by decide +kernel
theorem dX7_flow_55 : decode cX7_flow 55 = .ok (.iadd, 1) := by decide +kernel
theorem dX7_flow_56 : decode cX7_flow 56 = .ok (.istore_n 3, 1) := by decide +kernel
theorem dX7_flow_57 : decode cX7_flow 57 = .ok (.iinc 4 1, 3) := by decide +kernel
theorem dX7_flow_60 : decode cX7_flow 60 = .ok (.goto (-48), 3) := by decide +kernel
theorem dX7_flow_63 : decode cX7_flow 63 = .ok (.iload_n 3, 1) := by decide +kernel
theorem dX7_flow_64 : decode cX7_flow 64 = .ok (.ireturn, 1) := by decide +kernel
theorem dX7_figureOf_0 : decode cX7_figureOf 0 = .ok (.iload_n 0, 1) := by decide +kernel
theorem dX7_figureOf_1 : decode cX7_figureOf 1 = .ok (.iconst 2, 1) := by decide +kernel
theorem dX7_figureOf_2 : decode cX7_figureOf 2 = .ok (.iload_n 1, 1) := by decide +kernel
theorem dX7_figureOf_3 : decode cX7_figureOf 3 = .ok (.iconst 1, 1) := by decide +kernel
theorem dX7_figureOf_4 : decode cX7_figureOf 4 = .ok (.isub, 1) := by decide +kernel
theorem dX7_figureOf_5 : decode cX7_figureOf 5 = .ok (.iload_n 2, 1) := by decide +kernel
theorem dX7_figureOf_6 : decode cX7_figureOf 6 = .ok (.isub, 1) := by decide +kernel
theorem dX7_figureOf_7 : decode cX7_figureOf 7 = .ok (.imul, 1) := by decide +kernel
theorem dX7_figureOf_8 : decode cX7_figureOf 8 = .ok (.ishr, 1) := by decide +kernel
theorem dX7_figureOf_9 : decode cX7_figureOf 9 = .ok (.iconst 3, 1) := by decide +kernel
theorem dX7_figureOf_10 : decode cX7_figureOf 10 = .ok (.iand, 1) := by decide +kernel
theorem dX7_figureOf_11 : decode cX7_figureOf 11 = .ok (.ireturn, 1) := by decide +kernel
theorem dX7_covered_0 : decode cX7_covered 0 = .ok (.aload_n 0, 1) := by decide +kernel
theorem dX7_covered_1 : decode cX7_covered 1 = .ok (.invokevirtual 198, 3) := by decide +kernel
theorem dX7_covered_4 : decode cX7_covered 4 = .ok (.iconst 0, 1) := by decide +kernel
theorem dX7_covered_5 : decode cX7_covered 5 = .ok (.istore_n 1, 1) := by decide +kernel
theorem dX7_covered_6 : decode cX7_covered 6 = .ok (.iconst 0, 1) := by decide +kernel
theorem dX7_covered_7 : decode cX7_covered 7 = .ok (.istore_n 2, 1) := by decide +kernel
theorem dX7_covered_8 : decode cX7_covered 8 = .ok (.iload_n 2, 1) := by decide +kernel
theorem dX7_covered_9 : decode cX7_covered 9 = .ok (.iconst 4, 1) := by decide +kernel
theorem dX7_covered_10 : decode cX7_covered 10 = .ok (.if_icmp .ge 18, 3) := by decide +kernel
theorem dX7_covered_13 : decode cX7_covered 13 = .ok (.iload_n 1, 1) := by decide +kernel
theorem dX7_covered_14 : decode cX7_covered 14 = .ok (.aload_n 0, 1) := by decide +kernel
theorem dX7_covered_15 : decode cX7_covered 15 = .ok (.getfield 62, 3) := by decide +kernel
theorem dX7_covered_18 : decode cX7_covered 18 = .ok (.iload_n 2, 1) := by decide +kernel
theorem dX7_covered_19 : decode cX7_covered 19 = .ok (.iaload, 1) := by decide +kernel
theorem dX7_covered_20 : decode cX7_covered 20 = .ok (.ior, 1) := by decide +kernel
theorem dX7_covered_21 : decode cX7_covered 21 = .ok (.istore_n 1, 1) := by decide +kernel
theorem dX7_covered_22 : decode cX7_covered 22 = .ok (.iinc 2 1, 3) := by decide +kernel
theorem dX7_covered_25 : decode cX7_covered 25 = .ok (.goto (-17), 3) := by decide +kernel
theorem dX7_covered_28 : decode cX7_covered 28 = .ok (.iload_n 1, 1) := by decide +kernel
theorem dX7_covered_29 : decode cX7_covered 29 = .ok (.ireturn, 1) := by decide +kernel
theorem dX7_findCovers_0 : decode cX7_findCovers 0 = .ok (.iconst 0, 1) := by decide +kernel
theorem dX7_findCovers_1 : decode cX7_findCovers 1 = .ok (.istore_n 1, 1) := by decide +kernel
theorem dX7_findCovers_2 : decode cX7_findCovers 2 = .ok (.iload_n 1, 1) := by decide +kernel
theorem dX7_findCovers_3 : decode cX7_findCovers 3 = .ok (.iconst 4, 1) := by decide +kernel
theorem dX7_findCovers_4 : decode cX7_findCovers 4 = .ok (.if_icmp .ge 49, 3) := by decide +kernel
theorem dX7_findCovers_7 : decode cX7_findCovers 7 = .ok (.aload_n 0, 1) := by decide +kernel
theorem dX7_findCovers_8 : decode cX7_findCovers 8 = .ok (.getfield 62, 3) := by decide +kernel
theorem dX7_findCovers_11 : decode cX7_findCovers 11 = .ok (.iload_n 1, 1) := by decide +kernel
theorem dX7_findCovers_12 : decode cX7_findCovers 12 = .ok (.aload_n 0, 1) := by decide +kernel
theorem dX7_findCovers_13 : decode cX7_findCovers 13 = .ok (.getfield 19, 3) := by decide +kernel
theorem dX7_findCovers_16 : decode cX7_findCovers 16 = .ok (.iload_n 1, 1) := by decide +kernel
theorem dX7_findCovers_17 : decode cX7_findCovers 17 = .ok (.invokevirtual 109, 3) := by decide +kernel
theorem dX7_findCovers_20 : decode cX7_findCovers 20 = .ok (.ifCond .eq 25, 3) := by decide +kernel
theorem dX7_findCovers_23 : decode cX7_findCovers 23 = .ok (.aload_n 0, 1) := by decide +kernel
theorem dX7_findCovers_24 : decode cX7_findCovers 24 = .ok (.getfield 52, 3) := by decide +kernel
theorem dX7_findCovers_27 : decode cX7_findCovers 27 = .ok (.aload_n 0, 1) := by decide +kernel
theorem dX7_findCovers_28 : decode cX7_findCovers 28 = .ok (.getfield 19, 3) := by decide +kernel
theorem dX7_findCovers_31 : decode cX7_findCovers 31 = .ok (.getfield 113, 3) := by decide +kernel
theorem dX7_findCovers_34 : decode cX7_findCovers 34 = .ok (.iload_n 1, 1) := by decide +kernel
theorem dX7_findCovers_35 : decode cX7_findCovers 35 = .ok (.aaload, 1) := by decide +kernel
theorem dX7_findCovers_36 : decode cX7_findCovers 36 = .ok (.getfield 125, 3) := by decide +kernel
theorem dX7_findCovers_39 : decode cX7_findCovers 39 = .ok (.invokevirtual 201, 3) := by decide +kernel
theorem dX7_findCovers_42 : decode cX7_findCovers 42 = .ok (.goto 4, 3) := by decide +kernel
theorem dX7_findCovers_45 : decode cX7_findCovers 45 = .ok (.iconst 0, 1) := by decide +kernel
theorem dX7_findCovers_46 : decode cX7_findCovers 46 = .ok (.iastore, 1) := by decide +kernel
theorem dX7_findCovers_47 : decode cX7_findCovers 47 = .ok (.iinc 1 1, 3) := by decide +kernel
theorem dX7_findCovers_50 : decode cX7_findCovers 50 = .ok (.goto (-48), 3) := by decide +kernel
theorem dX7_findCovers_53 : decode cX7_findCovers 53 = .ok (.return_, 1) := by decide +kernel
theorem dX7_wholeBed_0 : decode cX7_wholeBed 0 = .ok (.iconst 1, 1) := by decide +kernel
theorem dX7_wholeBed_1 : decode cX7_wholeBed 1 = .ok (.aload_n 0, 1) := by decide +kernel
theorem dX7_wholeBed_2 : decode cX7_wholeBed 2 = .ok (.getfield 52, 3) := by decide +kernel
theorem dX7_wholeBed_5 : decode cX7_wholeBed 5 = .ok (.getfield 102, 3) := by decide +kernel
theorem dX7_wholeBed_8 : decode cX7_wholeBed 8 = .ok (.ishl, 1) := by decide +kernel
theorem dX7_wholeBed_9 : decode cX7_wholeBed 9 = .ok (.iconst 1, 1) := by decide +kernel
theorem dX7_wholeBed_10 : decode cX7_wholeBed 10 = .ok (.isub, 1) := by decide +kernel
theorem dX7_wholeBed_11 : decode cX7_wholeBed 11 = .ok (.ireturn, 1) := by decide +kernel
theorem dX7_ways_0 : decode cX7_ways 0 = .ok (.aload_n 0, 1) := by decide +kernel
theorem dX7_ways_1 : decode cX7_ways 1 = .ok (.getfield 19, 3) := by decide +kernel
theorem dX7_ways_4 : decode cX7_ways 4 = .ok (.aload_n 0, 1) := by decide +kernel
theorem dX7_ways_5 : decode cX7_ways 5 = .ok (.getfield 52, 3) := by decide +kernel
theorem dX7_ways_8 : decode cX7_ways 8 = .ok (.iconst 0, 1) := by decide +kernel
theorem dX7_ways_9 : decode cX7_ways 9 = .ok (.iconst 0, 1) := by decide +kernel
theorem dX7_ways_10 : decode cX7_ways 10 = .ok (.invokestatic 204, 3) := by decide +kernel
theorem dX7_ways_13 : decode cX7_ways 13 = .ok (.ireturn, 1) := by decide +kernel
theorem dX7_waysFrom_0 : decode cX7_waysFrom 0 = .ok (.iload_n 2, 1) := by decide +kernel
theorem dX7_waysFrom_1 : decode cX7_waysFrom 1 = .ok (.iconst 4, 1) := by decide +kernel
theorem dX7_waysFrom_2 : decode cX7_waysFrom 2 = .ok (.if_icmp .lt 20, 3) := by decide +kernel
theorem dX7_waysFrom_5 : decode cX7_waysFrom 5 = .ok (.iload_n 3, 1) := by decide +kernel
theorem dX7_waysFrom_6 : decode cX7_waysFrom 6 = .ok (.invokestatic 177, 3) := by decide +kernel
theorem dX7_waysFrom_9 : decode cX7_waysFrom 9 = .ok (.aload_n 1, 1) := by decide +kernel
theorem dX7_waysFrom_10 : decode cX7_waysFrom 10 = .ok (.getfield 102, 3) := by decide +kernel
theorem dX7_waysFrom_13 : decode cX7_waysFrom 13 = .ok (.if_icmp .ne 7, 3) := by decide +kernel
theorem dX7_waysFrom_16 : decode cX7_waysFrom 16 = .ok (.iconst 1, 1) := by decide +kernel
theorem dX7_waysFrom_17 : decode cX7_waysFrom 17 = .ok (.goto 4, 3) := by decide +kernel
theorem dX7_waysFrom_20 : decode cX7_waysFrom 20 = .ok (.iconst 0, 1) := by decide +kernel
theorem dX7_waysFrom_21 : decode cX7_waysFrom 21 = .ok (.ireturn, 1) := by decide +kernel
theorem dX7_waysFrom_22 : decode cX7_waysFrom 22 = .ok (.aload_n 0, 1) := by decide +kernel
theorem dX7_waysFrom_23 : decode cX7_waysFrom 23 = .ok (.iload_n 2, 1) := by decide +kernel
theorem dX7_waysFrom_24 : decode cX7_waysFrom 24 = .ok (.invokevirtual 109, 3) := by decide +kernel
theorem dX7_waysFrom_27 : decode cX7_waysFrom 27 = .ok (.ifCond .ne 13, 3) := by decide +kernel
theorem dX7_waysFrom_30 : decode cX7_waysFrom 30 = .ok (.aload_n 0, 1) := by decide +kernel
theorem dX7_waysFrom_31 : decode cX7_waysFrom 31 = .ok (.aload_n 1, 1) := by decide +kernel
theorem dX7_waysFrom_32 : decode cX7_waysFrom 32 = .ok (.iload_n 2, 1) := by decide +kernel
theorem dX7_waysFrom_33 : decode cX7_waysFrom 33 = .ok (.iconst 1, 1) := by decide +kernel
theorem dX7_waysFrom_34 : decode cX7_waysFrom 34 = .ok (.iadd, 1) := by decide +kernel
theorem dX7_waysFrom_35 : decode cX7_waysFrom 35 = .ok (.iload_n 3, 1) := by decide +kernel
theorem dX7_waysFrom_36 : decode cX7_waysFrom 36 = .ok (.invokestatic 204, 3) := by decide +kernel
theorem dX7_waysFrom_39 : decode cX7_waysFrom 39 = .ok (.ireturn, 1) := by decide +kernel
theorem dX7_waysFrom_40 : decode cX7_waysFrom 40 = .ok (.aload_n 1, 1) := by decide +kernel
theorem dX7_waysFrom_41 : decode cX7_waysFrom 41 = .ok (.getfield 102, 3) := by decide +kernel
theorem dX7_waysFrom_44 : decode cX7_waysFrom 44 = .ok (.iload_n 3, 1) := by decide +kernel
theorem dX7_waysFrom_45 : decode cX7_waysFrom 45 = .ok (.invokestatic 177, 3) := by decide +kernel
theorem dX7_waysFrom_48 : decode cX7_waysFrom 48 = .ok (.isub, 1) := by decide +kernel
theorem dX7_waysFrom_49 : decode cX7_waysFrom 49 = .ok (.aload_n 0, 1) := by decide +kernel
theorem dX7_waysFrom_50 : decode cX7_waysFrom 50 = .ok (.iload_n 2, 1) := by decide +kernel
theorem dX7_waysFrom_51 : decode cX7_waysFrom 51 = .ok (.invokevirtual 208, 3) := by decide +kernel
theorem dX7_waysFrom_54 : decode cX7_waysFrom 54 = .ok (.if_icmp .le 5, 3) := by decide +kernel
theorem dX7_waysFrom_57 : decode cX7_waysFrom 57 = .ok (.iconst 0, 1) := by decide +kernel
theorem dX7_waysFrom_58 : decode cX7_waysFrom 58 = .ok (.ireturn, 1) := by decide +kernel
theorem dX7_waysFrom_59 : decode cX7_waysFrom 59 = .ok (.aload_n 0, 1) := by decide +kernel
theorem dX7_waysFrom_60 : decode cX7_waysFrom 60 = .ok (.getfield 113, 3) := by decide +kernel
theorem dX7_waysFrom_63 : decode cX7_waysFrom 63 = .ok (.iload_n 2, 1) := by decide +kernel
theorem dX7_waysFrom_64 : decode cX7_waysFrom 64 = .ok (.aaload, 1) := by decide +kernel
theorem dX7_waysFrom_65 : decode cX7_waysFrom 65 = .ok (.getfield 125, 3) := by decide +kernel
theorem dX7_waysFrom_68 : decode cX7_waysFrom 68 = .ok (.astore 4, 2) := by decide +kernel
theorem dX7_waysFrom_70 : decode cX7_waysFrom 70 = .ok (.iconst 0, 1) := by decide +kernel
theorem dX7_waysFrom_71 : decode cX7_waysFrom 71 = .ok (.istore 5, 2) := by decide +kernel
theorem dX7_waysFrom_73 : decode cX7_waysFrom 73 = .ok (.iconst 0, 1) := by decide +kernel
theorem dX7_waysFrom_74 : decode cX7_waysFrom 74 = .ok (.istore 6, 2) := by decide +kernel
theorem dX7_waysFrom_76 : decode cX7_waysFrom 76 = .ok (.iload 6, 2) := by decide +kernel
theorem dX7_waysFrom_78 : decode cX7_waysFrom 78 = .ok (.aload 4, 2) := by decide +kernel
theorem dX7_waysFrom_80 : decode cX7_waysFrom 80 = .ok (.getfield 102, 3) := by decide +kernel
theorem dX7_waysFrom_83 : decode cX7_waysFrom 83 = .ok (.iadd, 1) := by decide +kernel
theorem dX7_waysFrom_84 : decode cX7_waysFrom 84 = .ok (.aload_n 1, 1) := by decide +kernel
theorem dX7_waysFrom_85 : decode cX7_waysFrom 85 = .ok (.getfield 102, 3) := by decide +kernel
theorem dX7_waysFrom_88 : decode cX7_waysFrom 88 = .ok (.if_icmp .gt 42, 3) := by decide +kernel
theorem dX7_waysFrom_91 : decode cX7_waysFrom 91 = .ok (.aload_n 1, 1) := by decide +kernel
theorem dX7_waysFrom_92 : decode cX7_waysFrom 92 = .ok (.iload 6, 2) := by decide +kernel
theorem dX7_waysFrom_94 : decode cX7_waysFrom 94 = .ok (.aload 4, 2) := by decide +kernel
theorem dX7_waysFrom_96 : decode cX7_waysFrom 96 = .ok (.invokevirtual 211, 3) := by decide +kernel
theorem dX7_waysFrom_99 : decode cX7_waysFrom 99 = .ok (.ifCond .eq 25, 3) := by decide +kernel
theorem dX7_waysFrom_102 : decode cX7_waysFrom 102 = .ok (.iload 5, 2) := by decide +kernel
theorem dX7_waysFrom_104 : decode cX7_waysFrom 104 = .ok (.aload_n 0, 1) := by decide +kernel
theorem dX7_waysFrom_105 : decode cX7_waysFrom 105 = .ok (.aload_n 1, 1) := by decide +kernel
theorem dX7_waysFrom_106 : decode cX7_waysFrom 106 = .ok (.iload_n 2, 1) := by decide +kernel
theorem dX7_waysFrom_107 : decode cX7_waysFrom 107 = .ok (.iconst 1, 1) := by decide +kernel
theorem dX7_waysFrom_108 : decode cX7_waysFrom 108 = .ok (.iadd, 1) := by decide +kernel
theorem dX7_waysFrom_109 : decode cX7_waysFrom 109 = .ok (.iload_n 3, 1) := by decide +kernel
theorem dX7_waysFrom_110 : decode cX7_waysFrom 110 = .ok (.aload 4, 2) := by decide +kernel
theorem dX7_waysFrom_112 : decode cX7_waysFrom 112 = .ok (.iload 6, 2) := by decide +kernel
theorem dX7_waysFrom_114 : decode cX7_waysFrom 114 = .ok (.invokevirtual 215, 3) := by decide +kernel
theorem dX7_waysFrom_117 : decode cX7_waysFrom 117 = .ok (.ior, 1) := by decide +kernel
theorem dX7_waysFrom_118 : decode cX7_waysFrom 118 = .ok (.invokestatic 204, 3) := by decide +kernel
theorem dX7_waysFrom_121 : decode cX7_waysFrom 121 = .ok (.iadd, 1) := by decide +kernel
theorem dX7_waysFrom_122 : decode cX7_waysFrom 122 = .ok (.istore 5, 2) := by decide +kernel
theorem dX7_waysFrom_124 : decode cX7_waysFrom 124 = .ok (.iinc 6 1, 3) := by decide +kernel
theorem dX7_waysFrom_127 : decode cX7_waysFrom 127 = .ok (.goto (-51), 3) := by decide +kernel
theorem dX7_waysFrom_130 : decode cX7_waysFrom 130 = .ok (.iload 5, 2) := by decide +kernel
theorem dX7_waysFrom_132 : decode cX7_waysFrom 132 = .ok (.ireturn, 1) := by decide +kernel
theorem dX7_judge_0 : decode cX7_judge 0 = .ok (.iload_n 1, 1) := by decide +kernel
theorem dX7_judge_1 : decode cX7_judge 1 = .ok (.iconst 1, 1) := by decide +kernel
theorem dX7_judge_2 : decode cX7_judge 2 = .ok (.if_icmp .lt 8, 3) := by decide +kernel
theorem dX7_judge_5 : decode cX7_judge 5 = .ok (.iload_n 1, 1) := by decide +kernel
theorem dX7_judge_6 : decode cX7_judge 6 = .ok (.iconst 4, 1) := by decide +kernel
theorem dX7_judge_7 : decode cX7_judge 7 = .ok (.if_icmp .le 6, 3) := by decide +kernel
theorem dX7_judge_10 : decode cX7_judge 10 = .ok (.bipush (-2), 2) := by decide +kernel
theorem dX7_judge_12 : decode cX7_judge 12 = .ok (.ireturn, 1) := by decide +kernel
theorem dX7_judge_13 : decode cX7_judge 13 = .ok (.lconst 1, 1) := by decide +kernel
theorem dX7_judge_14 : decode cX7_judge 14 = .ok (.lstore 4, 2) := by decide +kernel
theorem dX7_judge_16 : decode cX7_judge 16 = .ok (.iconst 0, 1) := by decide +kernel
theorem dX7_judge_17 : decode cX7_judge 17 = .ok (.istore 6, 2) := by decide +kernel
theorem dX7_judge_19 : decode cX7_judge 19 = .ok (.iload 6, 2) := by decide +kernel
theorem dX7_judge_21 : decode cX7_judge 21 = .ok (.iload_n 1, 1) := by decide +kernel
theorem dX7_judge_22 : decode cX7_judge 22 = .ok (.if_icmp .ge 17, 3) := by decide +kernel
theorem dX7_judge_25 : decode cX7_judge 25 = .ok (.lload 4, 2) := by decide +kernel
theorem dX7_judge_27 : decode cX7_judge 27 = .ok (.ldc2_w 218, 3) := by decide +kernel
theorem dX7_judge_30 : decode cX7_judge 30 = .ok (.lmul, 1) := by decide +kernel
theorem dX7_judge_31 : decode cX7_judge 31 = .ok (.lstore 4, 2) := by decide +kernel
theorem dX7_judge_33 : decode cX7_judge 33 = .ok (.iinc 6 1, 3) := by decide +kernel
theorem dX7_judge_36 : decode cX7_judge 36 = .ok (.goto (-17), 3) := by decide +kernel
theorem dX7_judge_39 : decode cX7_judge 39 = .ok (.lload_n 2, 1) := by decide +kernel
theorem dX7_judge_40 : decode cX7_judge 40 = .ok (.lconst 0, 1) := by decide +kernel
theorem dX7_judge_41 : decode cX7_judge 41 = .ok (.lcmp, 1) := by decide +kernel
theorem dX7_judge_42 : decode cX7_judge 42 = .ok (.ifCond .lt 10, 3) := by decide +kernel
theorem dX7_judge_45 : decode cX7_judge 45 = .ok (.lload_n 2, 1) := by decide +kernel
theorem dX7_judge_46 : decode cX7_judge 46 = .ok (.lload 4, 2) := by decide +kernel
theorem dX7_judge_48 : decode cX7_judge 48 = .ok (.lcmp, 1) := by decide +kernel
theorem dX7_judge_49 : decode cX7_judge 49 = .ok (.ifCond .lt 6, 3) := by decide +kernel
theorem dX7_judge_52 : decode cX7_judge 52 = .ok (.bipush (-2), 2) := by decide +kernel
theorem dX7_judge_54 : decode cX7_judge 54 = .ok (.ireturn, 1) := by decide +kernel
theorem dX7_judge_55 : decode cX7_judge 55 = .ok (.aload_n 0, 1) := by decide +kernel
theorem dX7_judge_56 : decode cX7_judge 56 = .ok (.getfield 23, 3) := by decide +kernel
theorem dX7_judge_59 : decode cX7_judge 59 = .ok (.aload_n 0, 1) := by decide +kernel
theorem dX7_judge_60 : decode cX7_judge 60 = .ok (.getfield 19, 3) := by decide +kernel
theorem dX7_judge_63 : decode cX7_judge 63 = .ok (.invokevirtual 142, 3) := by decide +kernel
theorem dX7_judge_66 : decode cX7_judge 66 = .ok (.lload_n 2, 1) := by decide +kernel
theorem dX7_judge_67 : decode cX7_judge 67 = .ok (.lstore 6, 2) := by decide +kernel
theorem dX7_judge_69 : decode cX7_judge 69 = .ok (.iconst 0, 1) := by decide +kernel
theorem dX7_judge_70 : decode cX7_judge 70 = .ok (.istore 8, 2) := by decide +kernel
theorem dX7_judge_72 : decode cX7_judge 72 = .ok (.iload 8, 2) := by decide +kernel
theorem dX7_judge_74 : decode cX7_judge 74 = .ok (.iload_n 1, 1) := by decide +kernel
theorem dX7_judge_75 : decode cX7_judge 75 = .ok (.if_icmp .ge 44, 3) := by decide +kernel
theorem dX7_judge_78 : decode cX7_judge 78 = .ok (.lload 4, 2) := by decide +kernel
theorem dX7_judge_80 : decode cX7_judge 80 = .ok (.ldc2_w 218, 3) := by decide +kernel
theorem dX7_judge_83 : decode cX7_judge 83 = .ok (.ldiv, 1) := by decide +kernel
theorem dX7_judge_84 : decode cX7_judge 84 = .ok (.lconst 1, 1) := by decide +kernel
theorem dX7_judge_85 : decode cX7_judge 85 = .ok (.invokestatic 220, 3) := by decide +kernel
theorem dX7_judge_88 : decode cX7_judge 88 = .ok (.lstore 4, 2) := by decide +kernel
theorem dX7_judge_90 : decode cX7_judge 90 = .ok (.aload_n 0, 1) := by decide +kernel
theorem dX7_judge_91 : decode cX7_judge 91 = .ok (.lload 6, 2) := by decide +kernel
theorem dX7_judge_93 : decode cX7_judge 93 = .ok (.lload 4, 2) := by decide +kernel
theorem dX7_judge_95 : decode cX7_judge 95 = .ok (.ldiv, 1) := by decide +kernel
theorem dX7_judge_96 : decode cX7_judge 96 = .ok (.l2i, 1) := by decide +kernel
theorem dX7_judge_97 : decode cX7_judge 97 = .ok (.invokevirtual 226, 3) := by decide +kernel
theorem dX7_judge_100 : decode cX7_judge 100 = .ok (.ifCond .ne 6, 3) := by decide +kernel
theorem dX7_judge_103 : decode cX7_judge 103 = .ok (.iload 8, 2) := by decide +kernel
theorem dX7_judge_105 : decode cX7_judge 105 = .ok (.ireturn, 1) := by decide +kernel
theorem dX7_judge_106 : decode cX7_judge 106 = .ok (.lload 6, 2) := by decide +kernel
theorem dX7_judge_108 : decode cX7_judge 108 = .ok (.lload 4, 2) := by decide +kernel
theorem dX7_judge_110 : decode cX7_judge 110 = .ok (.lrem, 1) := by decide +kernel
theorem dX7_judge_111 : decode cX7_judge 111 = .ok (.lstore 6, 2) := by decide +kernel
theorem dX7_judge_113 : decode cX7_judge 113 = .ok (.iinc 8 1, 3) := by decide +kernel
theorem dX7_judge_116 : decode cX7_judge 116 = .ok (.goto (-44), 3) := by decide +kernel
theorem dX7_judge_119 : decode cX7_judge 119 = .ok (.bipush (-9), 2) := by decide +kernel
theorem dX7_judge_121 : decode cX7_judge 121 = .ok (.ireturn, 1) := by decide +kernel
theorem dX7_canBe_0 : decode cX7_canBe 0 = .ok (.iload_n 1, 1) := by decide +kernel
theorem dX7_canBe_1 : decode cX7_canBe 1 = .ok (.bipush 10, 2) := by decide +kernel
theorem dX7_canBe_3 : decode cX7_canBe 3 = .ok (.idiv, 1) := by decide +kernel
theorem dX7_canBe_4 : decode cX7_canBe 4 = .ok (.bipush 10, 2) := by decide +kernel
theorem dX7_canBe_6 : decode cX7_canBe 6 = .ok (.irem, 1) := by decide +kernel
theorem dX7_canBe_7 : decode cX7_canBe 7 = .ok (.istore_n 2, 1) := by decide +kernel
theorem dX7_canBe_8 : decode cX7_canBe 8 = .ok (.iload_n 1, 1) := by decide +kernel
theorem dX7_canBe_9 : decode cX7_canBe 9 = .ok (.bipush 10, 2) := by decide +kernel
theorem dX7_canBe_11 : decode cX7_canBe 11 = .ok (.irem, 1) := by decide +kernel
theorem dX7_canBe_12 : decode cX7_canBe 12 = .ok (.istore_n 3, 1) := by decide +kernel
theorem dX7_canBe_13 : decode cX7_canBe 13 = .ok (.iload_n 1, 1) := by decide +kernel
theorem dX7_canBe_14 : decode cX7_canBe 14 = .ok (.bipush 100, 2) := by decide +kernel
theorem dX7_canBe_16 : decode cX7_canBe 16 = .ok (.idiv, 1) := by decide +kernel
theorem dX7_canBe_17 : decode cX7_canBe 17 = .ok (.tableswitch 222 0 6 #[43, 63, 81, 102, 123, 141, 177], 43) := by decide +kernel
theorem dX7_canBe_60 : decode cX7_canBe 60 = .ok (.iload_n 1, 1) := by decide +kernel
theorem dX7_canBe_61 : decode cX7_canBe 61 = .ok (.ifCond .ne 17, 3) := by decide +kernel
theorem dX7_canBe_64 : decode cX7_canBe 64 = .ok (.aload_n 0, 1) := by decide +kernel
theorem dX7_canBe_65 : decode cX7_canBe 65 = .ok (.getfield 23, 3) := by decide +kernel
theorem dX7_canBe_68 : decode cX7_canBe 68 = .ok (.invokevirtual 145, 3) := by decide +kernel
theorem dX7_canBe_71 : decode cX7_canBe 71 = .ok (.ifCond .lt 7, 3) := by decide +kernel
theorem dX7_canBe_74 : decode cX7_canBe 74 = .ok (.iconst 1, 1) := by decide +kernel
theorem dX7_canBe_75 : decode cX7_canBe 75 = .ok (.goto 4, 3) := by decide +kernel
theorem dX7_canBe_78 : decode cX7_canBe 78 = .ok (.iconst 0, 1) := by decide +kernel
theorem dX7_canBe_79 : decode cX7_canBe 79 = .ok (.ireturn, 1) := by decide +kernel
theorem dX7_canBe_80 : decode cX7_canBe 80 = .ok (.aload_n 0, 1) := by decide +kernel
theorem dX7_canBe_81 : decode cX7_canBe 81 = .ok (.getfield 23, 3) := by decide +kernel
theorem dX7_canBe_84 : decode cX7_canBe 84 = .ok (.iload_n 2, 1) := by decide +kernel
theorem dX7_canBe_85 : decode cX7_canBe 85 = .ok (.iload_n 3, 1) := by decide +kernel
theorem dX7_canBe_86 : decode cX7_canBe 86 = .ok (.invokevirtual 151, 3) := by decide +kernel
theorem dX7_canBe_89 : decode cX7_canBe 89 = .ok (.ifCond .lt 7, 3) := by decide +kernel
theorem dX7_canBe_92 : decode cX7_canBe 92 = .ok (.iconst 1, 1) := by decide +kernel
theorem dX7_canBe_93 : decode cX7_canBe 93 = .ok (.goto 4, 3) := by decide +kernel
theorem dX7_canBe_96 : decode cX7_canBe 96 = .ok (.iconst 0, 1) := by decide +kernel
theorem dX7_canBe_97 : decode cX7_canBe 97 = .ok (.ireturn, 1) := by decide +kernel
theorem dX7_canBe_98 : decode cX7_canBe 98 = .ok (.iload_n 2, 1) := by decide +kernel
theorem dX7_canBe_99 : decode cX7_canBe 99 = .ok (.ifCond .ne 18, 3) := by decide +kernel
theorem dX7_canBe_102 : decode cX7_canBe 102 = .ok (.aload_n 0, 1) := by decide +kernel
theorem dX7_canBe_103 : decode cX7_canBe 103 = .ok (.getfield 23, 3) := by decide +kernel
theorem dX7_canBe_106 : decode cX7_canBe 106 = .ok (.iload_n 3, 1) := by decide +kernel
theorem dX7_canBe_107 : decode cX7_canBe 107 = .ok (.invokevirtual 155, 3) := by decide +kernel
theorem dX7_canBe_110 : decode cX7_canBe 110 = .ok (.ifCond .lt 7, 3) := by decide +kernel
theorem dX7_canBe_113 : decode cX7_canBe 113 = .ok (.iconst 1, 1) := by decide +kernel
theorem dX7_canBe_114 : decode cX7_canBe 114 = .ok (.goto 4, 3) := by decide +kernel
theorem dX7_canBe_117 : decode cX7_canBe 117 = .ok (.iconst 0, 1) := by decide +kernel
theorem dX7_canBe_118 : decode cX7_canBe 118 = .ok (.ireturn, 1) := by decide +kernel
theorem dX7_canBe_119 : decode cX7_canBe 119 = .ok (.iload_n 2, 1) := by decide +kernel
theorem dX7_canBe_120 : decode cX7_canBe 120 = .ok (.ifCond .ne 18, 3) := by decide +kernel
theorem dX7_canBe_123 : decode cX7_canBe 123 = .ok (.aload_n 0, 1) := by decide +kernel
theorem dX7_canBe_124 : decode cX7_canBe 124 = .ok (.getfield 23, 3) := by decide +kernel
theorem dX7_canBe_127 : decode cX7_canBe 127 = .ok (.iload_n 3, 1) := by decide +kernel
theorem dX7_canBe_128 : decode cX7_canBe 128 = .ok (.invokevirtual 158, 3) := by decide +kernel
theorem dX7_canBe_131 : decode cX7_canBe 131 = .ok (.ifCond .lt 7, 3) := by decide +kernel
theorem dX7_canBe_134 : decode cX7_canBe 134 = .ok (.iconst 1, 1) := by decide +kernel
theorem dX7_canBe_135 : decode cX7_canBe 135 = .ok (.goto 4, 3) := by decide +kernel
theorem dX7_canBe_138 : decode cX7_canBe 138 = .ok (.iconst 0, 1) := by decide +kernel
theorem dX7_canBe_139 : decode cX7_canBe 139 = .ok (.ireturn, 1) := by decide +kernel
theorem dX7_canBe_140 : decode cX7_canBe 140 = .ok (.aload_n 0, 1) := by decide +kernel
theorem dX7_canBe_141 : decode cX7_canBe 141 = .ok (.getfield 23, 3) := by decide +kernel
theorem dX7_canBe_144 : decode cX7_canBe 144 = .ok (.iload_n 2, 1) := by decide +kernel
theorem dX7_canBe_145 : decode cX7_canBe 145 = .ok (.iload_n 3, 1) := by decide +kernel
theorem dX7_canBe_146 : decode cX7_canBe 146 = .ok (.invokevirtual 161, 3) := by decide +kernel
theorem dX7_canBe_149 : decode cX7_canBe 149 = .ok (.ifCond .lt 7, 3) := by decide +kernel
theorem dX7_canBe_152 : decode cX7_canBe 152 = .ok (.iconst 1, 1) := by decide +kernel
theorem dX7_canBe_153 : decode cX7_canBe 153 = .ok (.goto 4, 3) := by decide +kernel
theorem dX7_canBe_156 : decode cX7_canBe 156 = .ok (.iconst 0, 1) := by decide +kernel
theorem dX7_canBe_157 : decode cX7_canBe 157 = .ok (.ireturn, 1) := by decide +kernel
theorem dX7_canBe_158 : decode cX7_canBe 158 = .ok (.aload_n 0, 1) := by decide +kernel
theorem dX7_canBe_159 : decode cX7_canBe 159 = .ok (.getfield 23, 3) := by decide +kernel
theorem dX7_canBe_162 : decode cX7_canBe 162 = .ok (.iload_n 2, 1) := by decide +kernel
theorem dX7_canBe_163 : decode cX7_canBe 163 = .ok (.invokevirtual 109, 3) := by decide +kernel
theorem dX7_canBe_166 : decode cX7_canBe 166 = .ok (.ifCond .eq 26, 3) := by decide +kernel
theorem dX7_canBe_169 : decode cX7_canBe 169 = .ok (.aload_n 0, 1) := by decide +kernel
theorem dX7_canBe_170 : decode cX7_canBe 170 = .ok (.getfield 23, 3) := by decide +kernel
theorem dX7_canBe_173 : decode cX7_canBe 173 = .ok (.getfield 113, 3) := by decide +kernel
theorem dX7_canBe_176 : decode cX7_canBe 176 = .ok (.iload_n 2, 1) := by decide +kernel
theorem dX7_canBe_177 : decode cX7_canBe 177 = .ok (.aaload, 1) := by decide +kernel
theorem dX7_canBe_178 : decode cX7_canBe 178 = .ok (.getfield 125, 3) := by decide +kernel
theorem dX7_canBe_181 : decode cX7_canBe 181 = .ok (.getfield 102, 3) := by decide +kernel
theorem dX7_canBe_184 : decode cX7_canBe 184 = .ok (.iload_n 3, 1) := by decide +kernel
theorem dX7_canBe_185 : decode cX7_canBe 185 = .ok (.if_icmp .lt 7, 3) := by decide +kernel
theorem dX7_canBe_188 : decode cX7_canBe 188 = .ok (.iconst 1, 1) := by decide +kernel
theorem dX7_canBe_189 : decode cX7_canBe 189 = .ok (.goto 4, 3) := by decide +kernel
theorem dX7_canBe_192 : decode cX7_canBe 192 = .ok (.iconst 0, 1) := by decide +kernel
theorem dX7_canBe_193 : decode cX7_canBe 193 = .ok (.ireturn, 1) := by decide +kernel
theorem dX7_canBe_194 : decode cX7_canBe 194 = .ok (.iload_n 2, 1) := by decide +kernel
theorem dX7_canBe_195 : decode cX7_canBe 195 = .ok (.ifCond .ne 42, 3) := by decide +kernel
theorem dX7_canBe_198 : decode cX7_canBe 198 = .ok (.aload_n 0, 1) := by decide +kernel
theorem dX7_canBe_199 : decode cX7_canBe 199 = .ok (.getfield 23, 3) := by decide +kernel
theorem dX7_canBe_202 : decode cX7_canBe 202 = .ok (.iload_n 3, 1) := by decide +kernel
theorem dX7_canBe_203 : decode cX7_canBe 203 = .ok (.invokevirtual 109, 3) := by decide +kernel
theorem dX7_canBe_206 : decode cX7_canBe 206 = .ok (.ifCond .eq 31, 3) := by decide +kernel
theorem dX7_canBe_209 : decode cX7_canBe 209 = .ok (.aload_n 0, 1) := by decide +kernel
theorem dX7_canBe_210 : decode cX7_canBe 210 = .ok (.getfield 52, 3) := by decide +kernel
theorem dX7_canBe_213 : decode cX7_canBe 213 = .ok (.aload_n 0, 1) := by decide +kernel
theorem dX7_canBe_214 : decode cX7_canBe 214 = .ok (.getfield 23, 3) := by decide +kernel
theorem dX7_canBe_217 : decode cX7_canBe 217 = .ok (.getfield 113, 3) := by decide +kernel
theorem dX7_canBe_220 : decode cX7_canBe 220 = .ok (.iload_n 3, 1) := by decide +kernel
theorem dX7_canBe_221 : decode cX7_canBe 221 = .ok (.aaload, 1) := by decide +kernel
theorem dX7_canBe_222 : decode cX7_canBe 222 = .ok (.getfield 125, 3) := by decide +kernel
theorem dX7_canBe_225 : decode cX7_canBe 225 = .ok (.invokevirtual 128, 3) := by decide +kernel
theorem dX7_canBe_228 : decode cX7_canBe 228 = .ok (.bipush (-9), 2) := by decide +kernel
theorem dX7_canBe_230 : decode cX7_canBe 230 = .ok (.if_icmp .eq 7, 3) := by decide +kernel
theorem dX7_canBe_233 : decode cX7_canBe 233 = .ok (.iconst 1, 1) := by decide +kernel
theorem dX7_canBe_234 : decode cX7_canBe 234 = .ok (.goto 4, 3) := by decide +kernel
theorem dX7_canBe_237 : decode cX7_canBe 237 = .ok (.iconst 0, 1) := by decide +kernel
theorem dX7_canBe_238 : decode cX7_canBe 238 = .ok (.ireturn, 1) := by decide +kernel
theorem dX7_canBe_239 : decode cX7_canBe 239 = .ok (.iconst 0, 1) := by decide +kernel
theorem dX7_canBe_240 : decode cX7_canBe 240 = .ok (.ireturn, 1) := by decide +kernel
theorem dX7_lay_0 : decode cX7_lay 0 = .ok (.iload_n 1, 1) := by decide +kernel
theorem dX7_lay_1 : decode cX7_lay 1 = .ok (.ifCond .lt 18, 3) := by decide +kernel
theorem dX7_lay_4 : decode cX7_lay 4 = .ok (.iload_n 1, 1) := by decide +kernel
theorem dX7_lay_5 : decode cX7_lay 5 = .ok (.bipush 12, 2) := by decide +kernel
theorem dX7_lay_7 : decode cX7_lay 7 = .ok (.if_icmp .ge 12, 3) := by decide +kernel
theorem dX7_lay_10 : decode cX7_lay 10 = .ok (.iload_n 2, 1) := by decide +kernel
theorem dX7_lay_11 : decode cX7_lay 11 = .ok (.ifCond .lt 8, 3) := by decide +kernel
theorem dX7_lay_14 : decode cX7_lay 14 = .ok (.iload_n 2, 1) := by decide +kernel
theorem dX7_lay_15 : decode cX7_lay 15 = .ok (.iconst 1, 1) := by decide +kernel
theorem dX7_lay_16 : decode cX7_lay 16 = .ok (.if_icmp .le 6, 3) := by decide +kernel
theorem dX7_lay_19 : decode cX7_lay 19 = .ok (.bipush (-2), 2) := by decide +kernel
theorem dX7_lay_21 : decode cX7_lay 21 = .ok (.ireturn, 1) := by decide +kernel
theorem dX7_lay_22 : decode cX7_lay 22 = .ok (.aload_n 0, 1) := by decide +kernel
theorem dX7_lay_23 : decode cX7_lay 23 = .ok (.getfield 43, 3) := by decide +kernel
theorem dX7_lay_26 : decode cX7_lay 26 = .ok (.iload_n 1, 1) := by decide +kernel
theorem dX7_lay_27 : decode cX7_lay 27 = .ok (.iload_n 2, 1) := by decide +kernel
theorem dX7_lay_28 : decode cX7_lay 28 = .ok (.iconst 1, 1) := by decide +kernel
theorem dX7_lay_29 : decode cX7_lay 29 = .ok (.if_icmp .ne 7, 3) := by decide +kernel
theorem dX7_lay_32 : decode cX7_lay 32 = .ok (.iconst 1, 1) := by decide +kernel
theorem dX7_lay_33 : decode cX7_lay 33 = .ok (.goto 4, 3) := by decide +kernel
theorem dX7_lay_36 : decode cX7_lay 36 = .ok (.iconst 0, 1) := by decide +kernel
theorem dX7_lay_37 : decode cX7_lay 37 = .ok (.invokevirtual 229, 3) := by decide +kernel
theorem dX7_lay_40 : decode cX7_lay 40 = .ok (.ireturn, 1) := by decide +kernel
theorem dX7_unlay_0 : decode cX7_unlay 0 = .ok (.aload_n 0, 1) := by decide +kernel
theorem dX7_unlay_1 : decode cX7_unlay 1 = .ok (.getfield 43, 3) := by decide +kernel
theorem dX7_unlay_4 : decode cX7_unlay 4 = .ok (.invokevirtual 232, 3) := by decide +kernel
theorem dX7_unlay_7 : decode cX7_unlay 7 = .ok (.ireturn, 1) := by decide +kernel
theorem dX7_which_0 : decode cX7_which 0 = .ok (.iload_n 1, 1) := by decide +kernel
theorem dX7_which_1 : decode cX7_which 1 = .ok (.ifCond .eq 11, 3) := by decide +kernel
theorem dX7_which_4 : decode cX7_which 4 = .ok (.iload_n 1, 1) := by decide +kernel
theorem dX7_which_5 : decode cX7_which 5 = .ok (.iconst 1, 1) := by decide +kernel
theorem dX7_which_6 : decode cX7_which 6 = .ok (.if_icmp .eq 6, 3) := by decide +kernel
theorem dX7_which_9 : decode cX7_which 9 = .ok (.bipush (-2), 2) := by decide +kernel
theorem dX7_which_11 : decode cX7_which 11 = .ok (.ireturn, 1) := by decide +kernel
theorem dX7_which_12 : decode cX7_which 12 = .ok (.iconst 0, 1) := by decide +kernel
theorem dX7_which_13 : decode cX7_which 13 = .ok (.istore_n 2, 1) := by decide +kernel
theorem dX7_which_14 : decode cX7_which 14 = .ok (.iconst 1, 1) := by decide +kernel
theorem dX7_which_15 : decode cX7_which 15 = .ok (.istore_n 3, 1) := by decide +kernel
theorem dX7_which_16 : decode cX7_which 16 = .ok (.iload_n 3, 1) := by decide +kernel
theorem dX7_which_17 : decode cX7_which 17 = .ok (.iconst 3, 1) := by decide +kernel
theorem dX7_which_18 : decode cX7_which 18 = .ok (.if_icmp .gt 73, 3) := by decide +kernel
theorem dX7_which_21 : decode cX7_which 21 = .ok (.iconst 0, 1) := by decide +kernel
theorem dX7_which_22 : decode cX7_which 22 = .ok (.istore 4, 2) := by decide +kernel
theorem dX7_which_24 : decode cX7_which 24 = .ok (.iload 4, 2) := by decide +kernel
theorem dX7_which_26 : decode cX7_which 26 = .ok (.iconst 1, 1) := by decide +kernel
theorem dX7_which_27 : decode cX7_which 27 = .ok (.iconst 2, 1) := by decide +kernel
theorem dX7_which_28 : decode cX7_which 28 = .ok (.iload_n 3, 1) := by decide +kernel
theorem dX7_which_29 : decode cX7_which 29 = .ok (.imul, 1) := by decide +kernel
theorem dX7_which_30 : decode cX7_which 30 = .ok (.ishl, 1) := by decide +kernel
theorem dX7_which_31 : decode cX7_which 31 = .ok (.if_icmp .ge 54, 3) := by decide +kernel
theorem dX7_which_34 : decode cX7_which 34 = .ok (.aload_n 0, 1) := by decide +kernel
theorem dX7_which_35 : decode cX7_which 35 = .ok (.iload 4, 2) := by decide +kernel
theorem dX7_which_37 : decode cX7_which 37 = .ok (.iload_n 3, 1) := by decide +kernel
theorem dX7_which_38 : decode cX7_which 38 = .ok (.invokevirtual 233, 3) := by decide +kernel
theorem dX7_which_41 : decode cX7_which 41 = .ok (.aload_n 0, 1) := by decide +kernel
theorem dX7_which_42 : decode cX7_which 42 = .ok (.getfield 43, 3) := by decide +kernel
theorem dX7_which_45 : decode cX7_which 45 = .ok (.aload_n 0, 1) := by decide +kernel
theorem dX7_which_46 : decode cX7_which 46 = .ok (.getfield 59, 3) := by decide +kernel
theorem dX7_which_49 : decode cX7_which 49 = .ok (.aload_n 0, 1) := by decide +kernel
theorem dX7_which_50 : decode cX7_which 50 = .ok (.getfield 52, 3) := by decide +kernel
theorem dX7_which_53 : decode cX7_which 53 = .ok (.invokevirtual 237, 3) := by decide +kernel
theorem dX7_which_56 : decode cX7_which 56 = .ok (.ifCond .ne 6, 3) := by decide +kernel
theorem dX7_which_59 : decode cX7_which 59 = .ok (.goto 20, 3) := by decide +kernel
theorem dX7_which_62 : decode cX7_which 62 = .ok (.iload_n 1, 1) := by decide +kernel
theorem dX7_which_63 : decode cX7_which 63 = .ok (.iconst 1, 1) := by decide +kernel
theorem dX7_which_64 : decode cX7_which 64 = .ok (.if_icmp .ne 12, 3) := by decide +kernel
theorem dX7_which_67 : decode cX7_which 67 = .ok (.aload_n 0, 1) := by decide +kernel
theorem dX7_which_68 : decode cX7_which 68 = .ok (.getfield 59, 3) := by decide +kernel
theorem dX7_which_71 : decode cX7_which 71 = .ok (.invokevirtual 132, 3) := by decide +kernel
theorem dX7_which_74 : decode cX7_which 74 = .ok (.l2i, 1) := by decide +kernel
theorem dX7_which_75 : decode cX7_which 75 = .ok (.ireturn, 1) := by decide +kernel
theorem dX7_which_76 : decode cX7_which 76 = .ok (.iinc 2 1, 3) := by decide +kernel
theorem dX7_which_79 : decode cX7_which 79 = .ok (.iinc 4 1, 3) := by decide +kernel
theorem dX7_which_82 : decode cX7_which 82 = .ok (.goto (-58), 3) := by decide +kernel
theorem dX7_which_85 : decode cX7_which 85 = .ok (.iinc 3 1, 3) := by decide +kernel
theorem dX7_which_88 : decode cX7_which 88 = .ok (.goto (-72), 3) := by decide +kernel
theorem dX7_which_91 : decode cX7_which 91 = .ok (.iload_n 1, 1) := by decide +kernel
theorem dX7_which_92 : decode cX7_which 92 = .ok (.ifCond .ne 7, 3) := by decide +kernel
theorem dX7_which_95 : decode cX7_which 95 = .ok (.iload_n 2, 1) := by decide +kernel
theorem dX7_which_96 : decode cX7_which 96 = .ok (.goto 5, 3) := by decide +kernel
theorem dX7_which_99 : decode cX7_which 99 = .ok (.bipush (-9), 2) := by decide +kernel
theorem dX7_which_101 : decode cX7_which 101 = .ok (.ireturn, 1) := by decide +kernel
theorem dX7_guessRow_0 : decode cX7_guessRow 0 = .ok (.aload_n 0, 1) := by decide +kernel
theorem dX7_guessRow_1 : decode cX7_guessRow 1 = .ok (.getfield 59, 3) := by decide +kernel
theorem dX7_guessRow_4 : decode cX7_guessRow 4 = .ok (.invokevirtual 193, 3) := by decide +kernel
theorem dX7_guessRow_7 : decode cX7_guessRow 7 = .ok (.iconst 0, 1) := by decide +kernel
theorem dX7_guessRow_8 : decode cX7_guessRow 8 = .ok (.istore_n 3, 1) := by decide +kernel
theorem dX7_guessRow_9 : decode cX7_guessRow 9 = .ok (.iload_n 3, 1) := by decide +kernel
theorem dX7_guessRow_10 : decode cX7_guessRow 10 = .ok (.iload_n 2, 1) := by decide +kernel
theorem dX7_guessRow_11 : decode cX7_guessRow 11 = .ok (.if_icmp .ge 24, 3) := by decide +kernel
theorem dX7_guessRow_14 : decode cX7_guessRow 14 = .ok (.aload_n 0, 1) := by decide +kernel
theorem dX7_guessRow_15 : decode cX7_guessRow 15 = .ok (.getfield 59, 3) := by decide +kernel
theorem dX7_guessRow_18 : decode cX7_guessRow 18 = .ok (.iload_n 1, 1) := by decide +kernel
theorem dX7_guessRow_19 : decode cX7_guessRow 19 = .ok (.iload_n 2, 1) := by decide +kernel
theorem dX7_guessRow_20 : decode cX7_guessRow 20 = .ok (.iload_n 3, 1) := by decide +kernel
theorem dX7_guessRow_21 : decode cX7_guessRow 21 = .ok (.invokestatic 189, 3) := by decide +kernel
theorem dX7_guessRow_24 : decode cX7_guessRow 24 = .ok (.iconst 1, 1) := by decide +kernel
theorem dX7_guessRow_25 : decode cX7_guessRow 25 = .ok (.iadd, 1) := by decide +kernel
theorem dX7_guessRow_26 : decode cX7_guessRow 26 = .ok (.invokevirtual 241, 3) := by decide +kernel
theorem dX7_guessRow_29 : decode cX7_guessRow 29 = .ok (.iinc 3 1, 3) := by decide +kernel
theorem dX7_guessRow_32 : decode cX7_guessRow 32 = .ok (.goto (-23), 3) := by decide +kernel
theorem dX7_guessRow_35 : decode cX7_guessRow 35 = .ok (.return_, 1) := by decide +kernel
end
section
theorem dX7_share_0 : decode cX7_share 0 = .ok (.aload_n 0, 1) := by decide +kernel
theorem dX7_share_1 : decode cX7_share 1 = .ok (.getfield 19, 3) := by decide +kernel
theorem dX7_share_4 : decode cX7_share 4 = .ok (.iload_n 1, 1) := by decide +kernel
theorem dX7_share_5 : decode cX7_share 5 = .ok (.invokevirtual 109, 3) := by decide +kernel
theorem dX7_share_8 : decode cX7_share 8 = .ok (.ifCond .ne 5, 3) := by decide +kernel
theorem dX7_share_11 : decode cX7_share 11 = .ok (.iconst (-1), 1) := by decide +kernel
theorem dX7_share_12 : decode cX7_share 12 = .ok (.ireturn, 1) := by decide +kernel
theorem dX7_share_13 : decode cX7_share 13 = .ok (.aload_n 0, 1) := by decide +kernel
theorem dX7_share_14 : decode cX7_share 14 = .ok (.invokevirtual 198, 3) := by decide +kernel
theorem dX7_share_17 : decode cX7_share 17 = .ok (.iconst 0, 1) := by decide +kernel
theorem dX7_share_18 : decode cX7_share 18 = .ok (.istore_n 3, 1) := by decide +kernel
theorem dX7_share_19 : decode cX7_share 19 = .ok (.iconst 0, 1) := by decide +kernel
theorem dX7_share_20 : decode cX7_share 20 = .ok (.istore 4, 2) := by decide +kernel
theorem dX7_share_22 : decode cX7_share 22 = .ok (.iload 4, 2) := by decide +kernel
theorem dX7_share_24 : decode cX7_share 24 = .ok (.aload_n 0, 1) := by decide +kernel
theorem dX7_share_25 : decode cX7_share 25 = .ok (.getfield 52, 3) := by decide +kernel
theorem dX7_share_28 : decode cX7_share 28 = .ok (.getfield 102, 3) := by decide +kernel
theorem dX7_share_31 : decode cX7_share 31 = .ok (.if_icmp .ge 40, 3) := by decide +kernel
theorem dX7_share_34 : decode cX7_share 34 = .ok (.aload_n 0, 1) := by decide +kernel
theorem dX7_share_35 : decode cX7_share 35 = .ok (.getfield 62, 3) := by decide +kernel
theorem dX7_share_38 : decode cX7_share 38 = .ok (.iload_n 1, 1) := by decide +kernel
theorem dX7_share_39 : decode cX7_share 39 = .ok (.iaload, 1) := by decide +kernel
theorem dX7_share_40 : decode cX7_share 40 = .ok (.iload 4, 2) := by decide +kernel
theorem dX7_share_42 : decode cX7_share 42 = .ok (.ishr, 1) := by decide +kernel
theorem dX7_share_43 : decode cX7_share 43 = .ok (.iconst 1, 1) := by decide +kernel
theorem dX7_share_44 : decode cX7_share 44 = .ok (.iand, 1) := by decide +kernel
theorem dX7_share_45 : decode cX7_share 45 = .ok (.iconst 1, 1) := by decide +kernel
theorem dX7_share_46 : decode cX7_share 46 = .ok (.if_icmp .ne 19, 3) := by decide +kernel
theorem dX7_share_49 : decode cX7_share 49 = .ok (.iload_n 3, 1) := by decide +kernel
theorem dX7_share_50 : decode cX7_share 50 = .ok (.bipush 12, 2) := by decide +kernel
theorem dX7_share_52 : decode cX7_share 52 = .ok (.aload_n 0, 1) := by decide +kernel
theorem dX7_share_53 : decode cX7_share 53 = .ok (.iload 4, 2) := by decide +kernel
theorem dX7_share_55 : decode cX7_share 55 = .ok (.invokevirtual 243, 3) := by decide +kernel
theorem dX7_share_58 : decode cX7_share 58 = .ok (.iconst 1, 1) := by decide +kernel
theorem dX7_share_59 : decode cX7_share 59 = .ok (.invokestatic 246, 3) := by decide +kernel
theorem dX7_share_62 : decode cX7_share 62 = .ok (.idiv, 1) := by decide +kernel
theorem dX7_share_63 : decode cX7_share 63 = .ok (.iadd, 1) := by decide +kernel
theorem dX7_share_64 : decode cX7_share 64 = .ok (.istore_n 3, 1) := by decide +kernel
theorem dX7_share_65 : decode cX7_share 65 = .ok (.iinc 4 1, 3) := by decide +kernel
theorem dX7_share_68 : decode cX7_share 68 = .ok (.goto (-46), 3) := by decide +kernel
theorem dX7_share_71 : decode cX7_share 71 = .ok (.iload_n 3, 1) := by decide +kernel
theorem dX7_share_72 : decode cX7_share 72 = .ok (.bipush 12, 2) := by decide +kernel
theorem dX7_share_74 : decode cX7_share 74 = .ok (.iload_n 2, 1) := by decide +kernel
theorem dX7_share_75 : decode cX7_share 75 = .ok (.invokestatic 248, 3) := by decide +kernel
theorem dX7_share_78 : decode cX7_share 78 = .ok (.ireturn, 1) := by decide +kernel
theorem dX7_coversOn_0 : decode cX7_coversOn 0 = .ok (.iconst 0, 1) := by decide +kernel
theorem dX7_coversOn_1 : decode cX7_coversOn 1 = .ok (.istore_n 2, 1) := by decide +kernel
theorem dX7_coversOn_2 : decode cX7_coversOn 2 = .ok (.iconst 0, 1) := by decide +kernel
theorem dX7_coversOn_3 : decode cX7_coversOn 3 = .ok (.istore_n 3, 1) := by decide +kernel
theorem dX7_coversOn_4 : decode cX7_coversOn 4 = .ok (.iload_n 3, 1) := by decide +kernel
theorem dX7_coversOn_5 : decode cX7_coversOn 5 = .ok (.iconst 4, 1) := by decide +kernel
theorem dX7_coversOn_6 : decode cX7_coversOn 6 = .ok (.if_icmp .ge 22, 3) := by decide +kernel
theorem dX7_coversOn_9 : decode cX7_coversOn 9 = .ok (.iload_n 2, 1) := by decide +kernel
theorem dX7_coversOn_10 : decode cX7_coversOn 10 = .ok (.aload_n 0, 1) := by decide +kernel
theorem dX7_coversOn_11 : decode cX7_coversOn 11 = .ok (.getfield 62, 3) := by decide +kernel
theorem dX7_coversOn_14 : decode cX7_coversOn 14 = .ok (.iload_n 3, 1) := by decide +kernel
theorem dX7_coversOn_15 : decode cX7_coversOn 15 = .ok (.iaload, 1) := by decide +kernel
theorem dX7_coversOn_16 : decode cX7_coversOn 16 = .ok (.iload_n 1, 1) := by decide +kernel
theorem dX7_coversOn_17 : decode cX7_coversOn 17 = .ok (.ishr, 1) := by decide +kernel
theorem dX7_coversOn_18 : decode cX7_coversOn 18 = .ok (.iconst 1, 1) := by decide +kernel
theorem dX7_coversOn_19 : decode cX7_coversOn 19 = .ok (.iand, 1) := by decide +kernel
theorem dX7_coversOn_20 : decode cX7_coversOn 20 = .ok (.iadd, 1) := by decide +kernel
theorem dX7_coversOn_21 : decode cX7_coversOn 21 = .ok (.istore_n 2, 1) := by decide +kernel
theorem dX7_coversOn_22 : decode cX7_coversOn 22 = .ok (.iinc 3 1, 3) := by decide +kernel
theorem dX7_coversOn_25 : decode cX7_coversOn 25 = .ok (.goto (-21), 3) := by decide +kernel
theorem dX7_coversOn_28 : decode cX7_coversOn 28 = .ok (.iload_n 2, 1) := by decide +kernel
theorem dX7_coversOn_29 : decode cX7_coversOn 29 = .ok (.ireturn, 1) := by decide +kernel
theorem dX7_rests_0 : decode cX7_rests 0 = .ok (.aload_n 0, 1) := by decide +kernel
theorem dX7_rests_1 : decode cX7_rests 1 = .ok (.getfield 19, 3) := by decide +kernel
theorem dX7_rests_4 : decode cX7_rests 4 = .ok (.iload_n 1, 1) := by decide +kernel
theorem dX7_rests_5 : decode cX7_rests 5 = .ok (.invokevirtual 109, 3) := by decide +kernel
theorem dX7_rests_8 : decode cX7_rests 8 = .ok (.ifCond .eq 14, 3) := by decide +kernel
theorem dX7_rests_11 : decode cX7_rests 11 = .ok (.aload_n 0, 1) := by decide +kernel
theorem dX7_rests_12 : decode cX7_rests 12 = .ok (.getfield 19, 3) := by decide +kernel
theorem dX7_rests_15 : decode cX7_rests 15 = .ok (.iload_n 2, 1) := by decide +kernel
theorem dX7_rests_16 : decode cX7_rests 16 = .ok (.invokevirtual 109, 3) := by decide +kernel
theorem dX7_rests_19 : decode cX7_rests 19 = .ok (.ifCond .ne 5, 3) := by decide +kernel
theorem dX7_rests_22 : decode cX7_rests 22 = .ok (.iconst (-1), 1) := by decide +kernel
theorem dX7_rests_23 : decode cX7_rests 23 = .ok (.ireturn, 1) := by decide +kernel
theorem dX7_rests_24 : decode cX7_rests 24 = .ok (.iload_n 1, 1) := by decide +kernel
theorem dX7_rests_25 : decode cX7_rests 25 = .ok (.iload_n 2, 1) := by decide +kernel
theorem dX7_rests_26 : decode cX7_rests 26 = .ok (.if_icmp .eq 12, 3) := by decide +kernel
theorem dX7_rests_29 : decode cX7_rests 29 = .ok (.iload_n 3, 1) := by decide +kernel
theorem dX7_rests_30 : decode cX7_rests 30 = .ok (.ifCond .lt 8, 3) := by decide +kernel
theorem dX7_rests_33 : decode cX7_rests 33 = .ok (.iload_n 3, 1) := by decide +kernel
theorem dX7_rests_34 : decode cX7_rests 34 = .ok (.iconst 1, 1) := by decide +kernel
theorem dX7_rests_35 : decode cX7_rests 35 = .ok (.if_icmp .le 6, 3) := by decide +kernel
theorem dX7_rests_38 : decode cX7_rests 38 = .ok (.bipush (-2), 2) := by decide +kernel
theorem dX7_rests_40 : decode cX7_rests 40 = .ok (.ireturn, 1) := by decide +kernel
theorem dX7_rests_41 : decode cX7_rests 41 = .ok (.aload_n 0, 1) := by decide +kernel
theorem dX7_rests_42 : decode cX7_rests 42 = .ok (.iload_n 1, 1) := by decide +kernel
theorem dX7_rests_43 : decode cX7_rests 43 = .ok (.iload_n 2, 1) := by decide +kernel
theorem dX7_rests_44 : decode cX7_rests 44 = .ok (.invokevirtual 252, 3) := by decide +kernel
theorem dX7_rests_47 : decode cX7_rests 47 = .ok (.iconst 0, 1) := by decide +kernel
theorem dX7_rests_48 : decode cX7_rests 48 = .ok (.istore 4, 2) := by decide +kernel
theorem dX7_rests_50 : decode cX7_rests 50 = .ok (.iconst 0, 1) := by decide +kernel
theorem dX7_rests_51 : decode cX7_rests 51 = .ok (.istore 5, 2) := by decide +kernel
theorem dX7_rests_53 : decode cX7_rests 53 = .ok (.iload 5, 2) := by decide +kernel
theorem dX7_rests_55 : decode cX7_rests 55 = .ok (.bipush 16, 2) := by decide +kernel
theorem dX7_rests_57 : decode cX7_rests 57 = .ok (.if_icmp .ge 42, 3) := by decide +kernel
theorem dX7_rests_60 : decode cX7_rests 60 = .ok (.aload_n 0, 1) := by decide +kernel
theorem dX7_rests_61 : decode cX7_rests 61 = .ok (.iload 5, 2) := by decide +kernel
theorem dX7_rests_63 : decode cX7_rests 63 = .ok (.invokevirtual 255, 3) := by decide +kernel
theorem dX7_rests_66 : decode cX7_rests 66 = .ok (.ifCond .ne 6, 3) := by decide +kernel
theorem dX7_rests_69 : decode cX7_rests 69 = .ok (.goto 24, 3) := by decide +kernel
theorem dX7_rests_72 : decode cX7_rests 72 = .ok (.iload_n 3, 1) := by decide +kernel
theorem dX7_rests_73 : decode cX7_rests 73 = .ok (.iconst 1, 1) := by decide +kernel
theorem dX7_rests_74 : decode cX7_rests 74 = .ok (.if_icmp .ne 16, 3) := by decide +kernel
theorem dX7_rests_77 : decode cX7_rests 77 = .ok (.bipush 10, 2) := by decide +kernel
theorem dX7_rests_79 : decode cX7_rests 79 = .ok (.iload 5, 2) := by decide +kernel
theorem dX7_rests_81 : decode cX7_rests 81 = .ok (.iconst 4, 1) := by decide +kernel
theorem dX7_rests_82 : decode cX7_rests 82 = .ok (.idiv, 1) := by decide +kernel
theorem dX7_rests_83 : decode cX7_rests 83 = .ok (.imul, 1) := by decide +kernel
theorem dX7_rests_84 : decode cX7_rests 84 = .ok (.iload 5, 2) := by decide +kernel
theorem dX7_rests_86 : decode cX7_rests 86 = .ok (.iconst 4, 1) := by decide +kernel
theorem dX7_rests_87 : decode cX7_rests 87 = .ok (.irem, 1) := by decide +kernel
theorem dX7_rests_88 : decode cX7_rests 88 = .ok (.iadd, 1) := by decide +kernel
theorem dX7_rests_89 : decode cX7_rests 89 = .ok (.ireturn, 1) := by decide +kernel
theorem dX7_rests_90 : decode cX7_rests 90 = .ok (.iinc 4 1, 3) := by decide +kernel
theorem dX7_rests_93 : decode cX7_rests 93 = .ok (.iinc 5 1, 3) := by decide +kernel
theorem dX7_rests_96 : decode cX7_rests 96 = .ok (.goto (-43), 3) := by decide +kernel
theorem dX7_rests_99 : decode cX7_rests 99 = .ok (.iload_n 3, 1) := by decide +kernel
theorem dX7_rests_100 : decode cX7_rests 100 = .ok (.ifCond .ne 8, 3) := by decide +kernel
theorem dX7_rests_103 : decode cX7_rests 103 = .ok (.iload 4, 2) := by decide +kernel
theorem dX7_rests_105 : decode cX7_rests 105 = .ok (.goto 5, 3) := by decide +kernel
theorem dX7_rests_108 : decode cX7_rests 108 = .ok (.bipush (-9), 2) := by decide +kernel
theorem dX7_rests_110 : decode cX7_rests 110 = .ok (.ireturn, 1) := by decide +kernel
theorem dX7_findGains_0 : decode cX7_findGains 0 = .ok (.iconst 0, 1) := by decide +kernel
theorem dX7_findGains_1 : decode cX7_findGains 1 = .ok (.istore_n 3, 1) := by decide +kernel
theorem dX7_findGains_2 : decode cX7_findGains 2 = .ok (.iload_n 3, 1) := by decide +kernel
theorem dX7_findGains_3 : decode cX7_findGains 3 = .ok (.bipush 16, 2) := by decide +kernel
theorem dX7_findGains_5 : decode cX7_findGains 5 = .ok (.if_icmp .ge 80, 3) := by decide +kernel
theorem dX7_findGains_8 : decode cX7_findGains 8 = .ok (.aload_n 0, 1) := by decide +kernel
theorem dX7_findGains_9 : decode cX7_findGains 9 = .ok (.getfield 23, 3) := by decide +kernel
theorem dX7_findGains_12 : decode cX7_findGains 12 = .ok (.aload_n 0, 1) := by decide +kernel
theorem dX7_findGains_13 : decode cX7_findGains 13 = .ok (.getfield 19, 3) := by decide +kernel
theorem dX7_findGains_16 : decode cX7_findGains 16 = .ok (.invokevirtual 142, 3) := by decide +kernel
theorem dX7_findGains_19 : decode cX7_findGains 19 = .ok (.aload_n 0, 1) := by decide +kernel
theorem dX7_findGains_20 : decode cX7_findGains 20 = .ok (.getfield 23, 3) := by decide +kernel
theorem dX7_findGains_23 : decode cX7_findGains 23 = .ok (.getfield 113, 3) := by decide +kernel
theorem dX7_findGains_26 : decode cX7_findGains 26 = .ok (.iload_n 1, 1) := by decide +kernel
theorem dX7_findGains_27 : decode cX7_findGains 27 = .ok (.aaload, 1) := by decide +kernel
theorem dX7_findGains_28 : decode cX7_findGains 28 = .ok (.iload_n 3, 1) := by decide +kernel
theorem dX7_findGains_29 : decode cX7_findGains 29 = .ok (.iconst 4, 1) := by decide +kernel
theorem dX7_findGains_30 : decode cX7_findGains 30 = .ok (.idiv, 1) := by decide +kernel
theorem dX7_findGains_31 : decode cX7_findGains 31 = .ok (.putfield 117, 3) := by decide +kernel
theorem dX7_findGains_34 : decode cX7_findGains 34 = .ok (.aload_n 0, 1) := by decide +kernel
theorem dX7_findGains_35 : decode cX7_findGains 35 = .ok (.getfield 23, 3) := by decide +kernel
theorem dX7_findGains_38 : decode cX7_findGains 38 = .ok (.getfield 113, 3) := by decide +kernel
theorem dX7_findGains_41 : decode cX7_findGains 41 = .ok (.iload_n 2, 1) := by decide +kernel
theorem dX7_findGains_42 : decode cX7_findGains 42 = .ok (.aaload, 1) := by decide +kernel
theorem dX7_findGains_43 : decode cX7_findGains 43 = .ok (.iload_n 3, 1) := by decide +kernel
theorem dX7_findGains_44 : decode cX7_findGains 44 = .ok (.iconst 4, 1) := by decide +kernel
theorem dX7_findGains_45 : decode cX7_findGains 45 = .ok (.irem, 1) := by decide +kernel
theorem dX7_findGains_46 : decode cX7_findGains 46 = .ok (.putfield 117, 3) := by decide +kernel
theorem dX7_findGains_49 : decode cX7_findGains 49 = .ok (.aload_n 0, 1) := by decide +kernel
theorem dX7_findGains_50 : decode cX7_findGains 50 = .ok (.getfield 23, 3) := by decide +kernel
theorem dX7_findGains_53 : decode cX7_findGains 53 = .ok (.invokevirtual 145, 3) := by decide +kernel
theorem dX7_findGains_56 : decode cX7_findGains 56 = .ok (.pop, 1) := by decide +kernel
theorem dX7_findGains_57 : decode cX7_findGains 57 = .ok (.aload_n 0, 1) := by decide +kernel
theorem dX7_findGains_58 : decode cX7_findGains 58 = .ok (.getfield 66, 3) := by decide +kernel
theorem dX7_findGains_61 : decode cX7_findGains 61 = .ok (.iload_n 3, 1) := by decide +kernel
theorem dX7_findGains_62 : decode cX7_findGains 62 = .ok (.aload_n 0, 1) := by decide +kernel
theorem dX7_findGains_63 : decode cX7_findGains 63 = .ok (.iload_n 1, 1) := by decide +kernel
theorem dX7_findGains_64 : decode cX7_findGains 64 = .ok (.invokevirtual 258, 3) := by decide +kernel
theorem dX7_findGains_67 : decode cX7_findGains 67 = .ok (.iastore, 1) := by decide +kernel
theorem dX7_findGains_68 : decode cX7_findGains 68 = .ok (.aload_n 0, 1) := by decide +kernel
theorem dX7_findGains_69 : decode cX7_findGains 69 = .ok (.getfield 69, 3) := by decide +kernel
theorem dX7_findGains_72 : decode cX7_findGains 72 = .ok (.iload_n 3, 1) := by decide +kernel
theorem dX7_findGains_73 : decode cX7_findGains 73 = .ok (.aload_n 0, 1) := by decide +kernel
theorem dX7_findGains_74 : decode cX7_findGains 74 = .ok (.iload_n 2, 1) := by decide +kernel
theorem dX7_findGains_75 : decode cX7_findGains 75 = .ok (.invokevirtual 258, 3) := by decide +kernel
theorem dX7_findGains_78 : decode cX7_findGains 78 = .ok (.iastore, 1) := by decide +kernel
theorem dX7_findGains_79 : decode cX7_findGains 79 = .ok (.iinc 3 1, 3) := by decide +kernel
theorem dX7_findGains_82 : decode cX7_findGains 82 = .ok (.goto (-80), 3) := by decide +kernel
theorem dX7_findGains_85 : decode cX7_findGains 85 = .ok (.return_, 1) := by decide +kernel
theorem dX7_gainOf_0 : decode cX7_gainOf 0 = .ok (.aload_n 0, 1) := by decide +kernel
theorem dX7_gainOf_1 : decode cX7_gainOf 1 = .ok (.getfield 23, 3) := by decide +kernel
theorem dX7_gainOf_4 : decode cX7_gainOf 4 = .ok (.getfield 113, 3) := by decide +kernel
theorem dX7_gainOf_7 : decode cX7_gainOf 7 = .ok (.iload_n 1, 1) := by decide +kernel
theorem dX7_gainOf_8 : decode cX7_gainOf 8 = .ok (.aaload, 1) := by decide +kernel
theorem dX7_gainOf_9 : decode cX7_gainOf 9 = .ok (.getfield 117, 3) := by decide +kernel
theorem dX7_gainOf_12 : decode cX7_gainOf 12 = .ok (.aload_n 0, 1) := by decide +kernel
theorem dX7_gainOf_13 : decode cX7_gainOf 13 = .ok (.getfield 19, 3) := by decide +kernel
theorem dX7_gainOf_16 : decode cX7_gainOf 16 = .ok (.getfield 113, 3) := by decide +kernel
theorem dX7_gainOf_19 : decode cX7_gainOf 19 = .ok (.iload_n 1, 1) := by decide +kernel
theorem dX7_gainOf_20 : decode cX7_gainOf 20 = .ok (.aaload, 1) := by decide +kernel
theorem dX7_gainOf_21 : decode cX7_gainOf 21 = .ok (.getfield 117, 3) := by decide +kernel
theorem dX7_gainOf_24 : decode cX7_gainOf 24 = .ok (.if_icmp .ne 7, 3) := by decide +kernel
theorem dX7_gainOf_27 : decode cX7_gainOf 27 = .ok (.iconst 1, 1) := by decide +kernel
theorem dX7_gainOf_28 : decode cX7_gainOf 28 = .ok (.goto 4, 3) := by decide +kernel
theorem dX7_gainOf_31 : decode cX7_gainOf 31 = .ok (.iconst 0, 1) := by decide +kernel
theorem dX7_gainOf_32 : decode cX7_gainOf 32 = .ok (.istore_n 2, 1) := by decide +kernel
theorem dX7_gainOf_33 : decode cX7_gainOf 33 = .ok (.iconst 2, 1) := by decide +kernel
theorem dX7_gainOf_34 : decode cX7_gainOf 34 = .ok (.aload_n 0, 1) := by decide +kernel
theorem dX7_gainOf_35 : decode cX7_gainOf 35 = .ok (.getfield 23, 3) := by decide +kernel
theorem dX7_gainOf_38 : decode cX7_gainOf 38 = .ok (.getfield 113, 3) := by decide +kernel
theorem dX7_gainOf_41 : decode cX7_gainOf 41 = .ok (.iload_n 1, 1) := by decide +kernel
theorem dX7_gainOf_42 : decode cX7_gainOf 42 = .ok (.aaload, 1) := by decide +kernel
theorem dX7_gainOf_43 : decode cX7_gainOf 43 = .ok (.getfield 125, 3) := by decide +kernel
theorem dX7_gainOf_46 : decode cX7_gainOf 46 = .ok (.getfield 102, 3) := by decide +kernel
theorem dX7_gainOf_49 : decode cX7_gainOf 49 = .ok (.imul, 1) := by decide +kernel
theorem dX7_gainOf_50 : decode cX7_gainOf 50 = .ok (.iload_n 2, 1) := by decide +kernel
theorem dX7_gainOf_51 : decode cX7_gainOf 51 = .ok (.iadd, 1) := by decide +kernel
theorem dX7_gainOf_52 : decode cX7_gainOf 52 = .ok (.ireturn, 1) := by decide +kernel
theorem dX7_isRest_0 : decode cX7_isRest 0 = .ok (.iload_n 1, 1) := by decide +kernel
theorem dX7_isRest_1 : decode cX7_isRest 1 = .ok (.iconst 4, 1) := by decide +kernel
theorem dX7_isRest_2 : decode cX7_isRest 2 = .ok (.idiv, 1) := by decide +kernel
theorem dX7_isRest_3 : decode cX7_isRest 3 = .ok (.istore_n 2, 1) := by decide +kernel
theorem dX7_isRest_4 : decode cX7_isRest 4 = .ok (.iload_n 1, 1) := by decide +kernel
theorem dX7_isRest_5 : decode cX7_isRest 5 = .ok (.iconst 4, 1) := by decide +kernel
theorem dX7_isRest_6 : decode cX7_isRest 6 = .ok (.irem, 1) := by decide +kernel
theorem dX7_isRest_7 : decode cX7_isRest 7 = .ok (.istore_n 3, 1) := by decide +kernel
theorem dX7_isRest_8 : decode cX7_isRest 8 = .ok (.iconst 0, 1) := by decide +kernel
theorem dX7_isRest_9 : decode cX7_isRest 9 = .ok (.istore 4, 2) := by decide +kernel
theorem dX7_isRest_11 : decode cX7_isRest 11 = .ok (.iload 4, 2) := by decide +kernel
theorem dX7_isRest_13 : decode cX7_isRest 13 = .ok (.iconst 4, 1) := by decide +kernel
theorem dX7_isRest_14 : decode cX7_isRest 14 = .ok (.if_icmp .ge 51, 3) := by decide +kernel
theorem dX7_isRest_17 : decode cX7_isRest 17 = .ok (.aload_n 0, 1) := by decide +kernel
theorem dX7_isRest_18 : decode cX7_isRest 18 = .ok (.getfield 66, 3) := by decide +kernel
theorem dX7_isRest_21 : decode cX7_isRest 21 = .ok (.iconst 4, 1) := by decide +kernel
theorem dX7_isRest_22 : decode cX7_isRest 22 = .ok (.iload 4, 2) := by decide +kernel
theorem dX7_isRest_24 : decode cX7_isRest 24 = .ok (.imul, 1) := by decide +kernel
theorem dX7_isRest_25 : decode cX7_isRest 25 = .ok (.iload_n 3, 1) := by decide +kernel
theorem dX7_isRest_26 : decode cX7_isRest 26 = .ok (.iadd, 1) := by decide +kernel
theorem dX7_isRest_27 : decode cX7_isRest 27 = .ok (.iaload, 1) := by decide +kernel
theorem dX7_isRest_28 : decode cX7_isRest 28 = .ok (.aload_n 0, 1) := by decide +kernel
theorem dX7_isRest_29 : decode cX7_isRest 29 = .ok (.getfield 66, 3) := by decide +kernel
theorem dX7_isRest_32 : decode cX7_isRest 32 = .ok (.iload_n 1, 1) := by decide +kernel
theorem dX7_isRest_33 : decode cX7_isRest 33 = .ok (.iaload, 1) := by decide +kernel
theorem dX7_isRest_34 : decode cX7_isRest 34 = .ok (.if_icmp .gt 23, 3) := by decide +kernel
theorem dX7_isRest_37 : decode cX7_isRest 37 = .ok (.aload_n 0, 1) := by decide +kernel
theorem dX7_isRest_38 : decode cX7_isRest 38 = .ok (.getfield 69, 3) := by decide +kernel
theorem dX7_isRest_41 : decode cX7_isRest 41 = .ok (.iconst 4, 1) := by decide +kernel
theorem dX7_isRest_42 : decode cX7_isRest 42 = .ok (.iload_n 2, 1) := by decide +kernel
theorem dX7_isRest_43 : decode cX7_isRest 43 = .ok (.imul, 1) := by decide +kernel
theorem dX7_isRest_44 : decode cX7_isRest 44 = .ok (.iload 4, 2) := by decide +kernel
theorem dX7_isRest_46 : decode cX7_isRest 46 = .ok (.iadd, 1) := by decide +kernel
theorem dX7_isRest_47 : decode cX7_isRest 47 = .ok (.iaload, 1) := by decide +kernel
theorem dX7_isRest_48 : decode cX7_isRest 48 = .ok (.aload_n 0, 1) := by decide +kernel
theorem dX7_isRest_49 : decode cX7_isRest 49 = .ok (.getfield 69, 3) := by decide +kernel
theorem dX7_isRest_52 : decode cX7_isRest 52 = .ok (.iload_n 1, 1) := by decide +kernel
theorem dX7_isRest_53 : decode cX7_isRest 53 = .ok (.iaload, 1) := by decide +kernel
theorem dX7_isRest_54 : decode cX7_isRest 54 = .ok (.if_icmp .le 5, 3) := by decide +kernel
theorem dX7_isRest_57 : decode cX7_isRest 57 = .ok (.iconst 0, 1) := by decide +kernel
theorem dX7_isRest_58 : decode cX7_isRest 58 = .ok (.ireturn, 1) := by decide +kernel
theorem dX7_isRest_59 : decode cX7_isRest 59 = .ok (.iinc 4 1, 3) := by decide +kernel
theorem dX7_isRest_62 : decode cX7_isRest 62 = .ok (.goto (-51), 3) := by decide +kernel
theorem dX7_isRest_65 : decode cX7_isRest 65 = .ok (.iconst 1, 1) := by decide +kernel
theorem dX7_isRest_66 : decode cX7_isRest 66 = .ok (.ireturn, 1) := by decide +kernel
theorem dX7_lost_0 : decode cX7_lost 0 = .ok (.iload_n 1, 1) := by decide +kernel
theorem dX7_lost_1 : decode cX7_lost 1 = .ok (.ifCond .lt 9, 3) := by decide +kernel
theorem dX7_lost_4 : decode cX7_lost 4 = .ok (.iload_n 1, 1) := by decide +kernel
theorem dX7_lost_5 : decode cX7_lost 5 = .ok (.bipush 10, 2) := by decide +kernel
theorem dX7_lost_7 : decode cX7_lost 7 = .ok (.if_icmp .le 6, 3) := by decide +kernel
theorem dX7_lost_10 : decode cX7_lost 10 = .ok (.bipush (-2), 2) := by decide +kernel
theorem dX7_lost_12 : decode cX7_lost 12 = .ok (.ireturn, 1) := by decide +kernel
theorem dX7_lost_13 : decode cX7_lost 13 = .ok (.aload_n 0, 1) := by decide +kernel
theorem dX7_lost_14 : decode cX7_lost 14 = .ok (.invokevirtual 198, 3) := by decide +kernel
theorem dX7_lost_17 : decode cX7_lost 17 = .ok (.aload_n 0, 1) := by decide +kernel
theorem dX7_lost_18 : decode cX7_lost 18 = .ok (.getfield 19, 3) := by decide +kernel
theorem dX7_lost_21 : decode cX7_lost 21 = .ok (.invokevirtual 174, 3) := by decide +kernel
theorem dX7_lost_24 : decode cX7_lost 24 = .ok (.istore_n 3, 1) := by decide +kernel
theorem dX7_lost_25 : decode cX7_lost 25 = .ok (.iconst 0, 1) := by decide +kernel
theorem dX7_lost_26 : decode cX7_lost 26 = .ok (.istore 4, 2) := by decide +kernel
theorem dX7_lost_28 : decode cX7_lost 28 = .ok (.iconst 1, 1) := by decide +kernel
theorem dX7_lost_29 : decode cX7_lost 29 = .ok (.istore 5, 2) := by decide +kernel
theorem dX7_lost_31 : decode cX7_lost 31 = .ok (.iconst 0, 1) := by decide +kernel
theorem dX7_lost_32 : decode cX7_lost 32 = .ok (.istore 6, 2) := by decide +kernel
theorem dX7_lost_34 : decode cX7_lost 34 = .ok (.iload 6, 2) := by decide +kernel
theorem dX7_lost_36 : decode cX7_lost 36 = .ok (.bipush 16, 2) := by decide +kernel
theorem dX7_lost_38 : decode cX7_lost 38 = .ok (.if_icmp .ge 43, 3) := by decide +kernel
theorem dX7_lost_41 : decode cX7_lost 41 = .ok (.iload 6, 2) := by decide +kernel
theorem dX7_lost_43 : decode cX7_lost 43 = .ok (.iload_n 3, 1) := by decide +kernel
theorem dX7_lost_44 : decode cX7_lost 44 = .ok (.iconst (-1), 1) := by decide +kernel
theorem dX7_lost_45 : decode cX7_lost 45 = .ok (.ixor, 1) := by decide +kernel
theorem dX7_lost_46 : decode cX7_lost 46 = .ok (.iand, 1) := by decide +kernel
theorem dX7_lost_47 : decode cX7_lost 47 = .ok (.ifCond .ne 28, 3) := by decide +kernel
theorem dX7_lost_50 : decode cX7_lost 50 = .ok (.aload_n 0, 1) := by decide +kernel
theorem dX7_lost_51 : decode cX7_lost 51 = .ok (.iload 6, 2) := by decide +kernel
theorem dX7_lost_53 : decode cX7_lost 53 = .ok (.invokevirtual 261, 3) := by decide +kernel
theorem dX7_lost_56 : decode cX7_lost 56 = .ok (.aload_n 0, 1) := by decide +kernel
theorem dX7_lost_57 : decode cX7_lost 57 = .ok (.invokevirtual 264, 3) := by decide +kernel
theorem dX7_lost_60 : decode cX7_lost 60 = .ok (.if_icmp .ne 15, 3) := by decide +kernel
theorem dX7_lost_63 : decode cX7_lost 63 = .ok (.iload 4, 2) := by decide +kernel
theorem dX7_lost_65 : decode cX7_lost 65 = .ok (.iload 6, 2) := by decide +kernel
theorem dX7_lost_67 : decode cX7_lost 67 = .ok (.iload_n 3, 1) := by decide +kernel
theorem dX7_lost_68 : decode cX7_lost 68 = .ok (.iload_n 1, 1) := by decide +kernel
theorem dX7_lost_69 : decode cX7_lost 69 = .ok (.invokestatic 267, 3) := by decide +kernel
theorem dX7_lost_72 : decode cX7_lost 72 = .ok (.iadd, 1) := by decide +kernel
theorem dX7_lost_73 : decode cX7_lost 73 = .ok (.istore 4, 2) := by decide +kernel
theorem dX7_lost_75 : decode cX7_lost 75 = .ok (.iinc 6 1, 3) := by decide +kernel
theorem dX7_lost_78 : decode cX7_lost 78 = .ok (.goto (-44), 3) := by decide +kernel
theorem dX7_lost_81 : decode cX7_lost 81 = .ok (.iload_n 3, 1) := by decide +kernel
theorem dX7_lost_82 : decode cX7_lost 82 = .ok (.invokestatic 177, 3) := by decide +kernel
theorem dX7_lost_85 : decode cX7_lost 85 = .ok (.istore 6, 2) := by decide +kernel
theorem dX7_lost_87 : decode cX7_lost 87 = .ok (.iload 6, 2) := by decide +kernel
theorem dX7_lost_89 : decode cX7_lost 89 = .ok (.ifCond .le 16, 3) := by decide +kernel
theorem dX7_lost_92 : decode cX7_lost 92 = .ok (.iload 5, 2) := by decide +kernel
theorem dX7_lost_94 : decode cX7_lost 94 = .ok (.bipush 10, 2) := by decide +kernel
theorem dX7_lost_96 : decode cX7_lost 96 = .ok (.imul, 1) := by decide +kernel
theorem dX7_lost_97 : decode cX7_lost 97 = .ok (.istore 5, 2) := by decide +kernel
theorem dX7_lost_99 : decode cX7_lost 99 = .ok (.iinc 6 (-1), 3) := by decide +kernel
theorem dX7_lost_102 : decode cX7_lost 102 = .ok (.goto (-15), 3) := by decide +kernel
theorem dX7_lost_105 : decode cX7_lost 105 = .ok (.iload 4, 2) := by decide +kernel
theorem dX7_lost_107 : decode cX7_lost 107 = .ok (.iload 5, 2) := by decide +kernel
theorem dX7_lost_109 : decode cX7_lost 109 = .ok (.iload_n 2, 1) := by decide +kernel
theorem dX7_lost_110 : decode cX7_lost 110 = .ok (.invokestatic 248, 3) := by decide +kernel
theorem dX7_lost_113 : decode cX7_lost 113 = .ok (.ireturn, 1) := by decide +kernel
theorem dX7_coveredBy_0 : decode cX7_coveredBy 0 = .ok (.iconst 0, 1) := by decide +kernel
theorem dX7_coveredBy_1 : decode cX7_coveredBy 1 = .ok (.istore_n 2, 1) := by decide +kernel
theorem dX7_coveredBy_2 : decode cX7_coveredBy 2 = .ok (.iconst 0, 1) := by decide +kernel
theorem dX7_coveredBy_3 : decode cX7_coveredBy 3 = .ok (.istore_n 3, 1) := by decide +kernel
theorem dX7_coveredBy_4 : decode cX7_coveredBy 4 = .ok (.iload_n 3, 1) := by decide +kernel
theorem dX7_coveredBy_5 : decode cX7_coveredBy 5 = .ok (.iconst 4, 1) := by decide +kernel
theorem dX7_coveredBy_6 : decode cX7_coveredBy 6 = .ok (.if_icmp .ge 31, 3) := by decide +kernel
theorem dX7_coveredBy_9 : decode cX7_coveredBy 9 = .ok (.iload_n 2, 1) := by decide +kernel
theorem dX7_coveredBy_10 : decode cX7_coveredBy 10 = .ok (.iload_n 1, 1) := by decide +kernel
theorem dX7_coveredBy_11 : decode cX7_coveredBy 11 = .ok (.iload_n 3, 1) := by decide +kernel
theorem dX7_coveredBy_12 : decode cX7_coveredBy 12 = .ok (.ishr, 1) := by decide +kernel
theorem dX7_coveredBy_13 : decode cX7_coveredBy 13 = .ok (.iconst 1, 1) := by decide +kernel
theorem dX7_coveredBy_14 : decode cX7_coveredBy 14 = .ok (.iand, 1) := by decide +kernel
theorem dX7_coveredBy_15 : decode cX7_coveredBy 15 = .ok (.iconst 1, 1) := by decide +kernel
theorem dX7_coveredBy_16 : decode cX7_coveredBy 16 = .ok (.if_icmp .ne 12, 3) := by decide +kernel
theorem dX7_coveredBy_19 : decode cX7_coveredBy 19 = .ok (.aload_n 0, 1) := by decide +kernel
theorem dX7_coveredBy_20 : decode cX7_coveredBy 20 = .ok (.getfield 62, 3) := by decide +kernel
theorem dX7_coveredBy_23 : decode cX7_coveredBy 23 = .ok (.iload_n 3, 1) := by decide +kernel
theorem dX7_coveredBy_24 : decode cX7_coveredBy 24 = .ok (.iaload, 1) := by decide +kernel
theorem dX7_coveredBy_25 : decode cX7_coveredBy 25 = .ok (.goto 4, 3) := by decide +kernel
theorem dX7_coveredBy_28 : decode cX7_coveredBy 28 = .ok (.iconst 0, 1) := by decide +kernel
theorem dX7_coveredBy_29 : decode cX7_coveredBy 29 = .ok (.ior, 1) := by decide +kernel
theorem dX7_coveredBy_30 : decode cX7_coveredBy 30 = .ok (.istore_n 2, 1) := by decide +kernel
theorem dX7_coveredBy_31 : decode cX7_coveredBy 31 = .ok (.iinc 3 1, 3) := by decide +kernel
theorem dX7_coveredBy_34 : decode cX7_coveredBy 34 = .ok (.goto (-30), 3) := by decide +kernel
theorem dX7_coveredBy_37 : decode cX7_coveredBy 37 = .ok (.iload_n 2, 1) := by decide +kernel
theorem dX7_coveredBy_38 : decode cX7_coveredBy 38 = .ok (.ireturn, 1) := by decide +kernel
theorem dX7_chanceOf_0 : decode cX7_chanceOf 0 = .ok (.iconst 1, 1) := by decide +kernel
theorem dX7_chanceOf_1 : decode cX7_chanceOf 1 = .ok (.istore_n 3, 1) := by decide +kernel
theorem dX7_chanceOf_2 : decode cX7_chanceOf 2 = .ok (.iconst 0, 1) := by decide +kernel
theorem dX7_chanceOf_3 : decode cX7_chanceOf 3 = .ok (.istore 4, 2) := by decide +kernel
theorem dX7_chanceOf_5 : decode cX7_chanceOf 5 = .ok (.iload 4, 2) := by decide +kernel
theorem dX7_chanceOf_7 : decode cX7_chanceOf 7 = .ok (.iconst 4, 1) := by decide +kernel
theorem dX7_chanceOf_8 : decode cX7_chanceOf 8 = .ok (.if_icmp .ge 40, 3) := by decide +kernel
theorem dX7_chanceOf_11 : decode cX7_chanceOf 11 = .ok (.iload_n 1, 1) := by decide +kernel
theorem dX7_chanceOf_12 : decode cX7_chanceOf 12 = .ok (.iload 4, 2) := by decide +kernel
theorem dX7_chanceOf_14 : decode cX7_chanceOf 14 = .ok (.ishr, 1) := by decide +kernel
theorem dX7_chanceOf_15 : decode cX7_chanceOf 15 = .ok (.iconst 1, 1) := by decide +kernel
theorem dX7_chanceOf_16 : decode cX7_chanceOf 16 = .ok (.iand, 1) := by decide +kernel
theorem dX7_chanceOf_17 : decode cX7_chanceOf 17 = .ok (.iconst 1, 1) := by decide +kernel
theorem dX7_chanceOf_18 : decode cX7_chanceOf 18 = .ok (.if_icmp .ne 24, 3) := by decide +kernel
theorem dX7_chanceOf_21 : decode cX7_chanceOf 21 = .ok (.iload_n 3, 1) := by decide +kernel
theorem dX7_chanceOf_22 : decode cX7_chanceOf 22 = .ok (.iload_n 0, 1) := by decide +kernel
theorem dX7_chanceOf_23 : decode cX7_chanceOf 23 = .ok (.iload 4, 2) := by decide +kernel
theorem dX7_chanceOf_25 : decode cX7_chanceOf 25 = .ok (.ishr, 1) := by decide +kernel
theorem dX7_chanceOf_26 : decode cX7_chanceOf 26 = .ok (.iconst 1, 1) := by decide +kernel
theorem dX7_chanceOf_27 : decode cX7_chanceOf 27 = .ok (.iand, 1) := by decide +kernel
theorem dX7_chanceOf_28 : decode cX7_chanceOf 28 = .ok (.iconst 1, 1) := by decide +kernel
theorem dX7_chanceOf_29 : decode cX7_chanceOf 29 = .ok (.if_icmp .ne 10, 3) := by decide +kernel
theorem dX7_chanceOf_32 : decode cX7_chanceOf 32 = .ok (.bipush 10, 2) := by decide +kernel
theorem dX7_chanceOf_34 : decode cX7_chanceOf 34 = .ok (.iload_n 2, 1) := by decide +kernel
theorem dX7_chanceOf_35 : decode cX7_chanceOf 35 = .ok (.isub, 1) := by decide +kernel
theorem dX7_chanceOf_36 : decode cX7_chanceOf 36 = .ok (.goto 4, 3) := by decide +kernel
theorem dX7_chanceOf_39 : decode cX7_chanceOf 39 = .ok (.iload_n 2, 1) := by decide +kernel
theorem dX7_chanceOf_40 : decode cX7_chanceOf 40 = .ok (.imul, 1) := by decide +kernel
theorem dX7_chanceOf_41 : decode cX7_chanceOf 41 = .ok (.istore_n 3, 1) := by decide +kernel
theorem dX7_chanceOf_42 : decode cX7_chanceOf 42 = .ok (.iinc 4 1, 3) := by decide +kernel
theorem dX7_chanceOf_45 : decode cX7_chanceOf 45 = .ok (.goto (-40), 3) := by decide +kernel
theorem dX7_chanceOf_48 : decode cX7_chanceOf 48 = .ok (.iload_n 3, 1) := by decide +kernel
theorem dX7_chanceOf_49 : decode cX7_chanceOf 49 = .ok (.ireturn, 1) := by decide +kernel
theorem dX7_partOfFraction_0 : decode cX7_partOfFraction 0 = .ok (.iload_n 0, 1) := by decide +kernel
theorem dX7_partOfFraction_1 : decode cX7_partOfFraction 1 = .ok (.iload_n 1, 1) := by decide +kernel
theorem dX7_partOfFraction_2 : decode cX7_partOfFraction 2 = .ok (.invokestatic 270, 3) := by decide +kernel
theorem dX7_partOfFraction_5 : decode cX7_partOfFraction 5 = .ok (.iconst 1, 1) := by decide +kernel
theorem dX7_partOfFraction_6 : decode cX7_partOfFraction 6 = .ok (.invokestatic 246, 3) := by decide +kernel
theorem dX7_partOfFraction_9 : decode cX7_partOfFraction 9 = .ok (.istore_n 3, 1) := by decide +kernel
theorem dX7_partOfFraction_10 : decode cX7_partOfFraction 10 = .ok (.iload_n 2, 1) := by decide +kernel
theorem dX7_partOfFraction_11 : decode cX7_partOfFraction 11 = .ok (.ifCond .eq 7, 3) := by decide +kernel
theorem dX7_partOfFraction_14 : decode cX7_partOfFraction 14 = .ok (.iload_n 0, 1) := by decide +kernel
theorem dX7_partOfFraction_15 : decode cX7_partOfFraction 15 = .ok (.goto 4, 3) := by decide +kernel
theorem dX7_partOfFraction_18 : decode cX7_partOfFraction 18 = .ok (.iload_n 1, 1) := by decide +kernel
theorem dX7_partOfFraction_19 : decode cX7_partOfFraction 19 = .ok (.iload_n 3, 1) := by decide +kernel
theorem dX7_partOfFraction_20 : decode cX7_partOfFraction 20 = .ok (.idiv, 1) := by decide +kernel
theorem dX7_partOfFraction_21 : decode cX7_partOfFraction 21 = .ok (.ireturn, 1) := by decide +kernel
theorem dX7_commonDivisor_0 : decode cX7_commonDivisor 0 = .ok (.iload_n 0, 1) := by decide +kernel
theorem dX7_commonDivisor_1 : decode cX7_commonDivisor 1 = .ok (.istore_n 2, 1) := by decide +kernel
theorem dX7_commonDivisor_2 : decode cX7_commonDivisor 2 = .ok (.iload_n 1, 1) := by decide +kernel
theorem dX7_commonDivisor_3 : decode cX7_commonDivisor 3 = .ok (.istore_n 3, 1) := by decide +kernel
theorem dX7_commonDivisor_4 : decode cX7_commonDivisor 4 = .ok (.iconst 0, 1) := by decide +kernel
theorem dX7_commonDivisor_5 : decode cX7_commonDivisor 5 = .ok (.istore 4, 2) := by decide +kernel
theorem dX7_commonDivisor_7 : decode cX7_commonDivisor 7 = .ok (.iload 4, 2) := by decide +kernel
theorem dX7_commonDivisor_9 : decode cX7_commonDivisor 9 = .ok (.bipush 64, 2) := by decide +kernel
theorem dX7_commonDivisor_11 : decode cX7_commonDivisor 11 = .ok (.if_icmp .ge 23, 3) := by decide +kernel
theorem dX7_commonDivisor_14 : decode cX7_commonDivisor 14 = .ok (.iload_n 3, 1) := by decide +kernel
theorem dX7_commonDivisor_15 : decode cX7_commonDivisor 15 = .ok (.ifCond .eq 19, 3) := by decide +kernel
theorem dX7_commonDivisor_18 : decode cX7_commonDivisor 18 = .ok (.iload_n 2, 1) := by decide +kernel
theorem dX7_commonDivisor_19 : decode cX7_commonDivisor 19 = .ok (.iload_n 3, 1) := by decide +kernel
theorem dX7_commonDivisor_20 : decode cX7_commonDivisor 20 = .ok (.irem, 1) := by decide +kernel
theorem dX7_commonDivisor_21 : decode cX7_commonDivisor 21 = .ok (.istore 5, 2) := by decide +kernel
theorem dX7_commonDivisor_23 : decode cX7_commonDivisor 23 = .ok (.iload_n 3, 1) := by decide +kernel
theorem dX7_commonDivisor_24 : decode cX7_commonDivisor 24 = .ok (.istore_n 2, 1) := by decide +kernel
theorem dX7_commonDivisor_25 : decode cX7_commonDivisor 25 = .ok (.iload 5, 2) := by decide +kernel
theorem dX7_commonDivisor_27 : decode cX7_commonDivisor 27 = .ok (.istore_n 3, 1) := by decide +kernel
theorem dX7_commonDivisor_28 : decode cX7_commonDivisor 28 = .ok (.iinc 4 1, 3) := by decide +kernel
theorem dX7_commonDivisor_31 : decode cX7_commonDivisor 31 = .ok (.goto (-24), 3) := by decide +kernel
theorem dX7_commonDivisor_34 : decode cX7_commonDivisor 34 = .ok (.iload_n 2, 1) := by decide +kernel
theorem dX7_commonDivisor_35 : decode cX7_commonDivisor 35 = .ok (.ireturn, 1) := by decide +kernel
theorem dX7_seed_0 : decode cX7_seed 0 = .ok (.aload_n 0, 1) := by decide +kernel
theorem dX7_seed_1 : decode cX7_seed 1 = .ok (.getfield 72, 3) := by decide +kernel
theorem dX7_seed_4 : decode cX7_seed 4 = .ok (.lstore_n 3, 1) := by decide +kernel
theorem dX7_seed_5 : decode cX7_seed 5 = .ok (.aload_n 0, 1) := by decide +kernel
theorem dX7_seed_6 : decode cX7_seed 6 = .ok (.lload_n 1, 1) := by decide +kernel
theorem dX7_seed_7 : decode cX7_seed 7 = .ok (.putfield 72, 3) := by decide +kernel
theorem dX7_seed_10 : decode cX7_seed 10 = .ok (.lload_n 3, 1) := by decide +kernel
theorem dX7_seed_11 : decode cX7_seed 11 = .ok (.lreturn, 1) := by decide +kernel
theorem dX7_years_0 : decode cX7_years 0 = .ok (.iload_n 1, 1) := by decide +kernel
theorem dX7_years_1 : decode cX7_years 1 = .ok (.iconst 1, 1) := by decide +kernel
theorem dX7_years_2 : decode cX7_years 2 = .ok (.if_icmp .lt 9, 3) := by decide +kernel
theorem dX7_years_5 : decode cX7_years 5 = .ok (.iload_n 1, 1) := by decide +kernel
theorem dX7_years_6 : decode cX7_years 6 = .ok (.bipush 30, 2) := by decide +kernel
theorem dX7_years_8 : decode cX7_years 8 = .ok (.if_icmp .le 6, 3) := by decide +kernel
theorem dX7_years_11 : decode cX7_years 11 = .ok (.bipush (-2), 2) := by decide +kernel
theorem dX7_years_13 : decode cX7_years 13 = .ok (.ireturn, 1) := by decide +kernel
theorem dX7_years_14 : decode cX7_years 14 = .ok (.aload_n 0, 1) := by decide +kernel
theorem dX7_years_15 : decode cX7_years 15 = .ok (.getfield 23, 3) := by decide +kernel
theorem dX7_years_18 : decode cX7_years 18 = .ok (.aload_n 0, 1) := by decide +kernel
theorem dX7_years_19 : decode cX7_years 19 = .ok (.getfield 19, 3) := by decide +kernel
theorem dX7_years_22 : decode cX7_years 22 = .ok (.invokevirtual 142, 3) := by decide +kernel
theorem dX7_years_25 : decode cX7_years 25 = .ok (.iconst 0, 1) := by decide +kernel
theorem dX7_years_26 : decode cX7_years 26 = .ok (.istore_n 2, 1) := by decide +kernel
theorem dX7_years_27 : decode cX7_years 27 = .ok (.iconst 0, 1) := by decide +kernel
theorem dX7_years_28 : decode cX7_years 28 = .ok (.istore_n 3, 1) := by decide +kernel
theorem dX7_years_29 : decode cX7_years 29 = .ok (.iload_n 3, 1) := by decide +kernel
theorem dX7_years_30 : decode cX7_years 30 = .ok (.iload_n 1, 1) := by decide +kernel
theorem dX7_years_31 : decode cX7_years 31 = .ok (.if_icmp .ge 51, 3) := by decide +kernel
theorem dX7_years_34 : decode cX7_years 34 = .ok (.aload_n 0, 1) := by decide +kernel
theorem dX7_years_35 : decode cX7_years 35 = .ok (.aload_n 0, 1) := by decide +kernel
theorem dX7_years_36 : decode cX7_years 36 = .ok (.getfield 72, 3) := by decide +kernel
theorem dX7_years_39 : decode cX7_years 39 = .ok (.ldc2_w 273, 3) := by decide +kernel
theorem dX7_years_42 : decode cX7_years 42 = .ok (.lmul, 1) := by decide +kernel
theorem dX7_years_43 : decode cX7_years 43 = .ok (.ldc2_w 275, 3) := by decide +kernel
theorem dX7_years_46 : decode cX7_years 46 = .ok (.ladd, 1) := by decide +kernel
theorem dX7_years_47 : decode cX7_years 47 = .ok (.putfield 72, 3) := by decide +kernel
theorem dX7_years_50 : decode cX7_years 50 = .ok (.aload_n 0, 1) := by decide +kernel
theorem dX7_years_51 : decode cX7_years 51 = .ok (.aload_n 0, 1) := by decide +kernel
theorem dX7_years_52 : decode cX7_years 52 = .ok (.getfield 72, 3) := by decide +kernel
theorem dX7_years_55 : decode cX7_years 55 = .ok (.bipush 33, 2) := by decide +kernel
theorem dX7_years_57 : decode cX7_years 57 = .ok (.lushr, 1) := by decide +kernel
theorem dX7_years_58 : decode cX7_years 58 = .ok (.l2i, 1) := by decide +kernel
theorem dX7_years_59 : decode cX7_years 59 = .ok (.bipush 31, 2) := by decide +kernel
theorem dX7_years_61 : decode cX7_years 61 = .ok (.iand, 1) := by decide +kernel
theorem dX7_years_62 : decode cX7_years 62 = .ok (.invokevirtual 277, 3) := by decide +kernel
theorem dX7_years_65 : decode cX7_years 65 = .ok (.iload_n 2, 1) := by decide +kernel
theorem dX7_years_66 : decode cX7_years 66 = .ok (.aload_n 0, 1) := by decide +kernel
theorem dX7_years_67 : decode cX7_years 67 = .ok (.getfield 23, 3) := by decide +kernel
theorem dX7_years_70 : decode cX7_years 70 = .ok (.iconst 0, 1) := by decide +kernel
theorem dX7_years_71 : decode cX7_years 71 = .ok (.invokevirtual 208, 3) := by decide +kernel
theorem dX7_years_74 : decode cX7_years 74 = .ok (.iadd, 1) := by decide +kernel
theorem dX7_years_75 : decode cX7_years 75 = .ok (.istore_n 2, 1) := by decide +kernel
theorem dX7_years_76 : decode cX7_years 76 = .ok (.iinc 3 1, 3) := by decide +kernel
theorem dX7_years_79 : decode cX7_years 79 = .ok (.goto (-50), 3) := by decide +kernel
theorem dX7_years_82 : decode cX7_years 82 = .ok (.iload_n 2, 1) := by decide +kernel
theorem dX7_years_83 : decode cX7_years 83 = .ok (.ireturn, 1) := by decide +kernel
theorem dX7_doByChance_0 : decode cX7_doByChance 0 = .ok (.iload_n 1, 1) := by decide +kernel
theorem dX7_doByChance_1 : decode cX7_doByChance 1 = .ok (.bipush 16, 2) := by decide +kernel
theorem dX7_doByChance_3 : decode cX7_doByChance 3 = .ok (.if_icmp .ge 20, 3) := by decide +kernel
theorem dX7_doByChance_6 : decode cX7_doByChance 6 = .ok (.aload_n 0, 1) := by decide +kernel
theorem dX7_doByChance_7 : decode cX7_doByChance 7 = .ok (.getfield 23, 3) := by decide +kernel
theorem dX7_doByChance_10 : decode cX7_doByChance 10 = .ok (.iload_n 1, 1) := by decide +kernel
theorem dX7_doByChance_11 : decode cX7_doByChance 11 = .ok (.iconst 4, 1) := by decide +kernel
theorem dX7_doByChance_12 : decode cX7_doByChance 12 = .ok (.idiv, 1) := by decide +kernel
theorem dX7_doByChance_13 : decode cX7_doByChance 13 = .ok (.iload_n 1, 1) := by decide +kernel
theorem dX7_doByChance_14 : decode cX7_doByChance 14 = .ok (.iconst 4, 1) := by decide +kernel
theorem dX7_doByChance_15 : decode cX7_doByChance 15 = .ok (.irem, 1) := by decide +kernel
theorem dX7_doByChance_16 : decode cX7_doByChance 16 = .ok (.invokevirtual 151, 3) := by decide +kernel
theorem dX7_doByChance_19 : decode cX7_doByChance 19 = .ok (.pop, 1) := by decide +kernel
theorem dX7_doByChance_20 : decode cX7_doByChance 20 = .ok (.goto 57, 3) := by decide +kernel
theorem dX7_doByChance_23 : decode cX7_doByChance 23 = .ok (.iload_n 1, 1) := by decide +kernel
theorem dX7_doByChance_24 : decode cX7_doByChance 24 = .ok (.bipush 20, 2) := by decide +kernel
theorem dX7_doByChance_26 : decode cX7_doByChance 26 = .ok (.if_icmp .ge 18, 3) := by decide +kernel
theorem dX7_doByChance_29 : decode cX7_doByChance 29 = .ok (.aload_n 0, 1) := by decide +kernel
theorem dX7_doByChance_30 : decode cX7_doByChance 30 = .ok (.getfield 23, 3) := by decide +kernel
theorem dX7_doByChance_33 : decode cX7_doByChance 33 = .ok (.iload_n 1, 1) := by decide +kernel
theorem dX7_doByChance_34 : decode cX7_doByChance 34 = .ok (.bipush 16, 2) := by decide +kernel
theorem dX7_doByChance_36 : decode cX7_doByChance 36 = .ok (.isub, 1) := by decide +kernel
theorem dX7_doByChance_37 : decode cX7_doByChance 37 = .ok (.invokevirtual 155, 3) := by decide +kernel
theorem dX7_doByChance_40 : decode cX7_doByChance 40 = .ok (.pop, 1) := by decide +kernel
theorem dX7_doByChance_41 : decode cX7_doByChance 41 = .ok (.goto 36, 3) := by decide +kernel
theorem dX7_doByChance_44 : decode cX7_doByChance 44 = .ok (.iload_n 1, 1) := by decide +kernel
theorem dX7_doByChance_45 : decode cX7_doByChance 45 = .ok (.bipush 23, 2) := by decide +kernel
theorem dX7_doByChance_47 : decode cX7_doByChance 47 = .ok (.if_icmp .ge 22, 3) := by decide +kernel
theorem dX7_doByChance_50 : decode cX7_doByChance 50 = .ok (.aload_n 0, 1) := by decide +kernel
theorem dX7_doByChance_51 : decode cX7_doByChance 51 = .ok (.getfield 23, 3) := by decide +kernel
theorem dX7_doByChance_54 : decode cX7_doByChance 54 = .ok (.iload_n 1, 1) := by decide +kernel
theorem dX7_doByChance_55 : decode cX7_doByChance 55 = .ok (.bipush 20, 2) := by decide +kernel
theorem dX7_doByChance_57 : decode cX7_doByChance 57 = .ok (.isub, 1) := by decide +kernel
theorem dX7_doByChance_58 : decode cX7_doByChance 58 = .ok (.iload_n 1, 1) := by decide +kernel
theorem dX7_doByChance_59 : decode cX7_doByChance 59 = .ok (.bipush 19, 2) := by decide +kernel
theorem dX7_doByChance_61 : decode cX7_doByChance 61 = .ok (.isub, 1) := by decide +kernel
theorem dX7_doByChance_62 : decode cX7_doByChance 62 = .ok (.invokevirtual 161, 3) := by decide +kernel
theorem dX7_doByChance_65 : decode cX7_doByChance 65 = .ok (.pop, 1) := by decide +kernel
theorem dX7_doByChance_66 : decode cX7_doByChance 66 = .ok (.goto 11, 3) := by decide +kernel
theorem dX7_doByChance_69 : decode cX7_doByChance 69 = .ok (.aload_n 0, 1) := by decide +kernel
theorem dX7_doByChance_70 : decode cX7_doByChance 70 = .ok (.getfield 23, 3) := by decide +kernel
theorem dX7_doByChance_73 : decode cX7_doByChance 73 = .ok (.invokevirtual 145, 3) := by decide +kernel
theorem dX7_doByChance_76 : decode cX7_doByChance 76 = .ok (.pop, 1) := by decide +kernel
theorem dX7_doByChance_77 : decode cX7_doByChance 77 = .ok (.return_, 1) := by decide +kernel
theorem dX7_keep_0 : decode cX7_keep 0 = .ok (.aload_n 0, 1) := by decide +kernel
theorem dX7_keep_1 : decode cX7_keep 1 = .ok (.getfield 36, 3) := by decide +kernel
theorem dX7_keep_4 : decode cX7_keep 4 = .ok (.iload_n 1, 1) := by decide +kernel
theorem dX7_keep_5 : decode cX7_keep 5 = .ok (.aload_n 0, 1) := by decide +kernel
theorem dX7_keep_6 : decode cX7_keep 6 = .ok (.getfield 19, 3) := by decide +kernel
theorem dX7_keep_9 : decode cX7_keep 9 = .ok (.invokevirtual 280, 3) := by decide +kernel
theorem dX7_keep_12 : decode cX7_keep 12 = .ok (.ireturn, 1) := by decide +kernel
theorem dX7_again_0 : decode cX7_again 0 = .ok (.aload_n 0, 1) := by decide +kernel
theorem dX7_again_1 : decode cX7_again 1 = .ok (.getfield 36, 3) := by decide +kernel
theorem dX7_again_4 : decode cX7_again 4 = .ok (.iload_n 1, 1) := by decide +kernel
theorem dX7_again_5 : decode cX7_again 5 = .ok (.aload_n 0, 1) := by decide +kernel
theorem dX7_again_6 : decode cX7_again 6 = .ok (.getfield 19, 3) := by decide +kernel
theorem dX7_again_9 : decode cX7_again 9 = .ok (.invokevirtual 284, 3) := by decide +kernel
theorem dX7_again_12 : decode cX7_again 12 = .ok (.istore_n 2, 1) := by decide +kernel
theorem dX7_again_13 : decode cX7_again 13 = .ok (.iload_n 2, 1) := by decide +kernel
theorem dX7_again_14 : decode cX7_again 14 = .ok (.ifCond .lt 10, 3) := by decide +kernel
theorem dX7_again_17 : decode cX7_again 17 = .ok (.aload_n 0, 1) := by decide +kernel
theorem dX7_again_18 : decode cX7_again 18 = .ok (.getfield 29, 3) := by decide +kernel
theorem dX7_again_21 : decode cX7_again 21 = .ok (.invokevirtual 91, 3) := by decide +kernel
theorem dX7_again_24 : decode cX7_again 24 = .ok (.iload_n 2, 1) := by decide +kernel
theorem dX7_again_25 : decode cX7_again 25 = .ok (.ireturn, 1) := by decide +kernel
theorem dX7_count_0 : decode cX7_count 0 = .ok (.iload_n 1, 1) := by decide +kernel
theorem dX7_count_1 : decode cX7_count 1 = .ok (.tableswitch 124 0 8 #[51, 59, 67, 75, 84, 92, 100, 108, 116], 51) := by decide +kernel
theorem dX7_count_52 : decode cX7_count 52 = .ok (.aload_n 0, 1) := by decide +kernel
theorem dX7_count_53 : decode cX7_count 53 = .ok (.getfield 10, 3) := by decide +kernel
theorem dX7_count_56 : decode cX7_count 56 = .ok (.getfield 287, 3) := by decide +kernel
theorem dX7_count_59 : decode cX7_count 59 = .ok (.ireturn, 1) := by decide +kernel
theorem dX7_count_60 : decode cX7_count 60 = .ok (.aload_n 0, 1) := by decide +kernel
theorem dX7_count_61 : decode cX7_count 61 = .ok (.getfield 19, 3) := by decide +kernel
theorem dX7_count_64 : decode cX7_count 64 = .ok (.getfield 94, 3) := by decide +kernel
theorem dX7_count_67 : decode cX7_count 67 = .ok (.ireturn, 1) := by decide +kernel
theorem dX7_count_68 : decode cX7_count 68 = .ok (.aload_n 0, 1) := by decide +kernel
theorem dX7_count_69 : decode cX7_count 69 = .ok (.getfield 19, 3) := by decide +kernel
theorem dX7_count_72 : decode cX7_count 72 = .ok (.invokevirtual 174, 3) := by decide +kernel
theorem dX7_count_75 : decode cX7_count 75 = .ok (.ireturn, 1) := by decide +kernel
theorem dX7_count_76 : decode cX7_count 76 = .ok (.aload_n 0, 1) := by decide +kernel
theorem dX7_count_77 : decode cX7_count 77 = .ok (.getfield 19, 3) := by decide +kernel
theorem dX7_count_80 : decode cX7_count 80 = .ok (.iconst 0, 1) := by decide +kernel
theorem dX7_count_81 : decode cX7_count 81 = .ok (.invokevirtual 208, 3) := by decide +kernel
theorem dX7_count_84 : decode cX7_count 84 = .ok (.ireturn, 1) := by decide +kernel
theorem dX7_count_85 : decode cX7_count 85 = .ok (.aload_n 0, 1) := by decide +kernel
theorem dX7_count_86 : decode cX7_count 86 = .ok (.getfield 19, 3) := by decide +kernel
theorem dX7_count_89 : decode cX7_count 89 = .ok (.getfield 288, 3) := by decide +kernel
theorem dX7_count_92 : decode cX7_count 92 = .ok (.ireturn, 1) := by decide +kernel
theorem dX7_count_93 : decode cX7_count 93 = .ok (.aload_n 0, 1) := by decide +kernel
theorem dX7_count_94 : decode cX7_count 94 = .ok (.getfield 52, 3) := by decide +kernel
theorem dX7_count_97 : decode cX7_count 97 = .ok (.getfield 102, 3) := by decide +kernel
theorem dX7_count_100 : decode cX7_count 100 = .ok (.ireturn, 1) := by decide +kernel
theorem dX7_count_101 : decode cX7_count 101 = .ok (.aload_n 0, 1) := by decide +kernel
theorem dX7_count_102 : decode cX7_count 102 = .ok (.getfield 19, 3) := by decide +kernel
theorem dX7_count_105 : decode cX7_count 105 = .ok (.invokevirtual 291, 3) := by decide +kernel
theorem dX7_count_108 : decode cX7_count 108 = .ok (.ireturn, 1) := by decide +kernel
theorem dX7_count_109 : decode cX7_count 109 = .ok (.aload_n 0, 1) := by decide +kernel
theorem dX7_count_110 : decode cX7_count 110 = .ok (.getfield 29, 3) := by decide +kernel
theorem dX7_count_113 : decode cX7_count 113 = .ok (.getfield 294, 3) := by decide +kernel
theorem dX7_count_116 : decode cX7_count 116 = .ok (.ireturn, 1) := by decide +kernel
theorem dX7_count_117 : decode cX7_count 117 = .ok (.aload_n 0, 1) := by decide +kernel
theorem dX7_count_118 : decode cX7_count 118 = .ok (.getfield 43, 3) := by decide +kernel
theorem dX7_count_121 : decode cX7_count 121 = .ok (.getfield 295, 3) := by decide +kernel
theorem dX7_count_124 : decode cX7_count 124 = .ok (.ireturn, 1) := by decide +kernel
theorem dX7_count_125 : decode cX7_count 125 = .ok (.bipush (-2), 2) := by decide +kernel
theorem dX7_count_127 : decode cX7_count 127 = .ok (.ireturn, 1) := by decide +kernel
theorem dX8_init_0 : decode cX8_init 0 = .ok (.aload_n 0, 1) := by decide +kernel
theorem dX8_init_1 : decode cX8_init 1 = .ok (.invokespecial 1, 3) := by decide +kernel
theorem dX8_init_4 : decode cX8_init 4 = .ok (.aload_n 0, 1) := by decide +kernel
theorem dX8_init_5 : decode cX8_init 5 = .ok (.iconst 4, 1) := by decide +kernel
theorem dX8_init_6 : decode cX8_init 6 = .ok (.newarray .int, 2) := by decide +kernel
theorem dX8_init_8 : decode cX8_init 8 = .ok (.putfield 7, 3) := by decide +kernel
theorem dX8_init_11 : decode cX8_init 11 = .ok (.aload_n 0, 1) := by decide +kernel
theorem dX8_init_12 : decode cX8_init 12 = .ok (.bipush 114, 2) := by decide +kernel
theorem dX8_init_14 : decode cX8_init 14 = .ok (.newarray .int, 2) := by decide +kernel
theorem dX8_init_16 : decode cX8_init 16 = .ok (.putfield 13, 3) := by decide +kernel
theorem dX8_init_19 : decode cX8_init 19 = .ok (.aload_n 0, 1) := by decide +kernel
theorem dX8_init_20 : decode cX8_init 20 = .ok (.bipush 8, 2) := by decide +kernel
theorem dX8_init_22 : decode cX8_init 22 = .ok (.newarray .int, 2) := by decide +kernel
theorem dX8_init_24 : decode cX8_init 24 = .ok (.putfield 16, 3) := by decide +kernel
theorem dX8_init_27 : decode cX8_init 27 = .ok (.aload_n 0, 1) := by decide +kernel
theorem dX8_init_28 : decode cX8_init 28 = .ok (.iconst 4, 1) := by decide +kernel
theorem dX8_init_29 : decode cX8_init 29 = .ok (.newarray .int, 2) := by decide +kernel
theorem dX8_init_31 : decode cX8_init 31 = .ok (.putfield 19, 3) := by decide +kernel
theorem dX8_init_34 : decode cX8_init 34 = .ok (.aload_n 0, 1) := by decide +kernel
theorem dX8_init_35 : decode cX8_init 35 = .ok (.bipush 24, 2) := by decide +kernel
theorem dX8_init_37 : decode cX8_init 37 = .ok (.newarray .int, 2) := by decide +kernel
theorem dX8_init_39 : decode cX8_init 39 = .ok (.putfield 22, 3) := by decide +kernel
theorem dX8_init_42 : decode cX8_init 42 = .ok (.aload_n 0, 1) := by decide +kernel
theorem dX8_init_43 : decode cX8_init 43 = .ok (.bipush 48, 2) := by decide +kernel
theorem dX8_init_45 : decode cX8_init 45 = .ok (.newarray .int, 2) := by decide +kernel
theorem dX8_init_47 : decode cX8_init 47 = .ok (.putfield 25, 3) := by decide +kernel
theorem dX8_init_50 : decode cX8_init 50 = .ok (.aload_n 0, 1) := by decide +kernel
theorem dX8_init_51 : decode cX8_init 51 = .ok (.bipush 12, 2) := by decide +kernel
theorem dX8_init_53 : decode cX8_init 53 = .ok (.newarray .int, 2) := by decide +kernel
theorem dX8_init_55 : decode cX8_init 55 = .ok (.putfield 28, 3) := by decide +kernel
theorem dX8_init_58 : decode cX8_init 58 = .ok (.aload_n 0, 1) := by decide +kernel
theorem dX8_init_59 : decode cX8_init 59 = .ok (.sipush 798, 3) := by decide +kernel
theorem dX8_init_62 : decode cX8_init 62 = .ok (.newarray .int, 2) := by decide +kernel
theorem dX8_init_64 : decode cX8_init 64 = .ok (.putfield 31, 3) := by decide +kernel
theorem dX8_init_67 : decode cX8_init 67 = .ok (.aload_n 0, 1) := by decide +kernel
theorem dX8_init_68 : decode cX8_init 68 = .ok (.bipush 48, 2) := by decide +kernel
theorem dX8_init_70 : decode cX8_init 70 = .ok (.newarray .int, 2) := by decide +kernel
theorem dX8_init_72 : decode cX8_init 72 = .ok (.putfield 34, 3) := by decide +kernel
theorem dX8_init_75 : decode cX8_init 75 = .ok (.aload_n 0, 1) := by decide +kernel
theorem dX8_init_76 : decode cX8_init 76 = .ok (.bipush 6, 2) := by decide +kernel
theorem dX8_init_78 : decode cX8_init 78 = .ok (.newarray .int, 2) := by decide +kernel
theorem dX8_init_80 : decode cX8_init 80 = .ok (.putfield 37, 3) := by decide +kernel
theorem dX8_init_83 : decode cX8_init 83 = .ok (.aload_n 0, 1) := by decide +kernel
theorem dX8_init_84 : decode cX8_init 84 = .ok (.bipush 6, 2) := by decide +kernel
theorem dX8_init_86 : decode cX8_init 86 = .ok (.newarray .int, 2) := by decide +kernel
theorem dX8_init_88 : decode cX8_init 88 = .ok (.putfield 40, 3) := by decide +kernel
theorem dX8_init_91 : decode cX8_init 91 = .ok (.aload_n 0, 1) := by decide +kernel
theorem dX8_init_92 : decode cX8_init 92 = .ok (.iconst 2, 1) := by decide +kernel
theorem dX8_init_93 : decode cX8_init 93 = .ok (.newarray .boolean, 2) := by decide +kernel
theorem dX8_init_95 : decode cX8_init 95 = .ok (.putfield 43, 3) := by decide +kernel
theorem dX8_init_98 : decode cX8_init 98 = .ok (.aload_n 0, 1) := by decide +kernel
theorem dX8_init_99 : decode cX8_init 99 = .ok (.bipush 114, 2) := by decide +kernel
theorem dX8_init_101 : decode cX8_init 101 = .ok (.newarray .int, 2) := by decide +kernel
theorem dX8_init_103 : decode cX8_init 103 = .ok (.putfield 47, 3) := by decide +kernel
theorem dX8_init_106 : decode cX8_init 106 = .ok (.return_, 1) := by decide +kernel
theorem dX8_in_0 : decode cX8_in 0 = .ok (.lload_n 0, 1) := by decide +kernel
theorem dX8_in_1 : decode cX8_in 1 = .ok (.lload_n 2, 1) := by decide +kernel
theorem dX8_in_2 : decode cX8_in 2 = .ok (.lcmp, 1) := by decide +kernel
theorem dX8_in_3 : decode cX8_in 3 = .ok (.ifCond .lt 14, 3) := by decide +kernel
theorem dX8_in_6 : decode cX8_in 6 = .ok (.lload_n 0, 1) := by decide +kernel
theorem dX8_in_7 : decode cX8_in 7 = .ok (.lload 4, 2) := by decide +kernel
theorem dX8_in_9 : decode cX8_in 9 = .ok (.lcmp, 1) := by decide +kernel
theorem dX8_in_10 : decode cX8_in 10 = .ok (.ifCond .gt 7, 3) := by decide +kernel
theorem dX8_in_13 : decode cX8_in 13 = .ok (.iconst 1, 1) := by decide +kernel
theorem dX8_in_14 : decode cX8_in 14 = .ok (.goto 4, 3) := by decide +kernel
theorem dX8_in_17 : decode cX8_in 17 = .ok (.iconst 0, 1) := by decide +kernel
theorem dX8_in_18 : decode cX8_in 18 = .ok (.ireturn, 1) := by decide +kernel
theorem dX8_has_0 : decode cX8_has 0 = .ok (.iload_n 0, 1) := by decide +kernel
theorem dX8_has_1 : decode cX8_has 1 = .ok (.iload_n 1, 1) := by decide +kernel
theorem dX8_has_2 : decode cX8_has 2 = .ok (.ishr, 1) := by decide +kernel
theorem dX8_has_3 : decode cX8_has 3 = .ok (.iconst 1, 1) := by decide +kernel
theorem dX8_has_4 : decode cX8_has 4 = .ok (.iand, 1) := by decide +kernel
theorem dX8_has_5 : decode cX8_has 5 = .ok (.iconst 1, 1) := by decide +kernel
theorem dX8_has_6 : decode cX8_has 6 = .ok (.if_icmp .ne 7, 3) := by decide +kernel
theorem dX8_has_9 : decode cX8_has 9 = .ok (.iconst 1, 1) := by decide +kernel
theorem dX8_has_10 : decode cX8_has 10 = .ok (.goto 4, 3) := by decide +kernel
theorem dX8_has_13 : decode cX8_has 13 = .ok (.iconst 0, 1) := by decide +kernel
theorem dX8_has_14 : decode cX8_has 14 = .ok (.ireturn, 1) := by decide +kernel
theorem dX8_ones_0 : decode cX8_ones 0 = .ok (.iconst 0, 1) := by decide +kernel
theorem dX8_ones_1 : decode cX8_ones 1 = .ok (.istore_n 1, 1) := by decide +kernel
theorem dX8_ones_2 : decode cX8_ones 2 = .ok (.iconst 0, 1) := by decide +kernel
theorem dX8_ones_3 : decode cX8_ones 3 = .ok (.istore_n 2, 1) := by decide +kernel
theorem dX8_ones_4 : decode cX8_ones 4 = .ok (.iload_n 2, 1) := by decide +kernel
theorem dX8_ones_5 : decode cX8_ones 5 = .ok (.bipush 12, 2) := by decide +kernel
theorem dX8_ones_7 : decode cX8_ones 7 = .ok (.if_icmp .ge 17, 3) := by decide +kernel
theorem dX8_ones_10 : decode cX8_ones 10 = .ok (.iload_n 1, 1) := by decide +kernel
theorem dX8_ones_11 : decode cX8_ones 11 = .ok (.iload_n 0, 1) := by decide +kernel
theorem dX8_ones_12 : decode cX8_ones 12 = .ok (.iload_n 2, 1) := by decide +kernel
theorem dX8_ones_13 : decode cX8_ones 13 = .ok (.ishr, 1) := by decide +kernel
theorem dX8_ones_14 : decode cX8_ones 14 = .ok (.iconst 1, 1) := by decide +kernel
theorem dX8_ones_15 : decode cX8_ones 15 = .ok (.iand, 1) := by decide +kernel
theorem dX8_ones_16 : decode cX8_ones 16 = .ok (.iadd, 1) := by decide +kernel
theorem dX8_ones_17 : decode cX8_ones 17 = .ok (.istore_n 1, 1) := by decide +kernel
theorem dX8_ones_18 : decode cX8_ones 18 = .ok (.iinc 2 1, 3) := by decide +kernel
theorem dX8_ones_21 : decode cX8_ones 21 = .ok (.goto (-17), 3) := by decide +kernel
theorem dX8_ones_24 : decode cX8_ones 24 = .ok (.iload_n 1, 1) := by decide +kernel
theorem dX8_ones_25 : decode cX8_ones 25 = .ok (.ireturn, 1) := by decide +kernel
theorem dX8_write_0 : decode cX8_write 0 = .ok (.iload_n 1, 1) := by decide +kernel
theorem dX8_write_1 : decode cX8_write 1 = .ok (.i2l, 1) := by decide +kernel
theorem dX8_write_2 : decode cX8_write 2 = .ok (.lconst 0, 1) := by decide +kernel
theorem dX8_write_3 : decode cX8_write 3 = .ok (.ldc2_w 50, 3) := by decide +kernel
theorem dX8_write_6 : decode cX8_write 6 = .ok (.invokestatic 52, 3) := by decide +kernel
theorem dX8_write_9 : decode cX8_write 9 = .ok (.ifCond .ne 6, 3) := by decide +kernel
theorem dX8_write_12 : decode cX8_write 12 = .ok (.bipush (-2), 2) := by decide +kernel
theorem dX8_write_14 : decode cX8_write 14 = .ok (.ireturn, 1) := by decide +kernel
theorem dX8_write_15 : decode cX8_write 15 = .ok (.aload_n 0, 1) := by decide +kernel
theorem dX8_write_16 : decode cX8_write 16 = .ok (.getfield 56, 3) := by decide +kernel
theorem dX8_write_19 : decode cX8_write 19 = .ok (.bipush 48, 2) := by decide +kernel
theorem dX8_write_21 : decode cX8_write 21 = .ok (.if_icmp .ne 6, 3) := by decide +kernel
theorem dX8_write_24 : decode cX8_write 24 = .ok (.bipush (-4), 2) := by decide +kernel
theorem dX8_write_26 : decode cX8_write 26 = .ok (.ireturn, 1) := by decide +kernel
theorem dX8_write_27 : decode cX8_write 27 = .ok (.aload_n 0, 1) := by decide +kernel
theorem dX8_write_28 : decode cX8_write 28 = .ok (.getfield 25, 3) := by decide +kernel
theorem dX8_write_31 : decode cX8_write 31 = .ok (.aload_n 0, 1) := by decide +kernel
theorem dX8_write_32 : decode cX8_write 32 = .ok (.getfield 56, 3) := by decide +kernel
theorem dX8_write_35 : decode cX8_write 35 = .ok (.iload_n 1, 1) := by decide +kernel
theorem dX8_write_36 : decode cX8_write 36 = .ok (.iastore, 1) := by decide +kernel
theorem dX8_write_37 : decode cX8_write 37 = .ok (.aload_n 0, 1) := by decide +kernel
theorem dX8_write_38 : decode cX8_write 38 = .ok (.dup, 1) := by decide +kernel
theorem dX8_write_39 : decode cX8_write 39 = .ok (.getfield 56, 3) := by decide +kernel
theorem dX8_write_42 : decode cX8_write 42 = .ok (.iconst 1, 1) := by decide +kernel
theorem dX8_write_43 : decode cX8_write 43 = .ok (.iadd, 1) := by decide +kernel
theorem dX8_write_44 : decode cX8_write 44 = .ok (.putfield 56, 3) := by decide +kernel
theorem dX8_write_47 : decode cX8_write 47 = .ok (.aload_n 0, 1) := by decide +kernel
theorem dX8_write_48 : decode cX8_write 48 = .ok (.getfield 56, 3) := by decide +kernel
theorem dX8_write_51 : decode cX8_write 51 = .ok (.ireturn, 1) := by decide +kernel
theorem dX8_wipe_0 : decode cX8_wipe 0 = .ok (.aload_n 0, 1) := by decide +kernel
theorem dX8_wipe_1 : decode cX8_wipe 1 = .ok (.getfield 56, 3) := by decide +kernel
theorem dX8_wipe_4 : decode cX8_wipe 4 = .ok (.istore_n 1, 1) := by decide +kernel
theorem dX8_wipe_5 : decode cX8_wipe 5 = .ok (.aload_n 0, 1) := by decide +kernel
theorem dX8_wipe_6 : decode cX8_wipe 6 = .ok (.iconst 0, 1) := by decide +kernel
theorem dX8_wipe_7 : decode cX8_wipe 7 = .ok (.putfield 56, 3) := by decide +kernel
theorem dX8_wipe_10 : decode cX8_wipe 10 = .ok (.iload_n 1, 1) := by decide +kernel
theorem dX8_wipe_11 : decode cX8_wipe 11 = .ok (.ireturn, 1) := by decide +kernel
theorem dX8_nextOf_0 : decode cX8_nextOf 0 = .ok (.aload_n 0, 1) := by decide +kernel
theorem dX8_nextOf_1 : decode cX8_nextOf 1 = .ok (.getfield 60, 3) := by decide +kernel
theorem dX8_nextOf_4 : decode cX8_nextOf 4 = .ok (.bipush (-9), 2) := by decide +kernel
theorem dX8_nextOf_6 : decode cX8_nextOf 6 = .ok (.if_icmp .ne 18, 3) := by decide +kernel
theorem dX8_nextOf_9 : decode cX8_nextOf 9 = .ok (.aload_n 0, 1) := by decide +kernel
theorem dX8_nextOf_10 : decode cX8_nextOf 10 = .ok (.getfield 63, 3) := by decide +kernel
theorem dX8_nextOf_13 : decode cX8_nextOf 13 = .ok (.aload_n 0, 1) := by decide +kernel
theorem dX8_nextOf_14 : decode cX8_nextOf 14 = .ok (.getfield 56, 3) := by decide +kernel
theorem dX8_nextOf_17 : decode cX8_nextOf 17 = .ok (.if_icmp .ge 7, 3) := by decide +kernel
theorem dX8_nextOf_20 : decode cX8_nextOf 20 = .ok (.iconst 1, 1) := by decide +kernel
theorem dX8_nextOf_21 : decode cX8_nextOf 21 = .ok (.goto 4, 3) := by decide +kernel
theorem dX8_nextOf_24 : decode cX8_nextOf 24 = .ok (.iconst 0, 1) := by decide +kernel
theorem dX8_nextOf_25 : decode cX8_nextOf 25 = .ok (.istore_n 3, 1) := by decide +kernel
theorem dX8_nextOf_26 : decode cX8_nextOf 26 = .ok (.iload_n 3, 1) := by decide +kernel
theorem dX8_nextOf_27 : decode cX8_nextOf 27 = .ok (.ifCond .eq 17, 3) := by decide +kernel
theorem dX8_nextOf_30 : decode cX8_nextOf 30 = .ok (.aload_n 0, 1) := by decide +kernel
theorem dX8_nextOf_31 : decode cX8_nextOf 31 = .ok (.getfield 25, 3) := by decide +kernel
theorem dX8_nextOf_34 : decode cX8_nextOf 34 = .ok (.aload_n 0, 1) := by decide +kernel
theorem dX8_nextOf_35 : decode cX8_nextOf 35 = .ok (.getfield 63, 3) := by decide +kernel
theorem dX8_nextOf_38 : decode cX8_nextOf 38 = .ok (.iaload, 1) := by decide +kernel
theorem dX8_nextOf_39 : decode cX8_nextOf 39 = .ok (.iload_n 1, 1) := by decide +kernel
theorem dX8_nextOf_40 : decode cX8_nextOf 40 = .ok (.isub, 1) := by decide +kernel
theorem dX8_nextOf_41 : decode cX8_nextOf 41 = .ok (.goto 4, 3) := by decide +kernel
theorem dX8_nextOf_44 : decode cX8_nextOf 44 = .ok (.iconst 0, 1) := by decide +kernel
theorem dX8_nextOf_45 : decode cX8_nextOf 45 = .ok (.istore 4, 2) := by decide +kernel
theorem dX8_nextOf_47 : decode cX8_nextOf 47 = .ok (.iload_n 3, 1) := by decide +kernel
theorem dX8_nextOf_48 : decode cX8_nextOf 48 = .ok (.ifCond .eq 15, 3) := by decide +kernel
theorem dX8_nextOf_51 : decode cX8_nextOf 51 = .ok (.iload 4, 2) := by decide +kernel
theorem dX8_nextOf_53 : decode cX8_nextOf 53 = .ok (.i2l, 1) := by decide +kernel
theorem dX8_nextOf_54 : decode cX8_nextOf 54 = .ok (.lconst 0, 1) := by decide +kernel
theorem dX8_nextOf_55 : decode cX8_nextOf 55 = .ok (.iload_n 2, 1) := by decide +kernel
theorem dX8_nextOf_56 : decode cX8_nextOf 56 = .ok (.i2l, 1) := by decide +kernel
theorem dX8_nextOf_57 : decode cX8_nextOf 57 = .ok (.invokestatic 52, 3) := by decide +kernel
theorem dX8_nextOf_60 : decode cX8_nextOf 60 = .ok (.ifCond .ne 29, 3) := by decide +kernel
theorem dX8_nextOf_63 : decode cX8_nextOf 63 = .ok (.aload_n 0, 1) := by decide +kernel
theorem dX8_nextOf_64 : decode cX8_nextOf 64 = .ok (.aload_n 0, 1) := by decide +kernel
theorem dX8_nextOf_65 : decode cX8_nextOf 65 = .ok (.getfield 60, 3) := by decide +kernel
theorem dX8_nextOf_68 : decode cX8_nextOf 68 = .ok (.bipush (-9), 2) := by decide +kernel
theorem dX8_nextOf_70 : decode cX8_nextOf 70 = .ok (.if_icmp .ne 10, 3) := by decide +kernel
theorem dX8_nextOf_73 : decode cX8_nextOf 73 = .ok (.aload_n 0, 1) := by decide +kernel
theorem dX8_nextOf_74 : decode cX8_nextOf 74 = .ok (.getfield 63, 3) := by decide +kernel
theorem dX8_nextOf_77 : decode cX8_nextOf 77 = .ok (.goto 7, 3) := by decide +kernel
theorem dX8_nextOf_80 : decode cX8_nextOf 80 = .ok (.aload_n 0, 1) := by decide +kernel
theorem dX8_nextOf_81 : decode cX8_nextOf 81 = .ok (.getfield 60, 3) := by decide +kernel
theorem dX8_nextOf_84 : decode cX8_nextOf 84 = .ok (.putfield 60, 3) := by decide +kernel
theorem dX8_nextOf_87 : decode cX8_nextOf 87 = .ok (.iconst 0, 1) := by decide +kernel
theorem dX8_nextOf_88 : decode cX8_nextOf 88 = .ok (.ireturn, 1) := by decide +kernel
theorem dX8_nextOf_89 : decode cX8_nextOf 89 = .ok (.aload_n 0, 1) := by decide +kernel
theorem dX8_nextOf_90 : decode cX8_nextOf 90 = .ok (.dup, 1) := by decide +kernel
theorem dX8_nextOf_91 : decode cX8_nextOf 91 = .ok (.getfield 63, 3) := by decide +kernel
theorem dX8_nextOf_94 : decode cX8_nextOf 94 = .ok (.iconst 1, 1) := by decide +kernel
theorem dX8_nextOf_95 : decode cX8_nextOf 95 = .ok (.iadd, 1) := by decide +kernel
theorem dX8_nextOf_96 : decode cX8_nextOf 96 = .ok (.putfield 63, 3) := by decide +kernel
theorem dX8_nextOf_99 : decode cX8_nextOf 99 = .ok (.iload 4, 2) := by decide +kernel
theorem dX8_nextOf_101 : decode cX8_nextOf 101 = .ok (.ireturn, 1) := by decide +kernel
theorem dX8_isBend_0 : decode cX8_isBend 0 = .ok (.aload_n 0, 1) := by decide +kernel
theorem dX8_isBend_1 : decode cX8_isBend 1 = .ok (.getfield 60, 3) := by decide +kernel
theorem dX8_isBend_4 : decode cX8_isBend 4 = .ok (.bipush (-9), 2) := by decide +kernel
theorem dX8_isBend_6 : decode cX8_isBend 6 = .ok (.if_icmp .ne 40, 3) := by decide +kernel
theorem dX8_isBend_9 : decode cX8_isBend 9 = .ok (.aload_n 0, 1) := by decide +kernel
theorem dX8_isBend_10 : decode cX8_isBend 10 = .ok (.getfield 63, 3) := by decide +kernel
theorem dX8_isBend_13 : decode cX8_isBend 13 = .ok (.aload_n 0, 1) := by decide +kernel
theorem dX8_isBend_14 : decode cX8_isBend 14 = .ok (.getfield 56, 3) := by decide +kernel
theorem dX8_isBend_17 : decode cX8_isBend 17 = .ok (.if_icmp .ge 29, 3) := by decide +kernel
theorem dX8_isBend_20 : decode cX8_isBend 20 = .ok (.aload_n 0, 1) := by decide +kernel
theorem dX8_isBend_21 : decode cX8_isBend 21 = .ok (.getfield 25, 3) := by decide +kernel
theorem dX8_isBend_24 : decode cX8_isBend 24 = .ok (.aload_n 0, 1) := by decide +kernel
theorem dX8_isBend_25 : decode cX8_isBend 25 = .ok (.getfield 63, 3) := by decide +kernel
theorem dX8_isBend_28 : decode cX8_isBend 28 = .ok (.iaload, 1) := by decide +kernel
theorem dX8_isBend_29 : decode cX8_isBend 29 = .ok (.i2l, 1) := by decide +kernel
theorem dX8_isBend_30 : decode cX8_isBend 30 = .ok (.ldc2_w 66, 3) := by decide +kernel
theorem dX8_isBend_33 : decode cX8_isBend 33 = .ok (.ldc2_w 68, 3) := by decide +kernel
theorem dX8_isBend_36 : decode cX8_isBend 36 = .ok (.invokestatic 52, 3) := by decide +kernel
theorem dX8_isBend_39 : decode cX8_isBend 39 = .ok (.ifCond .eq 7, 3) := by decide +kernel
theorem dX8_isBend_42 : decode cX8_isBend 42 = .ok (.iconst 1, 1) := by decide +kernel
theorem dX8_isBend_43 : decode cX8_isBend 43 = .ok (.goto 4, 3) := by decide +kernel
theorem dX8_isBend_46 : decode cX8_isBend 46 = .ok (.iconst 0, 1) := by decide +kernel
theorem dX8_isBend_47 : decode cX8_isBend 47 = .ok (.ireturn, 1) := by decide +kernel
theorem dX8_readText_0 : decode cX8_readText 0 = .ok (.aload_n 0, 1) := by decide +kernel
theorem dX8_readText_1 : decode cX8_readText 1 = .ok (.iconst 0, 1) := by decide +kernel
theorem dX8_readText_2 : decode cX8_readText 2 = .ok (.putfield 63, 3) := by decide +kernel
theorem dX8_readText_5 : decode cX8_readText 5 = .ok (.aload_n 0, 1) := by decide +kernel
theorem dX8_readText_6 : decode cX8_readText 6 = .ok (.bipush (-9), 2) := by decide +kernel
theorem dX8_readText_8 : decode cX8_readText 8 = .ok (.putfield 60, 3) := by decide +kernel
theorem dX8_readText_11 : decode cX8_readText 11 = .ok (.aload_n 0, 1) := by decide +kernel
theorem dX8_readText_12 : decode cX8_readText 12 = .ok (.iconst 0, 1) := by decide +kernel
theorem dX8_readText_13 : decode cX8_readText 13 = .ok (.putfield 70, 3) := by decide +kernel
theorem dX8_readText_16 : decode cX8_readText 16 = .ok (.aload_n 0, 1) := by decide +kernel
theorem dX8_readText_17 : decode cX8_readText 17 = .ok (.getfield 56, 3) := by decide +kernel
theorem dX8_readText_20 : decode cX8_readText 20 = .ok (.ifCond .eq 14, 3) := by decide +kernel
theorem dX8_readText_23 : decode cX8_readText 23 = .ok (.aload_n 0, 1) := by decide +kernel
theorem dX8_readText_24 : decode cX8_readText 24 = .ok (.getfield 25, 3) := by decide +kernel
theorem dX8_readText_27 : decode cX8_readText 27 = .ok (.iconst 0, 1) := by decide +kernel
theorem dX8_readText_28 : decode cX8_readText 28 = .ok (.iaload, 1) := by decide +kernel
theorem dX8_readText_29 : decode cX8_readText 29 = .ok (.bipush 84, 2) := by decide +kernel
theorem dX8_readText_31 : decode cX8_readText 31 = .ok (.if_icmp .eq 5, 3) := by decide +kernel
theorem dX8_readText_34 : decode cX8_readText 34 = .ok (.iconst 0, 1) := by decide +kernel
theorem dX8_readText_35 : decode cX8_readText 35 = .ok (.ireturn, 1) := by decide +kernel
theorem dX8_readText_36 : decode cX8_readText 36 = .ok (.aload_n 0, 1) := by decide +kernel
theorem dX8_readText_37 : decode cX8_readText 37 = .ok (.iconst 1, 1) := by decide +kernel
theorem dX8_readText_38 : decode cX8_readText 38 = .ok (.putfield 63, 3) := by decide +kernel
theorem dX8_readText_41 : decode cX8_readText 41 = .ok (.aload_n 0, 1) := by decide +kernel
theorem dX8_readText_42 : decode cX8_readText 42 = .ok (.getfield 60, 3) := by decide +kernel
theorem dX8_readText_45 : decode cX8_readText 45 = .ok (.bipush (-9), 2) := by decide +kernel
theorem dX8_readText_47 : decode cX8_readText 47 = .ok (.if_icmp .ne 30, 3) := by decide +kernel
theorem dX8_readText_50 : decode cX8_readText 50 = .ok (.aload_n 0, 1) := by decide +kernel
theorem dX8_readText_51 : decode cX8_readText 51 = .ok (.getfield 63, 3) := by decide +kernel
theorem dX8_readText_54 : decode cX8_readText 54 = .ok (.aload_n 0, 1) := by decide +kernel
theorem dX8_readText_55 : decode cX8_readText 55 = .ok (.getfield 56, 3) := by decide +kernel
theorem dX8_readText_58 : decode cX8_readText 58 = .ok (.if_icmp .ge 19, 3) := by decide +kernel
theorem dX8_readText_61 : decode cX8_readText 61 = .ok (.aload_n 0, 1) := by decide +kernel
theorem dX8_readText_62 : decode cX8_readText 62 = .ok (.aload_n 0, 1) := by decide +kernel
theorem dX8_readText_63 : decode cX8_readText 63 = .ok (.getfield 25, 3) := by decide +kernel
theorem dX8_readText_66 : decode cX8_readText 66 = .ok (.aload_n 0, 1) := by decide +kernel
theorem dX8_readText_67 : decode cX8_readText 67 = .ok (.getfield 63, 3) := by decide +kernel
theorem dX8_readText_70 : decode cX8_readText 70 = .ok (.iaload, 1) := by decide +kernel
theorem dX8_readText_71 : decode cX8_readText 71 = .ok (.invokevirtual 73, 3) := by decide +kernel
theorem dX8_readText_74 : decode cX8_readText 74 = .ok (.goto (-33), 3) := by decide +kernel
theorem dX8_readText_77 : decode cX8_readText 77 = .ok (.aload_n 0, 1) := by decide +kernel
theorem dX8_readText_78 : decode cX8_readText 78 = .ok (.getfield 60, 3) := by decide +kernel
theorem dX8_readText_81 : decode cX8_readText 81 = .ok (.ireturn, 1) := by decide +kernel
theorem dX8_readPart_0 : decode cX8_readPart 0 = .ok (.iload_n 1, 1) := by decide +kernel
theorem dX8_readPart_1 : decode cX8_readPart 1 = .ok (.bipush 83, 2) := by decide +kernel
theorem dX8_readPart_3 : decode cX8_readPart 3 = .ok (.if_icmp .ne 11, 3) := by decide +kernel
theorem dX8_readPart_6 : decode cX8_readPart 6 = .ok (.aload_n 0, 1) := by decide +kernel
theorem dX8_readPart_7 : decode cX8_readPart 7 = .ok (.getfield 70, 3) := by decide +kernel
theorem dX8_readPart_10 : decode cX8_readPart 10 = .ok (.iconst 4, 1) := by decide +kernel
theorem dX8_readPart_11 : decode cX8_readPart 11 = .ok (.if_icmp .ne 12, 3) := by decide +kernel
theorem dX8_readPart_14 : decode cX8_readPart 14 = .ok (.aload_n 0, 1) := by decide +kernel
theorem dX8_readPart_15 : decode cX8_readPart 15 = .ok (.aload_n 0, 1) := by decide +kernel
theorem dX8_readPart_16 : decode cX8_readPart 16 = .ok (.getfield 63, 3) := by decide +kernel
theorem dX8_readPart_19 : decode cX8_readPart 19 = .ok (.putfield 60, 3) := by decide +kernel
theorem dX8_readPart_22 : decode cX8_readPart 22 = .ok (.return_, 1) := by decide +kernel
theorem dX8_readPart_23 : decode cX8_readPart 23 = .ok (.aload_n 0, 1) := by decide +kernel
theorem dX8_readPart_24 : decode cX8_readPart 24 = .ok (.dup, 1) := by decide +kernel
theorem dX8_readPart_25 : decode cX8_readPart 25 = .ok (.getfield 63, 3) := by decide +kernel
theorem dX8_readPart_28 : decode cX8_readPart 28 = .ok (.iconst 1, 1) := by decide +kernel
theorem dX8_readPart_29 : decode cX8_readPart 29 = .ok (.iadd, 1) := by decide +kernel
theorem dX8_readPart_30 : decode cX8_readPart 30 = .ok (.putfield 63, 3) := by decide +kernel
theorem dX8_readPart_33 : decode cX8_readPart 33 = .ok (.aload_n 0, 1) := by decide +kernel
theorem dX8_readPart_34 : decode cX8_readPart 34 = .ok (.getfield 16, 3) := by decide +kernel
theorem dX8_readPart_37 : decode cX8_readPart 37 = .ok (.iconst 2, 1) := by decide +kernel
theorem dX8_readPart_38 : decode cX8_readPart 38 = .ok (.aload_n 0, 1) := by decide +kernel
theorem dX8_readPart_39 : decode cX8_readPart 39 = .ok (.getfield 70, 3) := by decide +kernel
theorem dX8_readPart_42 : decode cX8_readPart 42 = .ok (.imul, 1) := by decide +kernel
theorem dX8_readPart_43 : decode cX8_readPart 43 = .ok (.aload_n 0, 1) := by decide +kernel
theorem dX8_readPart_44 : decode cX8_readPart 44 = .ok (.bipush 48, 2) := by decide +kernel
theorem dX8_readPart_46 : decode cX8_readPart 46 = .ok (.iconst 3, 1) := by decide +kernel
theorem dX8_readPart_47 : decode cX8_readPart 47 = .ok (.invokevirtual 77, 3) := by decide +kernel
theorem dX8_readPart_50 : decode cX8_readPart 50 = .ok (.iastore, 1) := by decide +kernel
theorem dX8_readPart_51 : decode cX8_readPart 51 = .ok (.aload_n 0, 1) := by decide +kernel
theorem dX8_readPart_52 : decode cX8_readPart 52 = .ok (.getfield 16, 3) := by decide +kernel
theorem dX8_readPart_55 : decode cX8_readPart 55 = .ok (.iconst 2, 1) := by decide +kernel
theorem dX8_readPart_56 : decode cX8_readPart 56 = .ok (.aload_n 0, 1) := by decide +kernel
theorem dX8_readPart_57 : decode cX8_readPart 57 = .ok (.getfield 70, 3) := by decide +kernel
theorem dX8_readPart_60 : decode cX8_readPart 60 = .ok (.imul, 1) := by decide +kernel
theorem dX8_readPart_61 : decode cX8_readPart 61 = .ok (.iconst 1, 1) := by decide +kernel
theorem dX8_readPart_62 : decode cX8_readPart 62 = .ok (.iadd, 1) := by decide +kernel
theorem dX8_readPart_63 : decode cX8_readPart 63 = .ok (.aload_n 0, 1) := by decide +kernel
theorem dX8_readPart_64 : decode cX8_readPart 64 = .ok (.bipush 48, 2) := by decide +kernel
theorem dX8_readPart_66 : decode cX8_readPart 66 = .ok (.iconst 3, 1) := by decide +kernel
theorem dX8_readPart_67 : decode cX8_readPart 67 = .ok (.invokevirtual 77, 3) := by decide +kernel
theorem dX8_readPart_70 : decode cX8_readPart 70 = .ok (.iastore, 1) := by decide +kernel
theorem dX8_readPart_71 : decode cX8_readPart 71 = .ok (.aload_n 0, 1) := by decide +kernel
theorem dX8_readPart_72 : decode cX8_readPart 72 = .ok (.getfield 22, 3) := by decide +kernel
theorem dX8_readPart_75 : decode cX8_readPart 75 = .ok (.bipush 6, 2) := by decide +kernel
theorem dX8_readPart_77 : decode cX8_readPart 77 = .ok (.aload_n 0, 1) := by decide +kernel
theorem dX8_readPart_78 : decode cX8_readPart 78 = .ok (.getfield 70, 3) := by decide +kernel
theorem dX8_readPart_81 : decode cX8_readPart 81 = .ok (.imul, 1) := by decide +kernel
theorem dX8_readPart_82 : decode cX8_readPart 82 = .ok (.aload_n 0, 1) := by decide +kernel
theorem dX8_readPart_83 : decode cX8_readPart 83 = .ok (.bipush 97, 2) := by decide +kernel
theorem dX8_readPart_85 : decode cX8_readPart 85 = .ok (.iconst 3, 1) := by decide +kernel
theorem dX8_readPart_86 : decode cX8_readPart 86 = .ok (.invokevirtual 77, 3) := by decide +kernel
theorem dX8_readPart_89 : decode cX8_readPart 89 = .ok (.iconst 1, 1) := by decide +kernel
theorem dX8_readPart_90 : decode cX8_readPart 90 = .ok (.iadd, 1) := by decide +kernel
theorem dX8_readPart_91 : decode cX8_readPart 91 = .ok (.iastore, 1) := by decide +kernel
theorem dX8_readPart_92 : decode cX8_readPart 92 = .ok (.iconst 1, 1) := by decide +kernel
theorem dX8_readPart_93 : decode cX8_readPart 93 = .ok (.istore_n 2, 1) := by decide +kernel
theorem dX8_readPart_94 : decode cX8_readPart 94 = .ok (.iload_n 2, 1) := by decide +kernel
theorem dX8_readPart_95 : decode cX8_readPart 95 = .ok (.bipush 6, 2) := by decide +kernel
theorem dX8_readPart_97 : decode cX8_readPart 97 = .ok (.if_icmp .ge 52, 3) := by decide +kernel
theorem dX8_readPart_100 : decode cX8_readPart 100 = .ok (.aload_n 0, 1) := by decide +kernel
theorem dX8_readPart_101 : decode cX8_readPart 101 = .ok (.invokevirtual 81, 3) := by decide +kernel
theorem dX8_readPart_104 : decode cX8_readPart 104 = .ok (.ifCond .eq 45, 3) := by decide +kernel
theorem dX8_readPart_107 : decode cX8_readPart 107 = .ok (.aload_n 0, 1) := by decide +kernel
theorem dX8_readPart_108 : decode cX8_readPart 108 = .ok (.getfield 22, 3) := by decide +kernel
theorem dX8_readPart_111 : decode cX8_readPart 111 = .ok (.bipush 6, 2) := by decide +kernel
theorem dX8_readPart_113 : decode cX8_readPart 113 = .ok (.aload_n 0, 1) := by decide +kernel
theorem dX8_readPart_114 : decode cX8_readPart 114 = .ok (.getfield 70, 3) := by decide +kernel
theorem dX8_readPart_117 : decode cX8_readPart 117 = .ok (.imul, 1) := by decide +kernel
theorem dX8_readPart_118 : decode cX8_readPart 118 = .ok (.iload_n 2, 1) := by decide +kernel
theorem dX8_readPart_119 : decode cX8_readPart 119 = .ok (.iadd, 1) := by decide +kernel
theorem dX8_readPart_120 : decode cX8_readPart 120 = .ok (.aload_n 0, 1) := by decide +kernel
theorem dX8_readPart_121 : decode cX8_readPart 121 = .ok (.getfield 25, 3) := by decide +kernel
theorem dX8_readPart_124 : decode cX8_readPart 124 = .ok (.aload_n 0, 1) := by decide +kernel
theorem dX8_readPart_125 : decode cX8_readPart 125 = .ok (.getfield 63, 3) := by decide +kernel
theorem dX8_readPart_128 : decode cX8_readPart 128 = .ok (.iaload, 1) := by decide +kernel
theorem dX8_readPart_129 : decode cX8_readPart 129 = .ok (.bipush 96, 2) := by decide +kernel
theorem dX8_readPart_131 : decode cX8_readPart 131 = .ok (.isub, 1) := by decide +kernel
theorem dX8_readPart_132 : decode cX8_readPart 132 = .ok (.iastore, 1) := by decide +kernel
theorem dX8_readPart_133 : decode cX8_readPart 133 = .ok (.aload_n 0, 1) := by decide +kernel
theorem dX8_readPart_134 : decode cX8_readPart 134 = .ok (.dup, 1) := by decide +kernel
theorem dX8_readPart_135 : decode cX8_readPart 135 = .ok (.getfield 63, 3) := by decide +kernel
theorem dX8_readPart_138 : decode cX8_readPart 138 = .ok (.iconst 1, 1) := by decide +kernel
theorem dX8_readPart_139 : decode cX8_readPart 139 = .ok (.iadd, 1) := by decide +kernel
theorem dX8_readPart_140 : decode cX8_readPart 140 = .ok (.putfield 63, 3) := by decide +kernel
theorem dX8_readPart_143 : decode cX8_readPart 143 = .ok (.iinc 2 1, 3) := by decide +kernel
theorem dX8_readPart_146 : decode cX8_readPart 146 = .ok (.goto (-52), 3) := by decide +kernel
theorem dX8_readPart_149 : decode cX8_readPart 149 = .ok (.aload_n 0, 1) := by decide +kernel
theorem dX8_readPart_150 : decode cX8_readPart 150 = .ok (.getfield 19, 3) := by decide +kernel
theorem dX8_readPart_153 : decode cX8_readPart 153 = .ok (.aload_n 0, 1) := by decide +kernel
theorem dX8_readPart_154 : decode cX8_readPart 154 = .ok (.getfield 70, 3) := by decide +kernel
theorem dX8_readPart_157 : decode cX8_readPart 157 = .ok (.iload_n 2, 1) := by decide +kernel
theorem dX8_readPart_158 : decode cX8_readPart 158 = .ok (.iastore, 1) := by decide +kernel
theorem dX8_readPart_159 : decode cX8_readPart 159 = .ok (.aload_n 0, 1) := by decide +kernel
theorem dX8_readPart_160 : decode cX8_readPart 160 = .ok (.dup, 1) := by decide +kernel
theorem dX8_readPart_161 : decode cX8_readPart 161 = .ok (.getfield 70, 3) := by decide +kernel
theorem dX8_readPart_164 : decode cX8_readPart 164 = .ok (.iconst 1, 1) := by decide +kernel
theorem dX8_readPart_165 : decode cX8_readPart 165 = .ok (.iadd, 1) := by decide +kernel
theorem dX8_readPart_166 : decode cX8_readPart 166 = .ok (.putfield 70, 3) := by decide +kernel
theorem dX8_readPart_169 : decode cX8_readPart 169 = .ok (.return_, 1) := by decide +kernel
theorem dX8_fault_0 : decode cX8_fault 0 = .ok (.aload_n 0, 1) := by decide +kernel
theorem dX8_fault_1 : decode cX8_fault 1 = .ok (.invokevirtual 85, 3) := by decide +kernel
theorem dX8_fault_4 : decode cX8_fault 4 = .ok (.ireturn, 1) := by decide +kernel
theorem dX8_valley_0 : decode cX8_valley 0 = .ok (.aload_n 0, 1) := by decide +kernel
theorem dX8_valley_1 : decode cX8_valley 1 = .ok (.invokevirtual 85, 3) := by decide +kernel
theorem dX8_valley_4 : decode cX8_valley 4 = .ok (.bipush (-9), 2) := by decide +kernel
theorem dX8_valley_6 : decode cX8_valley 6 = .ok (.if_icmp .eq 6, 3) := by decide +kernel
theorem dX8_valley_9 : decode cX8_valley 9 = .ok (.bipush (-3), 2) := by decide +kernel
theorem dX8_valley_11 : decode cX8_valley 11 = .ok (.ireturn, 1) := by decide +kernel
theorem dX8_valley_12 : decode cX8_valley 12 = .ok (.aload_n 0, 1) := by decide +kernel
theorem dX8_valley_13 : decode cX8_valley 13 = .ok (.aload_n 0, 1) := by decide +kernel
theorem dX8_valley_14 : decode cX8_valley 14 = .ok (.getfield 70, 3) := by decide +kernel
theorem dX8_valley_17 : decode cX8_valley 17 = .ok (.putfield 89, 3) := by decide +kernel
theorem dX8_valley_20 : decode cX8_valley 20 = .ok (.iconst 0, 1) := by decide +kernel
theorem dX8_valley_21 : decode cX8_valley 21 = .ok (.istore_n 1, 1) := by decide +kernel
theorem dX8_valley_22 : decode cX8_valley 22 = .ok (.iload_n 1, 1) := by decide +kernel
theorem dX8_valley_23 : decode cX8_valley 23 = .ok (.bipush 57, 2) := by decide +kernel
theorem dX8_valley_25 : decode cX8_valley 25 = .ok (.if_icmp .ge 16, 3) := by decide +kernel
theorem dX8_valley_28 : decode cX8_valley 28 = .ok (.aload_n 0, 1) := by decide +kernel
theorem dX8_valley_29 : decode cX8_valley 29 = .ok (.getfield 13, 3) := by decide +kernel
theorem dX8_valley_32 : decode cX8_valley 32 = .ok (.iload_n 1, 1) := by decide +kernel
theorem dX8_valley_33 : decode cX8_valley 33 = .ok (.iconst 0, 1) := by decide +kernel
theorem dX8_valley_34 : decode cX8_valley 34 = .ok (.iastore, 1) := by decide +kernel
theorem dX8_valley_35 : decode cX8_valley 35 = .ok (.iinc 1 1, 3) := by decide +kernel
theorem dX8_valley_38 : decode cX8_valley 38 = .ok (.goto (-16), 3) := by decide +kernel
theorem dX8_valley_41 : decode cX8_valley 41 = .ok (.iconst 0, 1) := by decide +kernel
theorem dX8_valley_42 : decode cX8_valley 42 = .ok (.istore_n 1, 1) := by decide +kernel
theorem dX8_valley_43 : decode cX8_valley 43 = .ok (.iload_n 1, 1) := by decide +kernel
theorem dX8_valley_44 : decode cX8_valley 44 = .ok (.aload_n 0, 1) := by decide +kernel
theorem dX8_valley_45 : decode cX8_valley 45 = .ok (.getfield 89, 3) := by decide +kernel
theorem dX8_valley_48 : decode cX8_valley 48 = .ok (.if_icmp .ge 96, 3) := by decide +kernel
theorem dX8_valley_51 : decode cX8_valley 51 = .ok (.aload_n 0, 1) := by decide +kernel
theorem dX8_valley_52 : decode cX8_valley 52 = .ok (.getfield 13, 3) := by decide +kernel
theorem dX8_valley_55 : decode cX8_valley 55 = .ok (.iload_n 1, 1) := by decide +kernel
theorem dX8_valley_56 : decode cX8_valley 56 = .ok (.aload_n 0, 1) := by decide +kernel
theorem dX8_valley_57 : decode cX8_valley 57 = .ok (.getfield 16, 3) := by decide +kernel
theorem dX8_valley_60 : decode cX8_valley 60 = .ok (.iconst 2, 1) := by decide +kernel
theorem dX8_valley_61 : decode cX8_valley 61 = .ok (.iload_n 1, 1) := by decide +kernel
theorem dX8_valley_62 : decode cX8_valley 62 = .ok (.imul, 1) := by decide +kernel
theorem dX8_valley_63 : decode cX8_valley 63 = .ok (.iaload, 1) := by decide +kernel
theorem dX8_valley_64 : decode cX8_valley 64 = .ok (.iastore, 1) := by decide +kernel
theorem dX8_valley_65 : decode cX8_valley 65 = .ok (.aload_n 0, 1) := by decide +kernel
theorem dX8_valley_66 : decode cX8_valley 66 = .ok (.getfield 7, 3) := by decide +kernel
theorem dX8_valley_69 : decode cX8_valley 69 = .ok (.iload_n 1, 1) := by decide +kernel
theorem dX8_valley_70 : decode cX8_valley 70 = .ok (.aload_n 0, 1) := by decide +kernel
theorem dX8_valley_71 : decode cX8_valley 71 = .ok (.getfield 16, 3) := by decide +kernel
theorem dX8_valley_74 : decode cX8_valley 74 = .ok (.iconst 2, 1) := by decide +kernel
theorem dX8_valley_75 : decode cX8_valley 75 = .ok (.iload_n 1, 1) := by decide +kernel
theorem dX8_valley_76 : decode cX8_valley 76 = .ok (.imul, 1) := by decide +kernel
theorem dX8_valley_77 : decode cX8_valley 77 = .ok (.iconst 1, 1) := by decide +kernel
theorem dX8_valley_78 : decode cX8_valley 78 = .ok (.iadd, 1) := by decide +kernel
theorem dX8_valley_79 : decode cX8_valley 79 = .ok (.iaload, 1) := by decide +kernel
theorem dX8_valley_80 : decode cX8_valley 80 = .ok (.iastore, 1) := by decide +kernel
theorem dX8_valley_81 : decode cX8_valley 81 = .ok (.aload_n 0, 1) := by decide +kernel
theorem dX8_valley_82 : decode cX8_valley 82 = .ok (.getfield 13, 3) := by decide +kernel
theorem dX8_valley_85 : decode cX8_valley 85 = .ok (.iconst 4, 1) := by decide +kernel
theorem dX8_valley_86 : decode cX8_valley 86 = .ok (.iload_n 1, 1) := by decide +kernel
theorem dX8_valley_87 : decode cX8_valley 87 = .ok (.iadd, 1) := by decide +kernel
theorem dX8_valley_88 : decode cX8_valley 88 = .ok (.aload_n 0, 1) := by decide +kernel
theorem dX8_valley_89 : decode cX8_valley 89 = .ok (.getfield 19, 3) := by decide +kernel
theorem dX8_valley_92 : decode cX8_valley 92 = .ok (.iload_n 1, 1) := by decide +kernel
theorem dX8_valley_93 : decode cX8_valley 93 = .ok (.iaload, 1) := by decide +kernel
theorem dX8_valley_94 : decode cX8_valley 94 = .ok (.iastore, 1) := by decide +kernel
theorem dX8_valley_95 : decode cX8_valley 95 = .ok (.iconst 0, 1) := by decide +kernel
theorem dX8_valley_96 : decode cX8_valley 96 = .ok (.istore_n 2, 1) := by decide +kernel
theorem dX8_valley_97 : decode cX8_valley 97 = .ok (.iload_n 2, 1) := by decide +kernel
theorem dX8_valley_98 : decode cX8_valley 98 = .ok (.aload_n 0, 1) := by decide +kernel
theorem dX8_valley_99 : decode cX8_valley 99 = .ok (.getfield 19, 3) := by decide +kernel
theorem dX8_valley_102 : decode cX8_valley 102 = .ok (.iload_n 1, 1) := by decide +kernel
theorem dX8_valley_103 : decode cX8_valley 103 = .ok (.iaload, 1) := by decide +kernel
theorem dX8_valley_104 : decode cX8_valley 104 = .ok (.if_icmp .ge 34, 3) := by decide +kernel
theorem dX8_valley_107 : decode cX8_valley 107 = .ok (.aload_n 0, 1) := by decide +kernel
theorem dX8_valley_108 : decode cX8_valley 108 = .ok (.getfield 13, 3) := by decide +kernel
theorem dX8_valley_111 : decode cX8_valley 111 = .ok (.bipush 8, 2) := by decide +kernel
theorem dX8_valley_113 : decode cX8_valley 113 = .ok (.bipush 12, 2) := by decide +kernel
theorem dX8_valley_115 : decode cX8_valley 115 = .ok (.iload_n 1, 1) := by decide +kernel
theorem dX8_valley_116 : decode cX8_valley 116 = .ok (.imul, 1) := by decide +kernel
theorem dX8_valley_117 : decode cX8_valley 117 = .ok (.iadd, 1) := by decide +kernel
theorem dX8_valley_118 : decode cX8_valley 118 = .ok (.iload_n 2, 1) := by decide +kernel
theorem dX8_valley_119 : decode cX8_valley 119 = .ok (.iadd, 1) := by decide +kernel
theorem dX8_valley_120 : decode cX8_valley 120 = .ok (.aload_n 0, 1) := by decide +kernel
theorem dX8_valley_121 : decode cX8_valley 121 = .ok (.getfield 22, 3) := by decide +kernel
theorem dX8_valley_124 : decode cX8_valley 124 = .ok (.bipush 6, 2) := by decide +kernel
theorem dX8_valley_126 : decode cX8_valley 126 = .ok (.iload_n 1, 1) := by decide +kernel
theorem dX8_valley_127 : decode cX8_valley 127 = .ok (.imul, 1) := by decide +kernel
theorem dX8_valley_128 : decode cX8_valley 128 = .ok (.iload_n 2, 1) := by decide +kernel
theorem dX8_valley_129 : decode cX8_valley 129 = .ok (.iadd, 1) := by decide +kernel
theorem dX8_valley_130 : decode cX8_valley 130 = .ok (.iaload, 1) := by decide +kernel
theorem dX8_valley_131 : decode cX8_valley 131 = .ok (.iastore, 1) := by decide +kernel
theorem dX8_valley_132 : decode cX8_valley 132 = .ok (.iinc 2 1, 3) := by decide +kernel
theorem dX8_valley_135 : decode cX8_valley 135 = .ok (.goto (-38), 3) := by decide +kernel
theorem dX8_valley_138 : decode cX8_valley 138 = .ok (.iinc 1 1, 3) := by decide +kernel
theorem dX8_valley_141 : decode cX8_valley 141 = .ok (.goto (-98), 3) := by decide +kernel
theorem dX8_valley_144 : decode cX8_valley 144 = .ok (.aload_n 0, 1) := by decide +kernel
theorem dX8_valley_145 : decode cX8_valley 145 = .ok (.iconst 0, 1) := by decide +kernel
theorem dX8_valley_146 : decode cX8_valley 146 = .ok (.putfield 92, 3) := by decide +kernel
theorem dX8_valley_149 : decode cX8_valley 149 = .ok (.aload_n 0, 1) := by decide +kernel
theorem dX8_valley_150 : decode cX8_valley 150 = .ok (.getfield 43, 3) := by decide +kernel
theorem dX8_valley_153 : decode cX8_valley 153 = .ok (.iconst 0, 1) := by decide +kernel
theorem dX8_valley_154 : decode cX8_valley 154 = .ok (.iconst 0, 1) := by decide +kernel
theorem dX8_valley_155 : decode cX8_valley 155 = .ok (.bastore, 1) := by decide +kernel
theorem dX8_valley_156 : decode cX8_valley 156 = .ok (.aload_n 0, 1) := by decide +kernel
theorem dX8_valley_157 : decode cX8_valley 157 = .ok (.getfield 43, 3) := by decide +kernel
theorem dX8_valley_160 : decode cX8_valley 160 = .ok (.iconst 1, 1) := by decide +kernel
theorem dX8_valley_161 : decode cX8_valley 161 = .ok (.iconst 0, 1) := by decide +kernel
theorem dX8_valley_162 : decode cX8_valley 162 = .ok (.bastore, 1) := by decide +kernel
theorem dX8_valley_163 : decode cX8_valley 163 = .ok (.aload_n 0, 1) := by decide +kernel
theorem dX8_valley_164 : decode cX8_valley 164 = .ok (.getfield 89, 3) := by decide +kernel
theorem dX8_valley_167 : decode cX8_valley 167 = .ok (.ireturn, 1) := by decide +kernel
theorem dX8_isThere_0 : decode cX8_isThere 0 = .ok (.iload_n 2, 1) := by decide +kernel
theorem dX8_isThere_1 : decode cX8_isThere 1 = .ok (.i2l, 1) := by decide +kernel
theorem dX8_isThere_2 : decode cX8_isThere 2 = .ok (.lconst 0, 1) := by decide +kernel
theorem dX8_isThere_3 : decode cX8_isThere 3 = .ok (.aload_n 0, 1) := by decide +kernel
theorem dX8_isThere_4 : decode cX8_isThere 4 = .ok (.getfield 89, 3) := by decide +kernel
theorem dX8_isThere_7 : decode cX8_isThere 7 = .ok (.iconst 1, 1) := by decide +kernel
theorem dX8_isThere_8 : decode cX8_isThere 8 = .ok (.isub, 1) := by decide +kernel
theorem dX8_isThere_9 : decode cX8_isThere 9 = .ok (.i2l, 1) := by decide +kernel
theorem dX8_isThere_10 : decode cX8_isThere 10 = .ok (.invokestatic 52, 3) := by decide +kernel
theorem dX8_isThere_13 : decode cX8_isThere 13 = .ok (.ifCond .eq 23, 3) := by decide +kernel
theorem dX8_isThere_16 : decode cX8_isThere 16 = .ok (.aload_n 0, 1) := by decide +kernel
theorem dX8_isThere_17 : decode cX8_isThere 17 = .ok (.getfield 13, 3) := by decide +kernel
theorem dX8_isThere_20 : decode cX8_isThere 20 = .ok (.bipush 57, 2) := by decide +kernel
theorem dX8_isThere_22 : decode cX8_isThere 22 = .ok (.iload_n 1, 1) := by decide +kernel
theorem dX8_isThere_23 : decode cX8_isThere 23 = .ok (.imul, 1) := by decide +kernel
theorem dX8_isThere_24 : decode cX8_isThere 24 = .ok (.iconst 4, 1) := by decide +kernel
theorem dX8_isThere_25 : decode cX8_isThere 25 = .ok (.iadd, 1) := by decide +kernel
theorem dX8_isThere_26 : decode cX8_isThere 26 = .ok (.iload_n 2, 1) := by decide +kernel
theorem dX8_isThere_27 : decode cX8_isThere 27 = .ok (.iadd, 1) := by decide +kernel
theorem dX8_isThere_28 : decode cX8_isThere 28 = .ok (.iaload, 1) := by decide +kernel
theorem dX8_isThere_29 : decode cX8_isThere 29 = .ok (.ifCond .le 7, 3) := by decide +kernel
theorem dX8_isThere_32 : decode cX8_isThere 32 = .ok (.iconst 1, 1) := by decide +kernel
theorem dX8_isThere_33 : decode cX8_isThere 33 = .ok (.goto 4, 3) := by decide +kernel
theorem dX8_isThere_36 : decode cX8_isThere 36 = .ok (.iconst 0, 1) := by decide +kernel
theorem dX8_isThere_37 : decode cX8_isThere 37 = .ok (.ireturn, 1) := by decide +kernel
theorem dX8_bendAt_0 : decode cX8_bendAt 0 = .ok (.aload_n 0, 1) := by decide +kernel
theorem dX8_bendAt_1 : decode cX8_bendAt 1 = .ok (.getfield 13, 3) := by decide +kernel
theorem dX8_bendAt_4 : decode cX8_bendAt 4 = .ok (.bipush 57, 2) := by decide +kernel
theorem dX8_bendAt_6 : decode cX8_bendAt 6 = .ok (.iload_n 1, 1) := by decide +kernel
theorem dX8_bendAt_7 : decode cX8_bendAt 7 = .ok (.imul, 1) := by decide +kernel
theorem dX8_bendAt_8 : decode cX8_bendAt 8 = .ok (.bipush 8, 2) := by decide +kernel
theorem dX8_bendAt_10 : decode cX8_bendAt 10 = .ok (.iadd, 1) := by decide +kernel
theorem dX8_bendAt_11 : decode cX8_bendAt 11 = .ok (.bipush 12, 2) := by decide +kernel
theorem dX8_bendAt_13 : decode cX8_bendAt 13 = .ok (.iload_n 2, 1) := by decide +kernel
theorem dX8_bendAt_14 : decode cX8_bendAt 14 = .ok (.imul, 1) := by decide +kernel
theorem dX8_bendAt_15 : decode cX8_bendAt 15 = .ok (.iadd, 1) := by decide +kernel
theorem dX8_bendAt_16 : decode cX8_bendAt 16 = .ok (.iload_n 3, 1) := by decide +kernel
theorem dX8_bendAt_17 : decode cX8_bendAt 17 = .ok (.iadd, 1) := by decide +kernel
theorem dX8_bendAt_18 : decode cX8_bendAt 18 = .ok (.iaload, 1) := by decide +kernel
theorem dX8_bendAt_19 : decode cX8_bendAt 19 = .ok (.ireturn, 1) := by decide +kernel
theorem dX8_loseLast_0 : decode cX8_loseLast 0 = .ok (.bipush 57, 2) := by decide +kernel
theorem dX8_loseLast_2 : decode cX8_loseLast 2 = .ok (.iload_n 1, 1) := by decide +kernel
theorem dX8_loseLast_3 : decode cX8_loseLast 3 = .ok (.imul, 1) := by decide +kernel
theorem dX8_loseLast_4 : decode cX8_loseLast 4 = .ok (.iconst 4, 1) := by decide +kernel
theorem dX8_loseLast_5 : decode cX8_loseLast 5 = .ok (.iadd, 1) := by decide +kernel
theorem dX8_loseLast_6 : decode cX8_loseLast 6 = .ok (.iload_n 2, 1) := by decide +kernel
theorem dX8_loseLast_7 : decode cX8_loseLast 7 = .ok (.iadd, 1) := by decide +kernel
theorem dX8_loseLast_8 : decode cX8_loseLast 8 = .ok (.istore_n 3, 1) := by decide +kernel
theorem dX8_loseLast_9 : decode cX8_loseLast 9 = .ok (.aload_n 0, 1) := by decide +kernel
theorem dX8_loseLast_10 : decode cX8_loseLast 10 = .ok (.getfield 13, 3) := by decide +kernel
theorem dX8_loseLast_13 : decode cX8_loseLast 13 = .ok (.iload_n 3, 1) := by decide +kernel
theorem dX8_loseLast_14 : decode cX8_loseLast 14 = .ok (.dup2, 1) := by decide +kernel
theorem dX8_loseLast_15 : decode cX8_loseLast 15 = .ok (.iaload, 1) := by decide +kernel
theorem dX8_loseLast_16 : decode cX8_loseLast 16 = .ok (.aload_n 0, 1) := by decide +kernel
theorem dX8_loseLast_17 : decode cX8_loseLast 17 = .ok (.getfield 13, 3) := by decide +kernel
theorem dX8_loseLast_20 : decode cX8_loseLast 20 = .ok (.iload_n 3, 1) := by decide +kernel
theorem dX8_loseLast_21 : decode cX8_loseLast 21 = .ok (.iaload, 1) := by decide +kernel
theorem dX8_loseLast_22 : decode cX8_loseLast 22 = .ok (.ifCond .le 7, 3) := by decide +kernel
theorem dX8_loseLast_25 : decode cX8_loseLast 25 = .ok (.iconst 1, 1) := by decide +kernel
theorem dX8_loseLast_26 : decode cX8_loseLast 26 = .ok (.goto 4, 3) := by decide +kernel
theorem dX8_loseLast_29 : decode cX8_loseLast 29 = .ok (.iconst 0, 1) := by decide +kernel
theorem dX8_loseLast_30 : decode cX8_loseLast 30 = .ok (.isub, 1) := by decide +kernel
theorem dX8_loseLast_31 : decode cX8_loseLast 31 = .ok (.iastore, 1) := by decide +kernel
theorem dX8_loseLast_32 : decode cX8_loseLast 32 = .ok (.return_, 1) := by decide +kernel
theorem dX8_loseFirst_0 : decode cX8_loseFirst 0 = .ok (.bipush 57, 2) := by decide +kernel
theorem dX8_loseFirst_2 : decode cX8_loseFirst 2 = .ok (.iload_n 1, 1) := by decide +kernel
theorem dX8_loseFirst_3 : decode cX8_loseFirst 3 = .ok (.imul, 1) := by decide +kernel
theorem dX8_loseFirst_4 : decode cX8_loseFirst 4 = .ok (.bipush 8, 2) := by decide +kernel
end
section
theorem dX8_loseFirst_6 : decode cX8_loseFirst 6 = .ok (.iadd, 1) := by decide +kernel
theorem dX8_loseFirst_7 : decode cX8_loseFirst 7 = .ok (.bipush 12, 2) := by decide +kernel
theorem dX8_loseFirst_9 : decode cX8_loseFirst 9 = .ok (.iload_n 2, 1) := by decide +kernel
theorem dX8_loseFirst_10 : decode cX8_loseFirst 10 = .ok (.imul, 1) := by decide +kernel
theorem dX8_loseFirst_11 : decode cX8_loseFirst 11 = .ok (.iadd, 1) := by decide +kernel
theorem dX8_loseFirst_12 : decode cX8_loseFirst 12 = .ok (.istore_n 3, 1) := by decide +kernel
theorem dX8_loseFirst_13 : decode cX8_loseFirst 13 = .ok (.iconst 0, 1) := by decide +kernel
theorem dX8_loseFirst_14 : decode cX8_loseFirst 14 = .ok (.istore 4, 2) := by decide +kernel
theorem dX8_loseFirst_16 : decode cX8_loseFirst 16 = .ok (.iload 4, 2) := by decide +kernel
theorem dX8_loseFirst_18 : decode cX8_loseFirst 18 = .ok (.bipush 11, 2) := by decide +kernel
theorem dX8_loseFirst_20 : decode cX8_loseFirst 20 = .ok (.if_icmp .ge 29, 3) := by decide +kernel
theorem dX8_loseFirst_23 : decode cX8_loseFirst 23 = .ok (.aload_n 0, 1) := by decide +kernel
theorem dX8_loseFirst_24 : decode cX8_loseFirst 24 = .ok (.getfield 13, 3) := by decide +kernel
theorem dX8_loseFirst_27 : decode cX8_loseFirst 27 = .ok (.iload_n 3, 1) := by decide +kernel
theorem dX8_loseFirst_28 : decode cX8_loseFirst 28 = .ok (.iload 4, 2) := by decide +kernel
theorem dX8_loseFirst_30 : decode cX8_loseFirst 30 = .ok (.iadd, 1) := by decide +kernel
theorem dX8_loseFirst_31 : decode cX8_loseFirst 31 = .ok (.aload_n 0, 1) := by decide +kernel
theorem dX8_loseFirst_32 : decode cX8_loseFirst 32 = .ok (.getfield 13, 3) := by decide +kernel
theorem dX8_loseFirst_35 : decode cX8_loseFirst 35 = .ok (.iload_n 3, 1) := by decide +kernel
theorem dX8_loseFirst_36 : decode cX8_loseFirst 36 = .ok (.iload 4, 2) := by decide +kernel
theorem dX8_loseFirst_38 : decode cX8_loseFirst 38 = .ok (.iadd, 1) := by decide +kernel
theorem dX8_loseFirst_39 : decode cX8_loseFirst 39 = .ok (.iconst 1, 1) := by decide +kernel
theorem dX8_loseFirst_40 : decode cX8_loseFirst 40 = .ok (.iadd, 1) := by decide +kernel
theorem dX8_loseFirst_41 : decode cX8_loseFirst 41 = .ok (.iaload, 1) := by decide +kernel
theorem dX8_loseFirst_42 : decode cX8_loseFirst 42 = .ok (.iastore, 1) := by decide +kernel
theorem dX8_loseFirst_43 : decode cX8_loseFirst 43 = .ok (.iinc 4 1, 3) := by decide +kernel
theorem dX8_loseFirst_46 : decode cX8_loseFirst 46 = .ok (.goto (-30), 3) := by decide +kernel
theorem dX8_loseFirst_49 : decode cX8_loseFirst 49 = .ok (.aload_n 0, 1) := by decide +kernel
theorem dX8_loseFirst_50 : decode cX8_loseFirst 50 = .ok (.iload_n 1, 1) := by decide +kernel
theorem dX8_loseFirst_51 : decode cX8_loseFirst 51 = .ok (.iload_n 2, 1) := by decide +kernel
theorem dX8_loseFirst_52 : decode cX8_loseFirst 52 = .ok (.invokevirtual 95, 3) := by decide +kernel
theorem dX8_loseFirst_55 : decode cX8_loseFirst 55 = .ok (.return_, 1) := by decide +kernel
theorem dX8_inHouse_0 : decode cX8_inHouse 0 = .ok (.iconst 0, 1) := by decide +kernel
theorem dX8_inHouse_1 : decode cX8_inHouse 1 = .ok (.istore_n 3, 1) := by decide +kernel
theorem dX8_inHouse_2 : decode cX8_inHouse 2 = .ok (.iconst 0, 1) := by decide +kernel
theorem dX8_inHouse_3 : decode cX8_inHouse 3 = .ok (.istore 4, 2) := by decide +kernel
theorem dX8_inHouse_5 : decode cX8_inHouse 5 = .ok (.iload 4, 2) := by decide +kernel
theorem dX8_inHouse_7 : decode cX8_inHouse 7 = .ok (.aload_n 0, 1) := by decide +kernel
theorem dX8_inHouse_8 : decode cX8_inHouse 8 = .ok (.getfield 89, 3) := by decide +kernel
theorem dX8_inHouse_11 : decode cX8_inHouse 11 = .ok (.if_icmp .ge 46, 3) := by decide +kernel
theorem dX8_inHouse_14 : decode cX8_inHouse 14 = .ok (.iload_n 3, 1) := by decide +kernel
theorem dX8_inHouse_15 : decode cX8_inHouse 15 = .ok (.aload_n 0, 1) := by decide +kernel
theorem dX8_inHouse_16 : decode cX8_inHouse 16 = .ok (.iload_n 1, 1) := by decide +kernel
theorem dX8_inHouse_17 : decode cX8_inHouse 17 = .ok (.iload 4, 2) := by decide +kernel
theorem dX8_inHouse_19 : decode cX8_inHouse 19 = .ok (.invokevirtual 99, 3) := by decide +kernel
theorem dX8_inHouse_22 : decode cX8_inHouse 22 = .ok (.ifCond .eq 26, 3) := by decide +kernel
theorem dX8_inHouse_25 : decode cX8_inHouse 25 = .ok (.aload_n 0, 1) := by decide +kernel
theorem dX8_inHouse_26 : decode cX8_inHouse 26 = .ok (.getfield 13, 3) := by decide +kernel
theorem dX8_inHouse_29 : decode cX8_inHouse 29 = .ok (.bipush 57, 2) := by decide +kernel
theorem dX8_inHouse_31 : decode cX8_inHouse 31 = .ok (.iload_n 1, 1) := by decide +kernel
theorem dX8_inHouse_32 : decode cX8_inHouse 32 = .ok (.imul, 1) := by decide +kernel
theorem dX8_inHouse_33 : decode cX8_inHouse 33 = .ok (.iload 4, 2) := by decide +kernel
theorem dX8_inHouse_35 : decode cX8_inHouse 35 = .ok (.iadd, 1) := by decide +kernel
theorem dX8_inHouse_36 : decode cX8_inHouse 36 = .ok (.iaload, 1) := by decide +kernel
theorem dX8_inHouse_37 : decode cX8_inHouse 37 = .ok (.iload_n 2, 1) := by decide +kernel
theorem dX8_inHouse_38 : decode cX8_inHouse 38 = .ok (.if_icmp .ne 10, 3) := by decide +kernel
theorem dX8_inHouse_41 : decode cX8_inHouse 41 = .ok (.iconst 1, 1) := by decide +kernel
theorem dX8_inHouse_42 : decode cX8_inHouse 42 = .ok (.iload 4, 2) := by decide +kernel
theorem dX8_inHouse_44 : decode cX8_inHouse 44 = .ok (.ishl, 1) := by decide +kernel
theorem dX8_inHouse_45 : decode cX8_inHouse 45 = .ok (.goto 4, 3) := by decide +kernel
theorem dX8_inHouse_48 : decode cX8_inHouse 48 = .ok (.iconst 0, 1) := by decide +kernel
theorem dX8_inHouse_49 : decode cX8_inHouse 49 = .ok (.ior, 1) := by decide +kernel
theorem dX8_inHouse_50 : decode cX8_inHouse 50 = .ok (.istore_n 3, 1) := by decide +kernel
theorem dX8_inHouse_51 : decode cX8_inHouse 51 = .ok (.iinc 4 1, 3) := by decide +kernel
theorem dX8_inHouse_54 : decode cX8_inHouse 54 = .ok (.goto (-49), 3) := by decide +kernel
theorem dX8_inHouse_57 : decode cX8_inHouse 57 = .ok (.iload_n 3, 1) := by decide +kernel
theorem dX8_inHouse_58 : decode cX8_inHouse 58 = .ok (.ireturn, 1) := by decide +kernel
theorem dX8_hurt_0 : decode cX8_hurt 0 = .ok (.aload_n 0, 1) := by decide +kernel
theorem dX8_hurt_1 : decode cX8_hurt 1 = .ok (.iload_n 1, 1) := by decide +kernel
theorem dX8_hurt_2 : decode cX8_hurt 2 = .ok (.aload_n 0, 1) := by decide +kernel
theorem dX8_hurt_3 : decode cX8_hurt 3 = .ok (.getfield 13, 3) := by decide +kernel
theorem dX8_hurt_6 : decode cX8_hurt 6 = .ok (.bipush 57, 2) := by decide +kernel
theorem dX8_hurt_8 : decode cX8_hurt 8 = .ok (.iload_n 1, 1) := by decide +kernel
theorem dX8_hurt_9 : decode cX8_hurt 9 = .ok (.imul, 1) := by decide +kernel
theorem dX8_hurt_10 : decode cX8_hurt 10 = .ok (.iload_n 2, 1) := by decide +kernel
theorem dX8_hurt_11 : decode cX8_hurt 11 = .ok (.iadd, 1) := by decide +kernel
theorem dX8_hurt_12 : decode cX8_hurt 12 = .ok (.iaload, 1) := by decide +kernel
theorem dX8_hurt_13 : decode cX8_hurt 13 = .ok (.invokevirtual 103, 3) := by decide +kernel
theorem dX8_hurt_16 : decode cX8_hurt 16 = .ok (.istore_n 3, 1) := by decide +kernel
theorem dX8_hurt_17 : decode cX8_hurt 17 = .ok (.aload_n 0, 1) := by decide +kernel
theorem dX8_hurt_18 : decode cX8_hurt 18 = .ok (.getfield 7, 3) := by decide +kernel
theorem dX8_hurt_21 : decode cX8_hurt 21 = .ok (.iload_n 2, 1) := by decide +kernel
theorem dX8_hurt_22 : decode cX8_hurt 22 = .ok (.iaload, 1) := by decide +kernel
theorem dX8_hurt_23 : decode cX8_hurt 23 = .ok (.iconst 3, 1) := by decide +kernel
theorem dX8_hurt_24 : decode cX8_hurt 24 = .ok (.if_icmp .ne 46, 3) := by decide +kernel
theorem dX8_hurt_27 : decode cX8_hurt 27 = .ok (.iconst 0, 1) := by decide +kernel
theorem dX8_hurt_28 : decode cX8_hurt 28 = .ok (.istore 4, 2) := by decide +kernel
theorem dX8_hurt_30 : decode cX8_hurt 30 = .ok (.iload 4, 2) := by decide +kernel
theorem dX8_hurt_32 : decode cX8_hurt 32 = .ok (.aload_n 0, 1) := by decide +kernel
theorem dX8_hurt_33 : decode cX8_hurt 33 = .ok (.getfield 89, 3) := by decide +kernel
theorem dX8_hurt_36 : decode cX8_hurt 36 = .ok (.if_icmp .ge 31, 3) := by decide +kernel
theorem dX8_hurt_39 : decode cX8_hurt 39 = .ok (.iload 4, 2) := by decide +kernel
theorem dX8_hurt_41 : decode cX8_hurt 41 = .ok (.iload_n 2, 1) := by decide +kernel
theorem dX8_hurt_42 : decode cX8_hurt 42 = .ok (.if_icmp .eq 19, 3) := by decide +kernel
theorem dX8_hurt_45 : decode cX8_hurt 45 = .ok (.iload_n 3, 1) := by decide +kernel
theorem dX8_hurt_46 : decode cX8_hurt 46 = .ok (.iload 4, 2) := by decide +kernel
theorem dX8_hurt_48 : decode cX8_hurt 48 = .ok (.invokestatic 106, 3) := by decide +kernel
theorem dX8_hurt_51 : decode cX8_hurt 51 = .ok (.ifCond .eq 10, 3) := by decide +kernel
theorem dX8_hurt_54 : decode cX8_hurt 54 = .ok (.aload_n 0, 1) := by decide +kernel
theorem dX8_hurt_55 : decode cX8_hurt 55 = .ok (.iload_n 1, 1) := by decide +kernel
theorem dX8_hurt_56 : decode cX8_hurt 56 = .ok (.iload 4, 2) := by decide +kernel
theorem dX8_hurt_58 : decode cX8_hurt 58 = .ok (.invokevirtual 109, 3) := by decide +kernel
theorem dX8_hurt_61 : decode cX8_hurt 61 = .ok (.iinc 4 1, 3) := by decide +kernel
theorem dX8_hurt_64 : decode cX8_hurt 64 = .ok (.goto (-34), 3) := by decide +kernel
theorem dX8_hurt_67 : decode cX8_hurt 67 = .ok (.goto 43, 3) := by decide +kernel
theorem dX8_hurt_70 : decode cX8_hurt 70 = .ok (.aload_n 0, 1) := by decide +kernel
theorem dX8_hurt_71 : decode cX8_hurt 71 = .ok (.getfield 7, 3) := by decide +kernel
theorem dX8_hurt_74 : decode cX8_hurt 74 = .ok (.iload_n 2, 1) := by decide +kernel
theorem dX8_hurt_75 : decode cX8_hurt 75 = .ok (.iaload, 1) := by decide +kernel
theorem dX8_hurt_76 : decode cX8_hurt 76 = .ok (.iconst 1, 1) := by decide +kernel
theorem dX8_hurt_77 : decode cX8_hurt 77 = .ok (.if_icmp .gt 33, 3) := by decide +kernel
theorem dX8_hurt_80 : decode cX8_hurt 80 = .ok (.iload_n 3, 1) := by decide +kernel
theorem dX8_hurt_81 : decode cX8_hurt 81 = .ok (.invokestatic 112, 3) := by decide +kernel
theorem dX8_hurt_84 : decode cX8_hurt 84 = .ok (.iconst 2, 1) := by decide +kernel
theorem dX8_hurt_85 : decode cX8_hurt 85 = .ok (.if_icmp .le 25, 3) := by decide +kernel
theorem dX8_hurt_88 : decode cX8_hurt 88 = .ok (.aload_n 0, 1) := by decide +kernel
theorem dX8_hurt_89 : decode cX8_hurt 89 = .ok (.iload_n 1, 1) := by decide +kernel
theorem dX8_hurt_90 : decode cX8_hurt 90 = .ok (.iload_n 2, 1) := by decide +kernel
theorem dX8_hurt_91 : decode cX8_hurt 91 = .ok (.invokevirtual 95, 3) := by decide +kernel
theorem dX8_hurt_94 : decode cX8_hurt 94 = .ok (.aload_n 0, 1) := by decide +kernel
theorem dX8_hurt_95 : decode cX8_hurt 95 = .ok (.getfield 7, 3) := by decide +kernel
theorem dX8_hurt_98 : decode cX8_hurt 98 = .ok (.iload_n 2, 1) := by decide +kernel
theorem dX8_hurt_99 : decode cX8_hurt 99 = .ok (.iaload, 1) := by decide +kernel
theorem dX8_hurt_100 : decode cX8_hurt 100 = .ok (.iconst 1, 1) := by decide +kernel
theorem dX8_hurt_101 : decode cX8_hurt 101 = .ok (.if_icmp .ne 9, 3) := by decide +kernel
theorem dX8_hurt_104 : decode cX8_hurt 104 = .ok (.aload_n 0, 1) := by decide +kernel
theorem dX8_hurt_105 : decode cX8_hurt 105 = .ok (.iload_n 1, 1) := by decide +kernel
theorem dX8_hurt_106 : decode cX8_hurt 106 = .ok (.iload_n 2, 1) := by decide +kernel
theorem dX8_hurt_107 : decode cX8_hurt 107 = .ok (.invokevirtual 109, 3) := by decide +kernel
theorem dX8_hurt_110 : decode cX8_hurt 110 = .ok (.return_, 1) := by decide +kernel
theorem dX8_whoIs_0 : decode cX8_whoIs 0 = .ok (.iconst 0, 1) := by decide +kernel
theorem dX8_whoIs_1 : decode cX8_whoIs 1 = .ok (.istore_n 2, 1) := by decide +kernel
theorem dX8_whoIs_2 : decode cX8_whoIs 2 = .ok (.iconst 0, 1) := by decide +kernel
theorem dX8_whoIs_3 : decode cX8_whoIs 3 = .ok (.istore_n 3, 1) := by decide +kernel
theorem dX8_whoIs_4 : decode cX8_whoIs 4 = .ok (.iload_n 3, 1) := by decide +kernel
theorem dX8_whoIs_5 : decode cX8_whoIs 5 = .ok (.aload_n 0, 1) := by decide +kernel
theorem dX8_whoIs_6 : decode cX8_whoIs 6 = .ok (.getfield 89, 3) := by decide +kernel
theorem dX8_whoIs_9 : decode cX8_whoIs 9 = .ok (.if_icmp .ge 28, 3) := by decide +kernel
theorem dX8_whoIs_12 : decode cX8_whoIs 12 = .ok (.iload_n 2, 1) := by decide +kernel
theorem dX8_whoIs_13 : decode cX8_whoIs 13 = .ok (.aload_n 0, 1) := by decide +kernel
theorem dX8_whoIs_14 : decode cX8_whoIs 14 = .ok (.iload_n 1, 1) := by decide +kernel
theorem dX8_whoIs_15 : decode cX8_whoIs 15 = .ok (.iload_n 3, 1) := by decide +kernel
theorem dX8_whoIs_16 : decode cX8_whoIs 16 = .ok (.invokevirtual 99, 3) := by decide +kernel
theorem dX8_whoIs_19 : decode cX8_whoIs 19 = .ok (.ifCond .eq 9, 3) := by decide +kernel
theorem dX8_whoIs_22 : decode cX8_whoIs 22 = .ok (.iconst 1, 1) := by decide +kernel
theorem dX8_whoIs_23 : decode cX8_whoIs 23 = .ok (.iload_n 3, 1) := by decide +kernel
theorem dX8_whoIs_24 : decode cX8_whoIs 24 = .ok (.ishl, 1) := by decide +kernel
theorem dX8_whoIs_25 : decode cX8_whoIs 25 = .ok (.goto 4, 3) := by decide +kernel
theorem dX8_whoIs_28 : decode cX8_whoIs 28 = .ok (.iconst 0, 1) := by decide +kernel
theorem dX8_whoIs_29 : decode cX8_whoIs 29 = .ok (.ior, 1) := by decide +kernel
theorem dX8_whoIs_30 : decode cX8_whoIs 30 = .ok (.istore_n 2, 1) := by decide +kernel
theorem dX8_whoIs_31 : decode cX8_whoIs 31 = .ok (.iinc 3 1, 3) := by decide +kernel
theorem dX8_whoIs_34 : decode cX8_whoIs 34 = .ok (.goto (-30), 3) := by decide +kernel
theorem dX8_whoIs_37 : decode cX8_whoIs 37 = .ok (.iload_n 2, 1) := by decide +kernel
theorem dX8_whoIs_38 : decode cX8_whoIs 38 = .ok (.ireturn, 1) := by decide +kernel
theorem dX8_passOn_0 : decode cX8_passOn 0 = .ok (.aload_n 0, 1) := by decide +kernel
theorem dX8_passOn_1 : decode cX8_passOn 1 = .ok (.iload_n 1, 1) := by decide +kernel
theorem dX8_passOn_2 : decode cX8_passOn 2 = .ok (.invokevirtual 116, 3) := by decide +kernel
theorem dX8_passOn_5 : decode cX8_passOn 5 = .ok (.istore_n 2, 1) := by decide +kernel
theorem dX8_passOn_6 : decode cX8_passOn 6 = .ok (.iconst 0, 1) := by decide +kernel
theorem dX8_passOn_7 : decode cX8_passOn 7 = .ok (.istore_n 3, 1) := by decide +kernel
theorem dX8_passOn_8 : decode cX8_passOn 8 = .ok (.iload_n 3, 1) := by decide +kernel
theorem dX8_passOn_9 : decode cX8_passOn 9 = .ok (.aload_n 0, 1) := by decide +kernel
theorem dX8_passOn_10 : decode cX8_passOn 10 = .ok (.getfield 89, 3) := by decide +kernel
theorem dX8_passOn_13 : decode cX8_passOn 13 = .ok (.if_icmp .ge 24, 3) := by decide +kernel
theorem dX8_passOn_16 : decode cX8_passOn 16 = .ok (.aload_n 0, 1) := by decide +kernel
theorem dX8_passOn_17 : decode cX8_passOn 17 = .ok (.iload_n 1, 1) := by decide +kernel
theorem dX8_passOn_18 : decode cX8_passOn 18 = .ok (.iload_n 3, 1) := by decide +kernel
theorem dX8_passOn_19 : decode cX8_passOn 19 = .ok (.invokevirtual 99, 3) := by decide +kernel
theorem dX8_passOn_22 : decode cX8_passOn 22 = .ok (.ifCond .eq 9, 3) := by decide +kernel
theorem dX8_passOn_25 : decode cX8_passOn 25 = .ok (.aload_n 0, 1) := by decide +kernel
theorem dX8_passOn_26 : decode cX8_passOn 26 = .ok (.iload_n 1, 1) := by decide +kernel
theorem dX8_passOn_27 : decode cX8_passOn 27 = .ok (.iload_n 3, 1) := by decide +kernel
theorem dX8_passOn_28 : decode cX8_passOn 28 = .ok (.invokevirtual 119, 3) := by decide +kernel
theorem dX8_passOn_31 : decode cX8_passOn 31 = .ok (.iinc 3 1, 3) := by decide +kernel
theorem dX8_passOn_34 : decode cX8_passOn 34 = .ok (.goto (-26), 3) := by decide +kernel
theorem dX8_passOn_37 : decode cX8_passOn 37 = .ok (.aload_n 0, 1) := by decide +kernel
theorem dX8_passOn_38 : decode cX8_passOn 38 = .ok (.getfield 13, 3) := by decide +kernel
theorem dX8_passOn_41 : decode cX8_passOn 41 = .ok (.bipush 57, 2) := by decide +kernel
theorem dX8_passOn_43 : decode cX8_passOn 43 = .ok (.iload_n 1, 1) := by decide +kernel
theorem dX8_passOn_44 : decode cX8_passOn 44 = .ok (.imul, 1) := by decide +kernel
theorem dX8_passOn_45 : decode cX8_passOn 45 = .ok (.bipush 56, 2) := by decide +kernel
theorem dX8_passOn_47 : decode cX8_passOn 47 = .ok (.iadd, 1) := by decide +kernel
theorem dX8_passOn_48 : decode cX8_passOn 48 = .ok (.dup2, 1) := by decide +kernel
theorem dX8_passOn_49 : decode cX8_passOn 49 = .ok (.iaload, 1) := by decide +kernel
theorem dX8_passOn_50 : decode cX8_passOn 50 = .ok (.iconst 1, 1) := by decide +kernel
theorem dX8_passOn_51 : decode cX8_passOn 51 = .ok (.iadd, 1) := by decide +kernel
theorem dX8_passOn_52 : decode cX8_passOn 52 = .ok (.iastore, 1) := by decide +kernel
theorem dX8_passOn_53 : decode cX8_passOn 53 = .ok (.iload_n 2, 1) := by decide +kernel
theorem dX8_passOn_54 : decode cX8_passOn 54 = .ok (.aload_n 0, 1) := by decide +kernel
theorem dX8_passOn_55 : decode cX8_passOn 55 = .ok (.iload_n 1, 1) := by decide +kernel
theorem dX8_passOn_56 : decode cX8_passOn 56 = .ok (.invokevirtual 116, 3) := by decide +kernel
theorem dX8_passOn_59 : decode cX8_passOn 59 = .ok (.iconst (-1), 1) := by decide +kernel
theorem dX8_passOn_60 : decode cX8_passOn 60 = .ok (.ixor, 1) := by decide +kernel
theorem dX8_passOn_61 : decode cX8_passOn 61 = .ok (.iand, 1) := by decide +kernel
theorem dX8_passOn_62 : decode cX8_passOn 62 = .ok (.invokestatic 112, 3) := by decide +kernel
theorem dX8_passOn_65 : decode cX8_passOn 65 = .ok (.ireturn, 1) := by decide +kernel
theorem dX8_turnOn_0 : decode cX8_turnOn 0 = .ok (.bipush 57, 2) := by decide +kernel
theorem dX8_turnOn_2 : decode cX8_turnOn 2 = .ok (.iload_n 1, 1) := by decide +kernel
theorem dX8_turnOn_3 : decode cX8_turnOn 3 = .ok (.imul, 1) := by decide +kernel
theorem dX8_turnOn_4 : decode cX8_turnOn 4 = .ok (.bipush 8, 2) := by decide +kernel
theorem dX8_turnOn_6 : decode cX8_turnOn 6 = .ok (.iadd, 1) := by decide +kernel
theorem dX8_turnOn_7 : decode cX8_turnOn 7 = .ok (.bipush 12, 2) := by decide +kernel
theorem dX8_turnOn_9 : decode cX8_turnOn 9 = .ok (.iload_n 2, 1) := by decide +kernel
theorem dX8_turnOn_10 : decode cX8_turnOn 10 = .ok (.imul, 1) := by decide +kernel
theorem dX8_turnOn_11 : decode cX8_turnOn 11 = .ok (.iadd, 1) := by decide +kernel
theorem dX8_turnOn_12 : decode cX8_turnOn 12 = .ok (.istore_n 3, 1) := by decide +kernel
theorem dX8_turnOn_13 : decode cX8_turnOn 13 = .ok (.aload_n 0, 1) := by decide +kernel
theorem dX8_turnOn_14 : decode cX8_turnOn 14 = .ok (.getfield 13, 3) := by decide +kernel
theorem dX8_turnOn_17 : decode cX8_turnOn 17 = .ok (.bipush 57, 2) := by decide +kernel
theorem dX8_turnOn_19 : decode cX8_turnOn 19 = .ok (.iload_n 1, 1) := by decide +kernel
theorem dX8_turnOn_20 : decode cX8_turnOn 20 = .ok (.imul, 1) := by decide +kernel
theorem dX8_turnOn_21 : decode cX8_turnOn 21 = .ok (.iconst 4, 1) := by decide +kernel
theorem dX8_turnOn_22 : decode cX8_turnOn 22 = .ok (.iadd, 1) := by decide +kernel
theorem dX8_turnOn_23 : decode cX8_turnOn 23 = .ok (.iload_n 2, 1) := by decide +kernel
theorem dX8_turnOn_24 : decode cX8_turnOn 24 = .ok (.iadd, 1) := by decide +kernel
theorem dX8_turnOn_25 : decode cX8_turnOn 25 = .ok (.iaload, 1) := by decide +kernel
theorem dX8_turnOn_26 : decode cX8_turnOn 26 = .ok (.istore 4, 2) := by decide +kernel
theorem dX8_turnOn_28 : decode cX8_turnOn 28 = .ok (.iconst 0, 1) := by decide +kernel
theorem dX8_turnOn_29 : decode cX8_turnOn 29 = .ok (.istore 5, 2) := by decide +kernel
theorem dX8_turnOn_31 : decode cX8_turnOn 31 = .ok (.iload 5, 2) := by decide +kernel
theorem dX8_turnOn_33 : decode cX8_turnOn 33 = .ok (.iload 4, 2) := by decide +kernel
theorem dX8_turnOn_35 : decode cX8_turnOn 35 = .ok (.iconst 2, 1) := by decide +kernel
theorem dX8_turnOn_36 : decode cX8_turnOn 36 = .ok (.idiv, 1) := by decide +kernel
theorem dX8_turnOn_37 : decode cX8_turnOn 37 = .ok (.if_icmp .ge 59, 3) := by decide +kernel
theorem dX8_turnOn_40 : decode cX8_turnOn 40 = .ok (.aload_n 0, 1) := by decide +kernel
theorem dX8_turnOn_41 : decode cX8_turnOn 41 = .ok (.getfield 13, 3) := by decide +kernel
theorem dX8_turnOn_44 : decode cX8_turnOn 44 = .ok (.iload_n 3, 1) := by decide +kernel
theorem dX8_turnOn_45 : decode cX8_turnOn 45 = .ok (.iload 5, 2) := by decide +kernel
theorem dX8_turnOn_47 : decode cX8_turnOn 47 = .ok (.iadd, 1) := by decide +kernel
theorem dX8_turnOn_48 : decode cX8_turnOn 48 = .ok (.iaload, 1) := by decide +kernel
theorem dX8_turnOn_49 : decode cX8_turnOn 49 = .ok (.istore 6, 2) := by decide +kernel
theorem dX8_turnOn_51 : decode cX8_turnOn 51 = .ok (.aload_n 0, 1) := by decide +kernel
theorem dX8_turnOn_52 : decode cX8_turnOn 52 = .ok (.getfield 13, 3) := by decide +kernel
theorem dX8_turnOn_55 : decode cX8_turnOn 55 = .ok (.iload_n 3, 1) := by decide +kernel
theorem dX8_turnOn_56 : decode cX8_turnOn 56 = .ok (.iload 5, 2) := by decide +kernel
theorem dX8_turnOn_58 : decode cX8_turnOn 58 = .ok (.iadd, 1) := by decide +kernel
theorem dX8_turnOn_59 : decode cX8_turnOn 59 = .ok (.aload_n 0, 1) := by decide +kernel
theorem dX8_turnOn_60 : decode cX8_turnOn 60 = .ok (.getfield 13, 3) := by decide +kernel
theorem dX8_turnOn_63 : decode cX8_turnOn 63 = .ok (.iload_n 3, 1) := by decide +kernel
theorem dX8_turnOn_64 : decode cX8_turnOn 64 = .ok (.iload 4, 2) := by decide +kernel
theorem dX8_turnOn_66 : decode cX8_turnOn 66 = .ok (.iadd, 1) := by decide +kernel
theorem dX8_turnOn_67 : decode cX8_turnOn 67 = .ok (.iconst 1, 1) := by decide +kernel
theorem dX8_turnOn_68 : decode cX8_turnOn 68 = .ok (.isub, 1) := by decide +kernel
theorem dX8_turnOn_69 : decode cX8_turnOn 69 = .ok (.iload 5, 2) := by decide +kernel
theorem dX8_turnOn_71 : decode cX8_turnOn 71 = .ok (.isub, 1) := by decide +kernel
theorem dX8_turnOn_72 : decode cX8_turnOn 72 = .ok (.iaload, 1) := by decide +kernel
theorem dX8_turnOn_73 : decode cX8_turnOn 73 = .ok (.iastore, 1) := by decide +kernel
theorem dX8_turnOn_74 : decode cX8_turnOn 74 = .ok (.aload_n 0, 1) := by decide +kernel
theorem dX8_turnOn_75 : decode cX8_turnOn 75 = .ok (.getfield 13, 3) := by decide +kernel
theorem dX8_turnOn_78 : decode cX8_turnOn 78 = .ok (.iload_n 3, 1) := by decide +kernel
theorem dX8_turnOn_79 : decode cX8_turnOn 79 = .ok (.iload 4, 2) := by decide +kernel
theorem dX8_turnOn_81 : decode cX8_turnOn 81 = .ok (.iadd, 1) := by decide +kernel
theorem dX8_turnOn_82 : decode cX8_turnOn 82 = .ok (.iconst 1, 1) := by decide +kernel
theorem dX8_turnOn_83 : decode cX8_turnOn 83 = .ok (.isub, 1) := by decide +kernel
theorem dX8_turnOn_84 : decode cX8_turnOn 84 = .ok (.iload 5, 2) := by decide +kernel
theorem dX8_turnOn_86 : decode cX8_turnOn 86 = .ok (.isub, 1) := by decide +kernel
theorem dX8_turnOn_87 : decode cX8_turnOn 87 = .ok (.iload 6, 2) := by decide +kernel
theorem dX8_turnOn_89 : decode cX8_turnOn 89 = .ok (.iastore, 1) := by decide +kernel
theorem dX8_turnOn_90 : decode cX8_turnOn 90 = .ok (.iinc 5 1, 3) := by decide +kernel
theorem dX8_turnOn_93 : decode cX8_turnOn 93 = .ok (.goto (-62), 3) := by decide +kernel
theorem dX8_turnOn_96 : decode cX8_turnOn 96 = .ok (.return_, 1) := by decide +kernel
theorem dX8_overlapOf_0 : decode cX8_overlapOf 0 = .ok (.aload_n 0, 1) := by decide +kernel
theorem dX8_overlapOf_1 : decode cX8_overlapOf 1 = .ok (.getfield 13, 3) := by decide +kernel
theorem dX8_overlapOf_4 : decode cX8_overlapOf 4 = .ok (.bipush 57, 2) := by decide +kernel
theorem dX8_overlapOf_6 : decode cX8_overlapOf 6 = .ok (.iload_n 1, 1) := by decide +kernel
theorem dX8_overlapOf_7 : decode cX8_overlapOf 7 = .ok (.imul, 1) := by decide +kernel
theorem dX8_overlapOf_8 : decode cX8_overlapOf 8 = .ok (.iconst 4, 1) := by decide +kernel
theorem dX8_overlapOf_9 : decode cX8_overlapOf 9 = .ok (.iadd, 1) := by decide +kernel
theorem dX8_overlapOf_10 : decode cX8_overlapOf 10 = .ok (.iload_n 2, 1) := by decide +kernel
theorem dX8_overlapOf_11 : decode cX8_overlapOf 11 = .ok (.iadd, 1) := by decide +kernel
theorem dX8_overlapOf_12 : decode cX8_overlapOf 12 = .ok (.iaload, 1) := by decide +kernel
theorem dX8_overlapOf_13 : decode cX8_overlapOf 13 = .ok (.istore 4, 2) := by decide +kernel
theorem dX8_overlapOf_15 : decode cX8_overlapOf 15 = .ok (.aload_n 0, 1) := by decide +kernel
theorem dX8_overlapOf_16 : decode cX8_overlapOf 16 = .ok (.getfield 13, 3) := by decide +kernel
theorem dX8_overlapOf_19 : decode cX8_overlapOf 19 = .ok (.bipush 57, 2) := by decide +kernel
theorem dX8_overlapOf_21 : decode cX8_overlapOf 21 = .ok (.iload_n 1, 1) := by decide +kernel
theorem dX8_overlapOf_22 : decode cX8_overlapOf 22 = .ok (.imul, 1) := by decide +kernel
theorem dX8_overlapOf_23 : decode cX8_overlapOf 23 = .ok (.iconst 4, 1) := by decide +kernel
theorem dX8_overlapOf_24 : decode cX8_overlapOf 24 = .ok (.iadd, 1) := by decide +kernel
theorem dX8_overlapOf_25 : decode cX8_overlapOf 25 = .ok (.iload_n 3, 1) := by decide +kernel
theorem dX8_overlapOf_26 : decode cX8_overlapOf 26 = .ok (.iadd, 1) := by decide +kernel
theorem dX8_overlapOf_27 : decode cX8_overlapOf 27 = .ok (.iaload, 1) := by decide +kernel
theorem dX8_overlapOf_28 : decode cX8_overlapOf 28 = .ok (.istore 5, 2) := by decide +kernel
theorem dX8_overlapOf_30 : decode cX8_overlapOf 30 = .ok (.iload 4, 2) := by decide +kernel
theorem dX8_overlapOf_32 : decode cX8_overlapOf 32 = .ok (.iload 5, 2) := by decide +kernel
theorem dX8_overlapOf_34 : decode cX8_overlapOf 34 = .ok (.if_icmp .ge 8, 3) := by decide +kernel
theorem dX8_overlapOf_37 : decode cX8_overlapOf 37 = .ok (.iload 4, 2) := by decide +kernel
theorem dX8_overlapOf_39 : decode cX8_overlapOf 39 = .ok (.goto 5, 3) := by decide +kernel
theorem dX8_overlapOf_42 : decode cX8_overlapOf 42 = .ok (.iload 5, 2) := by decide +kernel
theorem dX8_overlapOf_44 : decode cX8_overlapOf 44 = .ok (.istore 6, 2) := by decide +kernel
theorem dX8_overlapOf_46 : decode cX8_overlapOf 46 = .ok (.iload 6, 2) := by decide +kernel
theorem dX8_overlapOf_48 : decode cX8_overlapOf 48 = .ok (.ifCond .le 73, 3) := by decide +kernel
theorem dX8_overlapOf_51 : decode cX8_overlapOf 51 = .ok (.iconst 1, 1) := by decide +kernel
theorem dX8_overlapOf_52 : decode cX8_overlapOf 52 = .ok (.istore 7, 2) := by decide +kernel
theorem dX8_overlapOf_54 : decode cX8_overlapOf 54 = .ok (.iconst 0, 1) := by decide +kernel
theorem dX8_overlapOf_55 : decode cX8_overlapOf 55 = .ok (.istore 8, 2) := by decide +kernel
theorem dX8_overlapOf_57 : decode cX8_overlapOf 57 = .ok (.iload 8, 2) := by decide +kernel
theorem dX8_overlapOf_59 : decode cX8_overlapOf 59 = .ok (.iload 6, 2) := by decide +kernel
theorem dX8_overlapOf_61 : decode cX8_overlapOf 61 = .ok (.if_icmp .ge 46, 3) := by decide +kernel
theorem dX8_overlapOf_64 : decode cX8_overlapOf 64 = .ok (.iload 7, 2) := by decide +kernel
theorem dX8_overlapOf_66 : decode cX8_overlapOf 66 = .ok (.ifCond .eq 32, 3) := by decide +kernel
theorem dX8_overlapOf_69 : decode cX8_overlapOf 69 = .ok (.aload_n 0, 1) := by decide +kernel
theorem dX8_overlapOf_70 : decode cX8_overlapOf 70 = .ok (.iload_n 1, 1) := by decide +kernel
theorem dX8_overlapOf_71 : decode cX8_overlapOf 71 = .ok (.iload_n 2, 1) := by decide +kernel
theorem dX8_overlapOf_72 : decode cX8_overlapOf 72 = .ok (.iload 4, 2) := by decide +kernel
theorem dX8_overlapOf_74 : decode cX8_overlapOf 74 = .ok (.iload 6, 2) := by decide +kernel
theorem dX8_overlapOf_76 : decode cX8_overlapOf 76 = .ok (.isub, 1) := by decide +kernel
theorem dX8_overlapOf_77 : decode cX8_overlapOf 77 = .ok (.iload 8, 2) := by decide +kernel
theorem dX8_overlapOf_79 : decode cX8_overlapOf 79 = .ok (.iadd, 1) := by decide +kernel
theorem dX8_overlapOf_80 : decode cX8_overlapOf 80 = .ok (.invokevirtual 122, 3) := by decide +kernel
theorem dX8_overlapOf_83 : decode cX8_overlapOf 83 = .ok (.aload_n 0, 1) := by decide +kernel
theorem dX8_overlapOf_84 : decode cX8_overlapOf 84 = .ok (.iload_n 1, 1) := by decide +kernel
theorem dX8_overlapOf_85 : decode cX8_overlapOf 85 = .ok (.iload_n 3, 1) := by decide +kernel
theorem dX8_overlapOf_86 : decode cX8_overlapOf 86 = .ok (.iload 8, 2) := by decide +kernel
theorem dX8_overlapOf_88 : decode cX8_overlapOf 88 = .ok (.invokevirtual 122, 3) := by decide +kernel
theorem dX8_overlapOf_91 : decode cX8_overlapOf 91 = .ok (.if_icmp .ne 7, 3) := by decide +kernel
theorem dX8_overlapOf_94 : decode cX8_overlapOf 94 = .ok (.iconst 1, 1) := by decide +kernel
theorem dX8_overlapOf_95 : decode cX8_overlapOf 95 = .ok (.goto 4, 3) := by decide +kernel
theorem dX8_overlapOf_98 : decode cX8_overlapOf 98 = .ok (.iconst 0, 1) := by decide +kernel
theorem dX8_overlapOf_99 : decode cX8_overlapOf 99 = .ok (.istore 7, 2) := by decide +kernel
theorem dX8_overlapOf_101 : decode cX8_overlapOf 101 = .ok (.iinc 8 1, 3) := by decide +kernel
theorem dX8_overlapOf_104 : decode cX8_overlapOf 104 = .ok (.goto (-47), 3) := by decide +kernel
theorem dX8_overlapOf_107 : decode cX8_overlapOf 107 = .ok (.iload 7, 2) := by decide +kernel
theorem dX8_overlapOf_109 : decode cX8_overlapOf 109 = .ok (.ifCond .eq 6, 3) := by decide +kernel
theorem dX8_overlapOf_112 : decode cX8_overlapOf 112 = .ok (.iload 6, 2) := by decide +kernel
theorem dX8_overlapOf_114 : decode cX8_overlapOf 114 = .ok (.ireturn, 1) := by decide +kernel
theorem dX8_overlapOf_115 : decode cX8_overlapOf 115 = .ok (.iinc 6 (-1), 3) := by decide +kernel
theorem dX8_overlapOf_118 : decode cX8_overlapOf 118 = .ok (.goto (-72), 3) := by decide +kernel
theorem dX8_overlapOf_121 : decode cX8_overlapOf 121 = .ok (.iconst 0, 1) := by decide +kernel
theorem dX8_overlapOf_122 : decode cX8_overlapOf 122 = .ok (.ireturn, 1) := by decide +kernel
theorem dX8_joinedMany_0 : decode cX8_joinedMany 0 = .ok (.aload_n 0, 1) := by decide +kernel
theorem dX8_joinedMany_1 : decode cX8_joinedMany 1 = .ok (.getfield 13, 3) := by decide +kernel
theorem dX8_joinedMany_4 : decode cX8_joinedMany 4 = .ok (.bipush 57, 2) := by decide +kernel
theorem dX8_joinedMany_6 : decode cX8_joinedMany 6 = .ok (.iload_n 1, 1) := by decide +kernel
theorem dX8_joinedMany_7 : decode cX8_joinedMany 7 = .ok (.imul, 1) := by decide +kernel
theorem dX8_joinedMany_8 : decode cX8_joinedMany 8 = .ok (.iconst 4, 1) := by decide +kernel
theorem dX8_joinedMany_9 : decode cX8_joinedMany 9 = .ok (.iadd, 1) := by decide +kernel
theorem dX8_joinedMany_10 : decode cX8_joinedMany 10 = .ok (.iload_n 2, 1) := by decide +kernel
theorem dX8_joinedMany_11 : decode cX8_joinedMany 11 = .ok (.iadd, 1) := by decide +kernel
theorem dX8_joinedMany_12 : decode cX8_joinedMany 12 = .ok (.iaload, 1) := by decide +kernel
theorem dX8_joinedMany_13 : decode cX8_joinedMany 13 = .ok (.aload_n 0, 1) := by decide +kernel
theorem dX8_joinedMany_14 : decode cX8_joinedMany 14 = .ok (.getfield 13, 3) := by decide +kernel
theorem dX8_joinedMany_17 : decode cX8_joinedMany 17 = .ok (.bipush 57, 2) := by decide +kernel
theorem dX8_joinedMany_19 : decode cX8_joinedMany 19 = .ok (.iload_n 1, 1) := by decide +kernel
theorem dX8_joinedMany_20 : decode cX8_joinedMany 20 = .ok (.imul, 1) := by decide +kernel
theorem dX8_joinedMany_21 : decode cX8_joinedMany 21 = .ok (.iconst 4, 1) := by decide +kernel
theorem dX8_joinedMany_22 : decode cX8_joinedMany 22 = .ok (.iadd, 1) := by decide +kernel
theorem dX8_joinedMany_23 : decode cX8_joinedMany 23 = .ok (.iload_n 3, 1) := by decide +kernel
theorem dX8_joinedMany_24 : decode cX8_joinedMany 24 = .ok (.iadd, 1) := by decide +kernel
theorem dX8_joinedMany_25 : decode cX8_joinedMany 25 = .ok (.iaload, 1) := by decide +kernel
theorem dX8_joinedMany_26 : decode cX8_joinedMany 26 = .ok (.iadd, 1) := by decide +kernel
theorem dX8_joinedMany_27 : decode cX8_joinedMany 27 = .ok (.aload_n 0, 1) := by decide +kernel
theorem dX8_joinedMany_28 : decode cX8_joinedMany 28 = .ok (.iload_n 1, 1) := by decide +kernel
theorem dX8_joinedMany_29 : decode cX8_joinedMany 29 = .ok (.iload_n 2, 1) := by decide +kernel
theorem dX8_joinedMany_30 : decode cX8_joinedMany 30 = .ok (.iload_n 3, 1) := by decide +kernel
theorem dX8_joinedMany_31 : decode cX8_joinedMany 31 = .ok (.invokevirtual 126, 3) := by decide +kernel
theorem dX8_joinedMany_34 : decode cX8_joinedMany 34 = .ok (.isub, 1) := by decide +kernel
theorem dX8_joinedMany_35 : decode cX8_joinedMany 35 = .ok (.ireturn, 1) := by decide +kernel
theorem dX8_isOneHouse_0 : decode cX8_isOneHouse 0 = .ok (.aload_n 0, 1) := by decide +kernel
theorem dX8_isOneHouse_1 : decode cX8_isOneHouse 1 = .ok (.getfield 13, 3) := by decide +kernel
theorem dX8_isOneHouse_4 : decode cX8_isOneHouse 4 = .ok (.bipush 57, 2) := by decide +kernel
theorem dX8_isOneHouse_6 : decode cX8_isOneHouse 6 = .ok (.iload_n 1, 1) := by decide +kernel
theorem dX8_isOneHouse_7 : decode cX8_isOneHouse 7 = .ok (.imul, 1) := by decide +kernel
theorem dX8_isOneHouse_8 : decode cX8_isOneHouse 8 = .ok (.iload_n 2, 1) := by decide +kernel
theorem dX8_isOneHouse_9 : decode cX8_isOneHouse 9 = .ok (.iadd, 1) := by decide +kernel
theorem dX8_isOneHouse_10 : decode cX8_isOneHouse 10 = .ok (.iaload, 1) := by decide +kernel
theorem dX8_isOneHouse_11 : decode cX8_isOneHouse 11 = .ok (.aload_n 0, 1) := by decide +kernel
theorem dX8_isOneHouse_12 : decode cX8_isOneHouse 12 = .ok (.getfield 13, 3) := by decide +kernel
theorem dX8_isOneHouse_15 : decode cX8_isOneHouse 15 = .ok (.bipush 57, 2) := by decide +kernel
theorem dX8_isOneHouse_17 : decode cX8_isOneHouse 17 = .ok (.iload_n 1, 1) := by decide +kernel
theorem dX8_isOneHouse_18 : decode cX8_isOneHouse 18 = .ok (.imul, 1) := by decide +kernel
theorem dX8_isOneHouse_19 : decode cX8_isOneHouse 19 = .ok (.iload_n 3, 1) := by decide +kernel
theorem dX8_isOneHouse_20 : decode cX8_isOneHouse 20 = .ok (.iadd, 1) := by decide +kernel
theorem dX8_isOneHouse_21 : decode cX8_isOneHouse 21 = .ok (.iaload, 1) := by decide +kernel
theorem dX8_isOneHouse_22 : decode cX8_isOneHouse 22 = .ok (.if_icmp .ne 7, 3) := by decide +kernel
theorem dX8_isOneHouse_25 : decode cX8_isOneHouse 25 = .ok (.iconst 1, 1) := by decide +kernel
theorem dX8_isOneHouse_26 : decode cX8_isOneHouse 26 = .ok (.goto 4, 3) := by decide +kernel
theorem dX8_isOneHouse_29 : decode cX8_isOneHouse 29 = .ok (.iconst 0, 1) := by decide +kernel
theorem dX8_isOneHouse_30 : decode cX8_isOneHouse 30 = .ok (.ireturn, 1) := by decide +kernel
theorem dX8_canJoin_0 : decode cX8_canJoin 0 = .ok (.aload_n 0, 1) := by decide +kernel
theorem dX8_canJoin_1 : decode cX8_canJoin 1 = .ok (.iload_n 1, 1) := by decide +kernel
theorem dX8_canJoin_2 : decode cX8_canJoin 2 = .ok (.iload_n 2, 1) := by decide +kernel
theorem dX8_canJoin_3 : decode cX8_canJoin 3 = .ok (.invokevirtual 99, 3) := by decide +kernel
theorem dX8_canJoin_6 : decode cX8_canJoin 6 = .ok (.ifCond .eq 43, 3) := by decide +kernel
theorem dX8_canJoin_9 : decode cX8_canJoin 9 = .ok (.aload_n 0, 1) := by decide +kernel
theorem dX8_canJoin_10 : decode cX8_canJoin 10 = .ok (.iload_n 1, 1) := by decide +kernel
theorem dX8_canJoin_11 : decode cX8_canJoin 11 = .ok (.iload_n 3, 1) := by decide +kernel
theorem dX8_canJoin_12 : decode cX8_canJoin 12 = .ok (.invokevirtual 99, 3) := by decide +kernel
theorem dX8_canJoin_15 : decode cX8_canJoin 15 = .ok (.ifCond .eq 34, 3) := by decide +kernel
theorem dX8_canJoin_18 : decode cX8_canJoin 18 = .ok (.iload_n 2, 1) := by decide +kernel
theorem dX8_canJoin_19 : decode cX8_canJoin 19 = .ok (.iload_n 3, 1) := by decide +kernel
theorem dX8_canJoin_20 : decode cX8_canJoin 20 = .ok (.if_icmp .eq 29, 3) := by decide +kernel
theorem dX8_canJoin_23 : decode cX8_canJoin 23 = .ok (.aload_n 0, 1) := by decide +kernel
theorem dX8_canJoin_24 : decode cX8_canJoin 24 = .ok (.iload_n 1, 1) := by decide +kernel
theorem dX8_canJoin_25 : decode cX8_canJoin 25 = .ok (.iload_n 2, 1) := by decide +kernel
theorem dX8_canJoin_26 : decode cX8_canJoin 26 = .ok (.iload_n 3, 1) := by decide +kernel
theorem dX8_canJoin_27 : decode cX8_canJoin 27 = .ok (.invokevirtual 129, 3) := by decide +kernel
theorem dX8_canJoin_30 : decode cX8_canJoin 30 = .ok (.ifCond .eq 19, 3) := by decide +kernel
theorem dX8_canJoin_33 : decode cX8_canJoin 33 = .ok (.aload_n 0, 1) := by decide +kernel
theorem dX8_canJoin_34 : decode cX8_canJoin 34 = .ok (.iload_n 1, 1) := by decide +kernel
theorem dX8_canJoin_35 : decode cX8_canJoin 35 = .ok (.iload_n 2, 1) := by decide +kernel
theorem dX8_canJoin_36 : decode cX8_canJoin 36 = .ok (.iload_n 3, 1) := by decide +kernel
theorem dX8_canJoin_37 : decode cX8_canJoin 37 = .ok (.invokevirtual 133, 3) := by decide +kernel
theorem dX8_canJoin_40 : decode cX8_canJoin 40 = .ok (.bipush 12, 2) := by decide +kernel
theorem dX8_canJoin_42 : decode cX8_canJoin 42 = .ok (.if_icmp .gt 7, 3) := by decide +kernel
theorem dX8_canJoin_45 : decode cX8_canJoin 45 = .ok (.iconst 1, 1) := by decide +kernel
theorem dX8_canJoin_46 : decode cX8_canJoin 46 = .ok (.goto 4, 3) := by decide +kernel
theorem dX8_canJoin_49 : decode cX8_canJoin 49 = .ok (.iconst 0, 1) := by decide +kernel
theorem dX8_canJoin_50 : decode cX8_canJoin 50 = .ok (.ireturn, 1) := by decide +kernel
theorem dX8_joinOn_0 : decode cX8_joinOn 0 = .ok (.aload_n 0, 1) := by decide +kernel
theorem dX8_joinOn_1 : decode cX8_joinOn 1 = .ok (.iload_n 1, 1) := by decide +kernel
theorem dX8_joinOn_2 : decode cX8_joinOn 2 = .ok (.iload_n 2, 1) := by decide +kernel
theorem dX8_joinOn_3 : decode cX8_joinOn 3 = .ok (.iload_n 3, 1) := by decide +kernel
theorem dX8_joinOn_4 : decode cX8_joinOn 4 = .ok (.invokevirtual 126, 3) := by decide +kernel
theorem dX8_joinOn_7 : decode cX8_joinOn 7 = .ok (.istore 4, 2) := by decide +kernel
theorem dX8_joinOn_9 : decode cX8_joinOn 9 = .ok (.aload_n 0, 1) := by decide +kernel
theorem dX8_joinOn_10 : decode cX8_joinOn 10 = .ok (.getfield 13, 3) := by decide +kernel
theorem dX8_joinOn_13 : decode cX8_joinOn 13 = .ok (.bipush 57, 2) := by decide +kernel
theorem dX8_joinOn_15 : decode cX8_joinOn 15 = .ok (.iload_n 1, 1) := by decide +kernel
theorem dX8_joinOn_16 : decode cX8_joinOn 16 = .ok (.imul, 1) := by decide +kernel
theorem dX8_joinOn_17 : decode cX8_joinOn 17 = .ok (.iconst 4, 1) := by decide +kernel
theorem dX8_joinOn_18 : decode cX8_joinOn 18 = .ok (.iadd, 1) := by decide +kernel
theorem dX8_joinOn_19 : decode cX8_joinOn 19 = .ok (.iload_n 2, 1) := by decide +kernel
theorem dX8_joinOn_20 : decode cX8_joinOn 20 = .ok (.iadd, 1) := by decide +kernel
theorem dX8_joinOn_21 : decode cX8_joinOn 21 = .ok (.iaload, 1) := by decide +kernel
theorem dX8_joinOn_22 : decode cX8_joinOn 22 = .ok (.istore 5, 2) := by decide +kernel
theorem dX8_joinOn_24 : decode cX8_joinOn 24 = .ok (.aload_n 0, 1) := by decide +kernel
theorem dX8_joinOn_25 : decode cX8_joinOn 25 = .ok (.getfield 13, 3) := by decide +kernel
theorem dX8_joinOn_28 : decode cX8_joinOn 28 = .ok (.bipush 57, 2) := by decide +kernel
theorem dX8_joinOn_30 : decode cX8_joinOn 30 = .ok (.iload_n 1, 1) := by decide +kernel
theorem dX8_joinOn_31 : decode cX8_joinOn 31 = .ok (.imul, 1) := by decide +kernel
theorem dX8_joinOn_32 : decode cX8_joinOn 32 = .ok (.iconst 4, 1) := by decide +kernel
theorem dX8_joinOn_33 : decode cX8_joinOn 33 = .ok (.iadd, 1) := by decide +kernel
theorem dX8_joinOn_34 : decode cX8_joinOn 34 = .ok (.iload_n 3, 1) := by decide +kernel
theorem dX8_joinOn_35 : decode cX8_joinOn 35 = .ok (.iadd, 1) := by decide +kernel
theorem dX8_joinOn_36 : decode cX8_joinOn 36 = .ok (.iaload, 1) := by decide +kernel
theorem dX8_joinOn_37 : decode cX8_joinOn 37 = .ok (.istore 6, 2) := by decide +kernel
theorem dX8_joinOn_39 : decode cX8_joinOn 39 = .ok (.iload 4, 2) := by decide +kernel
theorem dX8_joinOn_41 : decode cX8_joinOn 41 = .ok (.istore 7, 2) := by decide +kernel
theorem dX8_joinOn_43 : decode cX8_joinOn 43 = .ok (.iload 7, 2) := by decide +kernel
theorem dX8_joinOn_45 : decode cX8_joinOn 45 = .ok (.iload 6, 2) := by decide +kernel
theorem dX8_joinOn_47 : decode cX8_joinOn 47 = .ok (.if_icmp .ge 43, 3) := by decide +kernel
theorem dX8_joinOn_50 : decode cX8_joinOn 50 = .ok (.aload_n 0, 1) := by decide +kernel
theorem dX8_joinOn_51 : decode cX8_joinOn 51 = .ok (.getfield 13, 3) := by decide +kernel
theorem dX8_joinOn_54 : decode cX8_joinOn 54 = .ok (.bipush 57, 2) := by decide +kernel
theorem dX8_joinOn_56 : decode cX8_joinOn 56 = .ok (.iload_n 1, 1) := by decide +kernel
theorem dX8_joinOn_57 : decode cX8_joinOn 57 = .ok (.imul, 1) := by decide +kernel
theorem dX8_joinOn_58 : decode cX8_joinOn 58 = .ok (.bipush 8, 2) := by decide +kernel
theorem dX8_joinOn_60 : decode cX8_joinOn 60 = .ok (.iadd, 1) := by decide +kernel
theorem dX8_joinOn_61 : decode cX8_joinOn 61 = .ok (.bipush 12, 2) := by decide +kernel
theorem dX8_joinOn_63 : decode cX8_joinOn 63 = .ok (.iload_n 2, 1) := by decide +kernel
theorem dX8_joinOn_64 : decode cX8_joinOn 64 = .ok (.imul, 1) := by decide +kernel
theorem dX8_joinOn_65 : decode cX8_joinOn 65 = .ok (.iadd, 1) := by decide +kernel
theorem dX8_joinOn_66 : decode cX8_joinOn 66 = .ok (.iload 5, 2) := by decide +kernel
theorem dX8_joinOn_68 : decode cX8_joinOn 68 = .ok (.iadd, 1) := by decide +kernel
theorem dX8_joinOn_69 : decode cX8_joinOn 69 = .ok (.iload 7, 2) := by decide +kernel
theorem dX8_joinOn_71 : decode cX8_joinOn 71 = .ok (.iadd, 1) := by decide +kernel
theorem dX8_joinOn_72 : decode cX8_joinOn 72 = .ok (.iload 4, 2) := by decide +kernel
theorem dX8_joinOn_74 : decode cX8_joinOn 74 = .ok (.isub, 1) := by decide +kernel
theorem dX8_joinOn_75 : decode cX8_joinOn 75 = .ok (.aload_n 0, 1) := by decide +kernel
theorem dX8_joinOn_76 : decode cX8_joinOn 76 = .ok (.iload_n 1, 1) := by decide +kernel
theorem dX8_joinOn_77 : decode cX8_joinOn 77 = .ok (.iload_n 3, 1) := by decide +kernel
theorem dX8_joinOn_78 : decode cX8_joinOn 78 = .ok (.iload 7, 2) := by decide +kernel
theorem dX8_joinOn_80 : decode cX8_joinOn 80 = .ok (.invokevirtual 122, 3) := by decide +kernel
theorem dX8_joinOn_83 : decode cX8_joinOn 83 = .ok (.iastore, 1) := by decide +kernel
theorem dX8_joinOn_84 : decode cX8_joinOn 84 = .ok (.iinc 7 1, 3) := by decide +kernel
theorem dX8_joinOn_87 : decode cX8_joinOn 87 = .ok (.goto (-44), 3) := by decide +kernel
theorem dX8_joinOn_90 : decode cX8_joinOn 90 = .ok (.aload_n 0, 1) := by decide +kernel
theorem dX8_joinOn_91 : decode cX8_joinOn 91 = .ok (.getfield 13, 3) := by decide +kernel
theorem dX8_joinOn_94 : decode cX8_joinOn 94 = .ok (.bipush 57, 2) := by decide +kernel
theorem dX8_joinOn_96 : decode cX8_joinOn 96 = .ok (.iload_n 1, 1) := by decide +kernel
theorem dX8_joinOn_97 : decode cX8_joinOn 97 = .ok (.imul, 1) := by decide +kernel
theorem dX8_joinOn_98 : decode cX8_joinOn 98 = .ok (.iconst 4, 1) := by decide +kernel
theorem dX8_joinOn_99 : decode cX8_joinOn 99 = .ok (.iadd, 1) := by decide +kernel
theorem dX8_joinOn_100 : decode cX8_joinOn 100 = .ok (.iload_n 2, 1) := by decide +kernel
theorem dX8_joinOn_101 : decode cX8_joinOn 101 = .ok (.iadd, 1) := by decide +kernel
theorem dX8_joinOn_102 : decode cX8_joinOn 102 = .ok (.iload 5, 2) := by decide +kernel
theorem dX8_joinOn_104 : decode cX8_joinOn 104 = .ok (.iload 6, 2) := by decide +kernel
theorem dX8_joinOn_106 : decode cX8_joinOn 106 = .ok (.iadd, 1) := by decide +kernel
theorem dX8_joinOn_107 : decode cX8_joinOn 107 = .ok (.iload 4, 2) := by decide +kernel
theorem dX8_joinOn_109 : decode cX8_joinOn 109 = .ok (.isub, 1) := by decide +kernel
theorem dX8_joinOn_110 : decode cX8_joinOn 110 = .ok (.iastore, 1) := by decide +kernel
theorem dX8_joinOn_111 : decode cX8_joinOn 111 = .ok (.aload_n 0, 1) := by decide +kernel
theorem dX8_joinOn_112 : decode cX8_joinOn 112 = .ok (.getfield 13, 3) := by decide +kernel
theorem dX8_joinOn_115 : decode cX8_joinOn 115 = .ok (.bipush 57, 2) := by decide +kernel
theorem dX8_joinOn_117 : decode cX8_joinOn 117 = .ok (.iload_n 1, 1) := by decide +kernel
theorem dX8_joinOn_118 : decode cX8_joinOn 118 = .ok (.imul, 1) := by decide +kernel
theorem dX8_joinOn_119 : decode cX8_joinOn 119 = .ok (.iconst 4, 1) := by decide +kernel
theorem dX8_joinOn_120 : decode cX8_joinOn 120 = .ok (.iadd, 1) := by decide +kernel
theorem dX8_joinOn_121 : decode cX8_joinOn 121 = .ok (.iload_n 3, 1) := by decide +kernel
theorem dX8_joinOn_122 : decode cX8_joinOn 122 = .ok (.iadd, 1) := by decide +kernel
theorem dX8_joinOn_123 : decode cX8_joinOn 123 = .ok (.iconst 0, 1) := by decide +kernel
theorem dX8_joinOn_124 : decode cX8_joinOn 124 = .ok (.iastore, 1) := by decide +kernel
theorem dX8_joinOn_125 : decode cX8_joinOn 125 = .ok (.return_, 1) := by decide +kernel
theorem dX8_tenTo_0 : decode cX8_tenTo 0 = .ok (.lconst 1, 1) := by decide +kernel
theorem dX8_tenTo_1 : decode cX8_tenTo 1 = .ok (.lstore_n 1, 1) := by decide +kernel
theorem dX8_tenTo_2 : decode cX8_tenTo 2 = .ok (.iconst 0, 1) := by decide +kernel
theorem dX8_tenTo_3 : decode cX8_tenTo 3 = .ok (.istore_n 3, 1) := by decide +kernel
theorem dX8_tenTo_4 : decode cX8_tenTo 4 = .ok (.iload_n 3, 1) := by decide +kernel
theorem dX8_tenTo_5 : decode cX8_tenTo 5 = .ok (.iload_n 0, 1) := by decide +kernel
theorem dX8_tenTo_6 : decode cX8_tenTo 6 = .ok (.if_icmp .ge 15, 3) := by decide +kernel
theorem dX8_tenTo_9 : decode cX8_tenTo 9 = .ok (.lload_n 1, 1) := by decide +kernel
theorem dX8_tenTo_10 : decode cX8_tenTo 10 = .ok (.ldc2_w 136, 3) := by decide +kernel
theorem dX8_tenTo_13 : decode cX8_tenTo 13 = .ok (.lmul, 1) := by decide +kernel
theorem dX8_tenTo_14 : decode cX8_tenTo 14 = .ok (.lstore_n 1, 1) := by decide +kernel
theorem dX8_tenTo_15 : decode cX8_tenTo 15 = .ok (.iinc 3 1, 3) := by decide +kernel
theorem dX8_tenTo_18 : decode cX8_tenTo 18 = .ok (.goto (-14), 3) := by decide +kernel
theorem dX8_tenTo_21 : decode cX8_tenTo 21 = .ok (.lload_n 1, 1) := by decide +kernel
theorem dX8_tenTo_22 : decode cX8_tenTo 22 = .ok (.lreturn, 1) := by decide +kernel
theorem dX8_bed_0 : decode cX8_bed 0 = .ok (.iload_n 1, 1) := by decide +kernel
theorem dX8_bed_1 : decode cX8_bed 1 = .ok (.i2l, 1) := by decide +kernel
theorem dX8_bed_2 : decode cX8_bed 2 = .ok (.lconst 0, 1) := by decide +kernel
theorem dX8_bed_3 : decode cX8_bed 3 = .ok (.ldc2_w 138, 3) := by decide +kernel
theorem dX8_bed_6 : decode cX8_bed 6 = .ok (.invokestatic 52, 3) := by decide +kernel
theorem dX8_bed_9 : decode cX8_bed 9 = .ok (.ifCond .eq 17, 3) := by decide +kernel
theorem dX8_bed_12 : decode cX8_bed 12 = .ok (.lload_n 2, 1) := by decide +kernel
theorem dX8_bed_13 : decode cX8_bed 13 = .ok (.lconst 0, 1) := by decide +kernel
theorem dX8_bed_14 : decode cX8_bed 14 = .ok (.iload_n 1, 1) := by decide +kernel
theorem dX8_bed_15 : decode cX8_bed 15 = .ok (.invokestatic 140, 3) := by decide +kernel
theorem dX8_bed_18 : decode cX8_bed 18 = .ok (.lconst 1, 1) := by decide +kernel
theorem dX8_bed_19 : decode cX8_bed 19 = .ok (.lsub, 1) := by decide +kernel
theorem dX8_bed_20 : decode cX8_bed 20 = .ok (.invokestatic 52, 3) := by decide +kernel
theorem dX8_bed_23 : decode cX8_bed 23 = .ok (.ifCond .ne 6, 3) := by decide +kernel
theorem dX8_bed_26 : decode cX8_bed 26 = .ok (.bipush (-2), 2) := by decide +kernel
theorem dX8_bed_28 : decode cX8_bed 28 = .ok (.ireturn, 1) := by decide +kernel
theorem dX8_bed_29 : decode cX8_bed 29 = .ok (.iconst 0, 1) := by decide +kernel
theorem dX8_bed_30 : decode cX8_bed 30 = .ok (.istore 4, 2) := by decide +kernel
theorem dX8_bed_32 : decode cX8_bed 32 = .ok (.iload 4, 2) := by decide +kernel
theorem dX8_bed_34 : decode cX8_bed 34 = .ok (.iload_n 1, 1) := by decide +kernel
theorem dX8_bed_35 : decode cX8_bed 35 = .ok (.if_icmp .ge 37, 3) := by decide +kernel
theorem dX8_bed_38 : decode cX8_bed 38 = .ok (.lload_n 2, 1) := by decide +kernel
theorem dX8_bed_39 : decode cX8_bed 39 = .ok (.iload_n 1, 1) := by decide +kernel
theorem dX8_bed_40 : decode cX8_bed 40 = .ok (.iconst 1, 1) := by decide +kernel
theorem dX8_bed_41 : decode cX8_bed 41 = .ok (.isub, 1) := by decide +kernel
theorem dX8_bed_42 : decode cX8_bed 42 = .ok (.iload 4, 2) := by decide +kernel
theorem dX8_bed_44 : decode cX8_bed 44 = .ok (.isub, 1) := by decide +kernel
theorem dX8_bed_45 : decode cX8_bed 45 = .ok (.invokestatic 140, 3) := by decide +kernel
theorem dX8_bed_48 : decode cX8_bed 48 = .ok (.ldiv, 1) := by decide +kernel
theorem dX8_bed_49 : decode cX8_bed 49 = .ok (.ldc2_w 136, 3) := by decide +kernel
theorem dX8_bed_52 : decode cX8_bed 52 = .ok (.lrem, 1) := by decide +kernel
theorem dX8_bed_53 : decode cX8_bed 53 = .ok (.lconst 1, 1) := by decide +kernel
theorem dX8_bed_54 : decode cX8_bed 54 = .ok (.ldc2_w 144, 3) := by decide +kernel
theorem dX8_bed_57 : decode cX8_bed 57 = .ok (.invokestatic 52, 3) := by decide +kernel
theorem dX8_bed_60 : decode cX8_bed 60 = .ok (.ifCond .ne 6, 3) := by decide +kernel
theorem dX8_bed_63 : decode cX8_bed 63 = .ok (.bipush (-2), 2) := by decide +kernel
theorem dX8_bed_65 : decode cX8_bed 65 = .ok (.ireturn, 1) := by decide +kernel
theorem dX8_bed_66 : decode cX8_bed 66 = .ok (.iinc 4 1, 3) := by decide +kernel
theorem dX8_bed_69 : decode cX8_bed 69 = .ok (.goto (-37), 3) := by decide +kernel
theorem dX8_bed_72 : decode cX8_bed 72 = .ok (.aload_n 0, 1) := by decide +kernel
theorem dX8_bed_73 : decode cX8_bed 73 = .ok (.getfield 146, 3) := by decide +kernel
theorem dX8_bed_76 : decode cX8_bed 76 = .ok (.istore 4, 2) := by decide +kernel
theorem dX8_bed_78 : decode cX8_bed 78 = .ok (.aload_n 0, 1) := by decide +kernel
theorem dX8_bed_79 : decode cX8_bed 79 = .ok (.iload_n 1, 1) := by decide +kernel
theorem dX8_bed_80 : decode cX8_bed 80 = .ok (.putfield 146, 3) := by decide +kernel
theorem dX8_bed_83 : decode cX8_bed 83 = .ok (.iconst 0, 1) := by decide +kernel
theorem dX8_bed_84 : decode cX8_bed 84 = .ok (.istore 5, 2) := by decide +kernel
theorem dX8_bed_86 : decode cX8_bed 86 = .ok (.iload 5, 2) := by decide +kernel
theorem dX8_bed_88 : decode cX8_bed 88 = .ok (.iload_n 1, 1) := by decide +kernel
theorem dX8_bed_89 : decode cX8_bed 89 = .ok (.if_icmp .ge 32, 3) := by decide +kernel
theorem dX8_bed_92 : decode cX8_bed 92 = .ok (.aload_n 0, 1) := by decide +kernel
theorem dX8_bed_93 : decode cX8_bed 93 = .ok (.getfield 28, 3) := by decide +kernel
theorem dX8_bed_96 : decode cX8_bed 96 = .ok (.iload 5, 2) := by decide +kernel
theorem dX8_bed_98 : decode cX8_bed 98 = .ok (.lload_n 2, 1) := by decide +kernel
theorem dX8_bed_99 : decode cX8_bed 99 = .ok (.iload_n 1, 1) := by decide +kernel
theorem dX8_bed_100 : decode cX8_bed 100 = .ok (.iconst 1, 1) := by decide +kernel
theorem dX8_bed_101 : decode cX8_bed 101 = .ok (.isub, 1) := by decide +kernel
theorem dX8_bed_102 : decode cX8_bed 102 = .ok (.iload 5, 2) := by decide +kernel
theorem dX8_bed_104 : decode cX8_bed 104 = .ok (.isub, 1) := by decide +kernel
theorem dX8_bed_105 : decode cX8_bed 105 = .ok (.invokestatic 140, 3) := by decide +kernel
theorem dX8_bed_108 : decode cX8_bed 108 = .ok (.ldiv, 1) := by decide +kernel
theorem dX8_bed_109 : decode cX8_bed 109 = .ok (.ldc2_w 136, 3) := by decide +kernel
theorem dX8_bed_112 : decode cX8_bed 112 = .ok (.lrem, 1) := by decide +kernel
theorem dX8_bed_113 : decode cX8_bed 113 = .ok (.l2i, 1) := by decide +kernel
theorem dX8_bed_114 : decode cX8_bed 114 = .ok (.iastore, 1) := by decide +kernel
theorem dX8_bed_115 : decode cX8_bed 115 = .ok (.iinc 5 1, 3) := by decide +kernel
theorem dX8_bed_118 : decode cX8_bed 118 = .ok (.goto (-32), 3) := by decide +kernel
theorem dX8_bed_121 : decode cX8_bed 121 = .ok (.iload 4, 2) := by decide +kernel
theorem dX8_bed_123 : decode cX8_bed 123 = .ok (.ireturn, 1) := by decide +kernel
theorem dX8_liesAt_0 : decode cX8_liesAt 0 = .ok (.aload_n 0, 1) := by decide +kernel
theorem dX8_liesAt_1 : decode cX8_liesAt 1 = .ok (.getfield 13, 3) := by decide +kernel
theorem dX8_liesAt_4 : decode cX8_liesAt 4 = .ok (.bipush 57, 2) := by decide +kernel
theorem dX8_liesAt_6 : decode cX8_liesAt 6 = .ok (.iload_n 1, 1) := by decide +kernel
theorem dX8_liesAt_7 : decode cX8_liesAt 7 = .ok (.imul, 1) := by decide +kernel
theorem dX8_liesAt_8 : decode cX8_liesAt 8 = .ok (.iconst 4, 1) := by decide +kernel
theorem dX8_liesAt_9 : decode cX8_liesAt 9 = .ok (.iadd, 1) := by decide +kernel
theorem dX8_liesAt_10 : decode cX8_liesAt 10 = .ok (.iload_n 2, 1) := by decide +kernel
theorem dX8_liesAt_11 : decode cX8_liesAt 11 = .ok (.iadd, 1) := by decide +kernel
theorem dX8_liesAt_12 : decode cX8_liesAt 12 = .ok (.iaload, 1) := by decide +kernel
theorem dX8_liesAt_13 : decode cX8_liesAt 13 = .ok (.istore 4, 2) := by decide +kernel
theorem dX8_liesAt_15 : decode cX8_liesAt 15 = .ok (.iload_n 3, 1) := by decide +kernel
theorem dX8_liesAt_16 : decode cX8_liesAt 16 = .ok (.iload 4, 2) := by decide +kernel
theorem dX8_liesAt_18 : decode cX8_liesAt 18 = .ok (.iadd, 1) := by decide +kernel
theorem dX8_liesAt_19 : decode cX8_liesAt 19 = .ok (.aload_n 0, 1) := by decide +kernel
theorem dX8_liesAt_20 : decode cX8_liesAt 20 = .ok (.getfield 146, 3) := by decide +kernel
theorem dX8_liesAt_23 : decode cX8_liesAt 23 = .ok (.if_icmp .gt 7, 3) := by decide +kernel
theorem dX8_liesAt_26 : decode cX8_liesAt 26 = .ok (.iconst 1, 1) := by decide +kernel
theorem dX8_liesAt_27 : decode cX8_liesAt 27 = .ok (.goto 4, 3) := by decide +kernel
theorem dX8_liesAt_30 : decode cX8_liesAt 30 = .ok (.iconst 0, 1) := by decide +kernel
theorem dX8_liesAt_31 : decode cX8_liesAt 31 = .ok (.istore 5, 2) := by decide +kernel
theorem dX8_liesAt_33 : decode cX8_liesAt 33 = .ok (.iconst 0, 1) := by decide +kernel
theorem dX8_liesAt_34 : decode cX8_liesAt 34 = .ok (.istore 6, 2) := by decide +kernel
theorem dX8_liesAt_36 : decode cX8_liesAt 36 = .ok (.iload 6, 2) := by decide +kernel
theorem dX8_liesAt_38 : decode cX8_liesAt 38 = .ok (.iload 4, 2) := by decide +kernel
theorem dX8_liesAt_40 : decode cX8_liesAt 40 = .ok (.if_icmp .ge 41, 3) := by decide +kernel
theorem dX8_liesAt_43 : decode cX8_liesAt 43 = .ok (.iload 5, 2) := by decide +kernel
theorem dX8_liesAt_45 : decode cX8_liesAt 45 = .ok (.ifCond .eq 36, 3) := by decide +kernel
theorem dX8_liesAt_48 : decode cX8_liesAt 48 = .ok (.aload_n 0, 1) := by decide +kernel
theorem dX8_liesAt_49 : decode cX8_liesAt 49 = .ok (.getfield 28, 3) := by decide +kernel
theorem dX8_liesAt_52 : decode cX8_liesAt 52 = .ok (.iload_n 3, 1) := by decide +kernel
theorem dX8_liesAt_53 : decode cX8_liesAt 53 = .ok (.iload 6, 2) := by decide +kernel
theorem dX8_liesAt_55 : decode cX8_liesAt 55 = .ok (.iadd, 1) := by decide +kernel
theorem dX8_liesAt_56 : decode cX8_liesAt 56 = .ok (.iaload, 1) := by decide +kernel
theorem dX8_liesAt_57 : decode cX8_liesAt 57 = .ok (.aload_n 0, 1) := by decide +kernel
theorem dX8_liesAt_58 : decode cX8_liesAt 58 = .ok (.iload_n 1, 1) := by decide +kernel
theorem dX8_liesAt_59 : decode cX8_liesAt 59 = .ok (.iload_n 2, 1) := by decide +kernel
theorem dX8_liesAt_60 : decode cX8_liesAt 60 = .ok (.iload 6, 2) := by decide +kernel
theorem dX8_liesAt_62 : decode cX8_liesAt 62 = .ok (.invokevirtual 122, 3) := by decide +kernel
theorem dX8_liesAt_65 : decode cX8_liesAt 65 = .ok (.if_icmp .ne 7, 3) := by decide +kernel
theorem dX8_liesAt_68 : decode cX8_liesAt 68 = .ok (.iconst 1, 1) := by decide +kernel
theorem dX8_liesAt_69 : decode cX8_liesAt 69 = .ok (.goto 4, 3) := by decide +kernel
theorem dX8_liesAt_72 : decode cX8_liesAt 72 = .ok (.iconst 0, 1) := by decide +kernel
theorem dX8_liesAt_73 : decode cX8_liesAt 73 = .ok (.istore 5, 2) := by decide +kernel
theorem dX8_liesAt_75 : decode cX8_liesAt 75 = .ok (.iinc 6 1, 3) := by decide +kernel
theorem dX8_liesAt_78 : decode cX8_liesAt 78 = .ok (.goto (-42), 3) := by decide +kernel
theorem dX8_liesAt_81 : decode cX8_liesAt 81 = .ok (.iload 5, 2) := by decide +kernel
theorem dX8_liesAt_83 : decode cX8_liesAt 83 = .ok (.ireturn, 1) := by decide +kernel
theorem dX8_firstPlace_0 : decode cX8_firstPlace 0 = .ok (.iconst 0, 1) := by decide +kernel
theorem dX8_firstPlace_1 : decode cX8_firstPlace 1 = .ok (.istore_n 3, 1) := by decide +kernel
theorem dX8_firstPlace_2 : decode cX8_firstPlace 2 = .ok (.iload_n 3, 1) := by decide +kernel
theorem dX8_firstPlace_3 : decode cX8_firstPlace 3 = .ok (.aload_n 0, 1) := by decide +kernel
theorem dX8_firstPlace_4 : decode cX8_firstPlace 4 = .ok (.getfield 146, 3) := by decide +kernel
theorem dX8_firstPlace_7 : decode cX8_firstPlace 7 = .ok (.if_icmp .ge 21, 3) := by decide +kernel
theorem dX8_firstPlace_10 : decode cX8_firstPlace 10 = .ok (.aload_n 0, 1) := by decide +kernel
theorem dX8_firstPlace_11 : decode cX8_firstPlace 11 = .ok (.iload_n 1, 1) := by decide +kernel
theorem dX8_firstPlace_12 : decode cX8_firstPlace 12 = .ok (.iload_n 2, 1) := by decide +kernel
theorem dX8_firstPlace_13 : decode cX8_firstPlace 13 = .ok (.iload_n 3, 1) := by decide +kernel
theorem dX8_firstPlace_14 : decode cX8_firstPlace 14 = .ok (.invokevirtual 149, 3) := by decide +kernel
theorem dX8_firstPlace_17 : decode cX8_firstPlace 17 = .ok (.ifCond .eq 5, 3) := by decide +kernel
theorem dX8_firstPlace_20 : decode cX8_firstPlace 20 = .ok (.iload_n 3, 1) := by decide +kernel
theorem dX8_firstPlace_21 : decode cX8_firstPlace 21 = .ok (.ireturn, 1) := by decide +kernel
theorem dX8_firstPlace_22 : decode cX8_firstPlace 22 = .ok (.iinc 3 1, 3) := by decide +kernel
theorem dX8_firstPlace_25 : decode cX8_firstPlace 25 = .ok (.goto (-23), 3) := by decide +kernel
theorem dX8_firstPlace_28 : decode cX8_firstPlace 28 = .ok (.bipush (-9), 2) := by decide +kernel
theorem dX8_firstPlace_30 : decode cX8_firstPlace 30 = .ok (.ireturn, 1) := by decide +kernel
theorem dX8_coverOf_0 : decode cX8_coverOf 0 = .ok (.iconst 0, 1) := by decide +kernel
theorem dX8_coverOf_1 : decode cX8_coverOf 1 = .ok (.istore_n 2, 1) := by decide +kernel
theorem dX8_coverOf_2 : decode cX8_coverOf 2 = .ok (.iconst 0, 1) := by decide +kernel
theorem dX8_coverOf_3 : decode cX8_coverOf 3 = .ok (.istore_n 3, 1) := by decide +kernel
theorem dX8_coverOf_4 : decode cX8_coverOf 4 = .ok (.iload_n 3, 1) := by decide +kernel
theorem dX8_coverOf_5 : decode cX8_coverOf 5 = .ok (.aload_n 0, 1) := by decide +kernel
theorem dX8_coverOf_6 : decode cX8_coverOf 6 = .ok (.getfield 89, 3) := by decide +kernel
theorem dX8_coverOf_9 : decode cX8_coverOf 9 = .ok (.if_icmp .ge 68, 3) := by decide +kernel
theorem dX8_coverOf_12 : decode cX8_coverOf 12 = .ok (.iconst 0, 1) := by decide +kernel
theorem dX8_coverOf_13 : decode cX8_coverOf 13 = .ok (.istore 4, 2) := by decide +kernel
theorem dX8_coverOf_15 : decode cX8_coverOf 15 = .ok (.iload 4, 2) := by decide +kernel
theorem dX8_coverOf_17 : decode cX8_coverOf 17 = .ok (.aload_n 0, 1) := by decide +kernel
theorem dX8_coverOf_18 : decode cX8_coverOf 18 = .ok (.getfield 146, 3) := by decide +kernel
theorem dX8_coverOf_21 : decode cX8_coverOf 21 = .ok (.if_icmp .ge 50, 3) := by decide +kernel
theorem dX8_coverOf_24 : decode cX8_coverOf 24 = .ok (.iload_n 1, 1) := by decide +kernel
theorem dX8_coverOf_25 : decode cX8_coverOf 25 = .ok (.iload_n 3, 1) := by decide +kernel
theorem dX8_coverOf_26 : decode cX8_coverOf 26 = .ok (.invokestatic 106, 3) := by decide +kernel
theorem dX8_coverOf_29 : decode cX8_coverOf 29 = .ok (.ifCond .eq 42, 3) := by decide +kernel
theorem dX8_coverOf_32 : decode cX8_coverOf 32 = .ok (.iload_n 2, 1) := by decide +kernel
theorem dX8_coverOf_33 : decode cX8_coverOf 33 = .ok (.aload_n 0, 1) := by decide +kernel
theorem dX8_coverOf_34 : decode cX8_coverOf 34 = .ok (.iconst 0, 1) := by decide +kernel
theorem dX8_coverOf_35 : decode cX8_coverOf 35 = .ok (.iload_n 3, 1) := by decide +kernel
theorem dX8_coverOf_36 : decode cX8_coverOf 36 = .ok (.iload 4, 2) := by decide +kernel
theorem dX8_coverOf_38 : decode cX8_coverOf 38 = .ok (.invokevirtual 149, 3) := by decide +kernel
theorem dX8_coverOf_41 : decode cX8_coverOf 41 = .ok (.ifCond .eq 21, 3) := by decide +kernel
theorem dX8_coverOf_44 : decode cX8_coverOf 44 = .ok (.iconst 1, 1) := by decide +kernel
theorem dX8_coverOf_45 : decode cX8_coverOf 45 = .ok (.aload_n 0, 1) := by decide +kernel
theorem dX8_coverOf_46 : decode cX8_coverOf 46 = .ok (.getfield 13, 3) := by decide +kernel
theorem dX8_coverOf_49 : decode cX8_coverOf 49 = .ok (.iconst 4, 1) := by decide +kernel
theorem dX8_coverOf_50 : decode cX8_coverOf 50 = .ok (.iload_n 3, 1) := by decide +kernel
theorem dX8_coverOf_51 : decode cX8_coverOf 51 = .ok (.iadd, 1) := by decide +kernel
theorem dX8_coverOf_52 : decode cX8_coverOf 52 = .ok (.iaload, 1) := by decide +kernel
theorem dX8_coverOf_53 : decode cX8_coverOf 53 = .ok (.ishl, 1) := by decide +kernel
theorem dX8_coverOf_54 : decode cX8_coverOf 54 = .ok (.iconst 1, 1) := by decide +kernel
theorem dX8_coverOf_55 : decode cX8_coverOf 55 = .ok (.isub, 1) := by decide +kernel
theorem dX8_coverOf_56 : decode cX8_coverOf 56 = .ok (.iload 4, 2) := by decide +kernel
theorem dX8_coverOf_58 : decode cX8_coverOf 58 = .ok (.ishl, 1) := by decide +kernel
theorem dX8_coverOf_59 : decode cX8_coverOf 59 = .ok (.goto 4, 3) := by decide +kernel
theorem dX8_coverOf_62 : decode cX8_coverOf 62 = .ok (.iconst 0, 1) := by decide +kernel
theorem dX8_coverOf_63 : decode cX8_coverOf 63 = .ok (.ior, 1) := by decide +kernel
theorem dX8_coverOf_64 : decode cX8_coverOf 64 = .ok (.istore_n 2, 1) := by decide +kernel
theorem dX8_coverOf_65 : decode cX8_coverOf 65 = .ok (.iinc 4 1, 3) := by decide +kernel
theorem dX8_coverOf_68 : decode cX8_coverOf 68 = .ok (.goto (-53), 3) := by decide +kernel
theorem dX8_coverOf_71 : decode cX8_coverOf 71 = .ok (.iinc 3 1, 3) := by decide +kernel
theorem dX8_coverOf_74 : decode cX8_coverOf 74 = .ok (.goto (-70), 3) := by decide +kernel
theorem dX8_coverOf_77 : decode cX8_coverOf 77 = .ok (.iload_n 2, 1) := by decide +kernel
theorem dX8_coverOf_78 : decode cX8_coverOf 78 = .ok (.ireturn, 1) := by decide +kernel
theorem dX8_strand_0 : decode cX8_strand 0 = .ok (.aload_n 0, 1) := by decide +kernel
theorem dX8_strand_1 : decode cX8_strand 1 = .ok (.iconst 0, 1) := by decide +kernel
theorem dX8_strand_2 : decode cX8_strand 2 = .ok (.iload_n 1, 1) := by decide +kernel
theorem dX8_strand_3 : decode cX8_strand 3 = .ok (.invokevirtual 99, 3) := by decide +kernel
theorem dX8_strand_6 : decode cX8_strand 6 = .ok (.ifCond .ne 5, 3) := by decide +kernel
theorem dX8_strand_9 : decode cX8_strand 9 = .ok (.iconst (-1), 1) := by decide +kernel
theorem dX8_strand_10 : decode cX8_strand 10 = .ok (.ireturn, 1) := by decide +kernel
theorem dX8_strand_11 : decode cX8_strand 11 = .ok (.iload_n 2, 1) := by decide +kernel
theorem dX8_strand_12 : decode cX8_strand 12 = .ok (.tableswitch 62 0 3 #[32, 39, 46, 55], 32) := by decide +kernel
theorem dX8_strand_44 : decode cX8_strand 44 = .ok (.aload_n 0, 1) := by decide +kernel
theorem dX8_strand_45 : decode cX8_strand 45 = .ok (.getfield 13, 3) := by decide +kernel
theorem dX8_strand_48 : decode cX8_strand 48 = .ok (.iload_n 1, 1) := by decide +kernel
theorem dX8_strand_49 : decode cX8_strand 49 = .ok (.iaload, 1) := by decide +kernel
theorem dX8_strand_50 : decode cX8_strand 50 = .ok (.ireturn, 1) := by decide +kernel
theorem dX8_strand_51 : decode cX8_strand 51 = .ok (.aload_n 0, 1) := by decide +kernel
theorem dX8_strand_52 : decode cX8_strand 52 = .ok (.getfield 7, 3) := by decide +kernel
theorem dX8_strand_55 : decode cX8_strand 55 = .ok (.iload_n 1, 1) := by decide +kernel
theorem dX8_strand_56 : decode cX8_strand 56 = .ok (.iaload, 1) := by decide +kernel
theorem dX8_strand_57 : decode cX8_strand 57 = .ok (.ireturn, 1) := by decide +kernel
theorem dX8_strand_58 : decode cX8_strand 58 = .ok (.aload_n 0, 1) := by decide +kernel
theorem dX8_strand_59 : decode cX8_strand 59 = .ok (.getfield 13, 3) := by decide +kernel
theorem dX8_strand_62 : decode cX8_strand 62 = .ok (.iconst 4, 1) := by decide +kernel
theorem dX8_strand_63 : decode cX8_strand 63 = .ok (.iload_n 1, 1) := by decide +kernel
theorem dX8_strand_64 : decode cX8_strand 64 = .ok (.iadd, 1) := by decide +kernel
theorem dX8_strand_65 : decode cX8_strand 65 = .ok (.iaload, 1) := by decide +kernel
theorem dX8_strand_66 : decode cX8_strand 66 = .ok (.ireturn, 1) := by decide +kernel
theorem dX8_strand_67 : decode cX8_strand 67 = .ok (.aload_n 0, 1) := by decide +kernel
theorem dX8_strand_68 : decode cX8_strand 68 = .ok (.iconst 0, 1) := by decide +kernel
theorem dX8_strand_69 : decode cX8_strand 69 = .ok (.iload_n 1, 1) := by decide +kernel
theorem dX8_strand_70 : decode cX8_strand 70 = .ok (.invokevirtual 152, 3) := by decide +kernel
theorem dX8_strand_73 : decode cX8_strand 73 = .ok (.ireturn, 1) := by decide +kernel
theorem dX8_strand_74 : decode cX8_strand 74 = .ok (.bipush (-2), 2) := by decide +kernel
theorem dX8_strand_76 : decode cX8_strand 76 = .ok (.ireturn, 1) := by decide +kernel
theorem dX8_bends_0 : decode cX8_bends 0 = .ok (.aload_n 0, 1) := by decide +kernel
theorem dX8_bends_1 : decode cX8_bends 1 = .ok (.iconst 0, 1) := by decide +kernel
theorem dX8_bends_2 : decode cX8_bends 2 = .ok (.iload_n 1, 1) := by decide +kernel
theorem dX8_bends_3 : decode cX8_bends 3 = .ok (.invokevirtual 99, 3) := by decide +kernel
theorem dX8_bends_6 : decode cX8_bends 6 = .ok (.ifCond .ne 7, 3) := by decide +kernel
theorem dX8_bends_9 : decode cX8_bends 9 = .ok (.ldc2_w 155, 3) := by decide +kernel
theorem dX8_bends_12 : decode cX8_bends 12 = .ok (.lreturn, 1) := by decide +kernel
theorem dX8_bends_13 : decode cX8_bends 13 = .ok (.lconst 0, 1) := by decide +kernel
theorem dX8_bends_14 : decode cX8_bends 14 = .ok (.lstore_n 2, 1) := by decide +kernel
theorem dX8_bends_15 : decode cX8_bends 15 = .ok (.iconst 0, 1) := by decide +kernel
theorem dX8_bends_16 : decode cX8_bends 16 = .ok (.istore 4, 2) := by decide +kernel
theorem dX8_bends_18 : decode cX8_bends 18 = .ok (.iload 4, 2) := by decide +kernel
theorem dX8_bends_20 : decode cX8_bends 20 = .ok (.aload_n 0, 1) := by decide +kernel
theorem dX8_bends_21 : decode cX8_bends 21 = .ok (.getfield 13, 3) := by decide +kernel
theorem dX8_bends_24 : decode cX8_bends 24 = .ok (.iconst 4, 1) := by decide +kernel
theorem dX8_bends_25 : decode cX8_bends 25 = .ok (.iload_n 1, 1) := by decide +kernel
theorem dX8_bends_26 : decode cX8_bends 26 = .ok (.iadd, 1) := by decide +kernel
theorem dX8_bends_27 : decode cX8_bends 27 = .ok (.iaload, 1) := by decide +kernel
theorem dX8_bends_28 : decode cX8_bends 28 = .ok (.if_icmp .ge 25, 3) := by decide +kernel
theorem dX8_bends_31 : decode cX8_bends 31 = .ok (.ldc2_w 136, 3) := by decide +kernel
theorem dX8_bends_34 : decode cX8_bends 34 = .ok (.lload_n 2, 1) := by decide +kernel
theorem dX8_bends_35 : decode cX8_bends 35 = .ok (.lmul, 1) := by decide +kernel
theorem dX8_bends_36 : decode cX8_bends 36 = .ok (.aload_n 0, 1) := by decide +kernel
theorem dX8_bends_37 : decode cX8_bends 37 = .ok (.iconst 0, 1) := by decide +kernel
theorem dX8_bends_38 : decode cX8_bends 38 = .ok (.iload_n 1, 1) := by decide +kernel
theorem dX8_bends_39 : decode cX8_bends 39 = .ok (.iload 4, 2) := by decide +kernel
theorem dX8_bends_41 : decode cX8_bends 41 = .ok (.invokevirtual 122, 3) := by decide +kernel
theorem dX8_bends_44 : decode cX8_bends 44 = .ok (.i2l, 1) := by decide +kernel
theorem dX8_bends_45 : decode cX8_bends 45 = .ok (.ladd, 1) := by decide +kernel
theorem dX8_bends_46 : decode cX8_bends 46 = .ok (.lstore_n 2, 1) := by decide +kernel
theorem dX8_bends_47 : decode cX8_bends 47 = .ok (.iinc 4 1, 3) := by decide +kernel
theorem dX8_bends_50 : decode cX8_bends 50 = .ok (.goto (-32), 3) := by decide +kernel
theorem dX8_bends_53 : decode cX8_bends 53 = .ok (.lload_n 2, 1) := by decide +kernel
theorem dX8_bends_54 : decode cX8_bends 54 = .ok (.lreturn, 1) := by decide +kernel
theorem dX8_keepAct_0 : decode cX8_keepAct 0 = .ok (.iconst 0, 1) := by decide +kernel
theorem dX8_keepAct_1 : decode cX8_keepAct 1 = .ok (.istore_n 1, 1) := by decide +kernel
theorem dX8_keepAct_2 : decode cX8_keepAct 2 = .ok (.iload_n 1, 1) := by decide +kernel
theorem dX8_keepAct_3 : decode cX8_keepAct 3 = .ok (.bipush 57, 2) := by decide +kernel
theorem dX8_keepAct_5 : decode cX8_keepAct 5 = .ok (.if_icmp .ge 29, 3) := by decide +kernel
theorem dX8_keepAct_8 : decode cX8_keepAct 8 = .ok (.aload_n 0, 1) := by decide +kernel
theorem dX8_keepAct_9 : decode cX8_keepAct 9 = .ok (.getfield 31, 3) := by decide +kernel
theorem dX8_keepAct_12 : decode cX8_keepAct 12 = .ok (.bipush 57, 2) := by decide +kernel
theorem dX8_keepAct_14 : decode cX8_keepAct 14 = .ok (.aload_n 0, 1) := by decide +kernel
theorem dX8_keepAct_15 : decode cX8_keepAct 15 = .ok (.getfield 157, 3) := by decide +kernel
theorem dX8_keepAct_18 : decode cX8_keepAct 18 = .ok (.imul, 1) := by decide +kernel
theorem dX8_keepAct_19 : decode cX8_keepAct 19 = .ok (.iload_n 1, 1) := by decide +kernel
theorem dX8_keepAct_20 : decode cX8_keepAct 20 = .ok (.iadd, 1) := by decide +kernel
theorem dX8_keepAct_21 : decode cX8_keepAct 21 = .ok (.aload_n 0, 1) := by decide +kernel
theorem dX8_keepAct_22 : decode cX8_keepAct 22 = .ok (.getfield 13, 3) := by decide +kernel
theorem dX8_keepAct_25 : decode cX8_keepAct 25 = .ok (.iload_n 1, 1) := by decide +kernel
theorem dX8_keepAct_26 : decode cX8_keepAct 26 = .ok (.iaload, 1) := by decide +kernel
theorem dX8_keepAct_27 : decode cX8_keepAct 27 = .ok (.iastore, 1) := by decide +kernel
theorem dX8_keepAct_28 : decode cX8_keepAct 28 = .ok (.iinc 1 1, 3) := by decide +kernel
theorem dX8_keepAct_31 : decode cX8_keepAct 31 = .ok (.goto (-29), 3) := by decide +kernel
theorem dX8_keepAct_34 : decode cX8_keepAct 34 = .ok (.aload_n 0, 1) := by decide +kernel
theorem dX8_keepAct_35 : decode cX8_keepAct 35 = .ok (.aload_n 0, 1) := by decide +kernel
theorem dX8_keepAct_36 : decode cX8_keepAct 36 = .ok (.getfield 157, 3) := by decide +kernel
theorem dX8_keepAct_39 : decode cX8_keepAct 39 = .ok (.iconst 1, 1) := by decide +kernel
theorem dX8_keepAct_40 : decode cX8_keepAct 40 = .ok (.iadd, 1) := by decide +kernel
theorem dX8_keepAct_41 : decode cX8_keepAct 41 = .ok (.bipush 14, 2) := by decide +kernel
theorem dX8_keepAct_43 : decode cX8_keepAct 43 = .ok (.irem, 1) := by decide +kernel
theorem dX8_keepAct_44 : decode cX8_keepAct 44 = .ok (.putfield 157, 3) := by decide +kernel
theorem dX8_keepAct_47 : decode cX8_keepAct 47 = .ok (.aload_n 0, 1) := by decide +kernel
theorem dX8_keepAct_48 : decode cX8_keepAct 48 = .ok (.aload_n 0, 1) := by decide +kernel
theorem dX8_keepAct_49 : decode cX8_keepAct 49 = .ok (.getfield 92, 3) := by decide +kernel
theorem dX8_keepAct_52 : decode cX8_keepAct 52 = .ok (.bipush 14, 2) := by decide +kernel
theorem dX8_keepAct_54 : decode cX8_keepAct 54 = .ok (.if_icmp .ge 12, 3) := by decide +kernel
theorem dX8_keepAct_57 : decode cX8_keepAct 57 = .ok (.aload_n 0, 1) := by decide +kernel
theorem dX8_keepAct_58 : decode cX8_keepAct 58 = .ok (.getfield 92, 3) := by decide +kernel
theorem dX8_keepAct_61 : decode cX8_keepAct 61 = .ok (.iconst 1, 1) := by decide +kernel
theorem dX8_keepAct_62 : decode cX8_keepAct 62 = .ok (.iadd, 1) := by decide +kernel
theorem dX8_keepAct_63 : decode cX8_keepAct 63 = .ok (.goto 5, 3) := by decide +kernel
theorem dX8_keepAct_66 : decode cX8_keepAct 66 = .ok (.bipush 14, 2) := by decide +kernel
theorem dX8_keepAct_68 : decode cX8_keepAct 68 = .ok (.putfield 92, 3) := by decide +kernel
theorem dX8_keepAct_71 : decode cX8_keepAct 71 = .ok (.return_, 1) := by decide +kernel
theorem dX8_winter_0 : decode cX8_winter 0 = .ok (.aload_n 0, 1) := by decide +kernel
theorem dX8_winter_1 : decode cX8_winter 1 = .ok (.invokevirtual 160, 3) := by decide +kernel
theorem dX8_winter_4 : decode cX8_winter 4 = .ok (.aload_n 0, 1) := by decide +kernel
theorem dX8_winter_5 : decode cX8_winter 5 = .ok (.iconst 0, 1) := by decide +kernel
theorem dX8_winter_6 : decode cX8_winter 6 = .ok (.invokevirtual 163, 3) := by decide +kernel
theorem dX8_winter_9 : decode cX8_winter 9 = .ok (.ireturn, 1) := by decide +kernel
theorem dX8_hang_0 : decode cX8_hang 0 = .ok (.aload_n 0, 1) := by decide +kernel
theorem dX8_hang_1 : decode cX8_hang 1 = .ok (.iconst 0, 1) := by decide +kernel
theorem dX8_hang_2 : decode cX8_hang 2 = .ok (.iload_n 1, 1) := by decide +kernel
theorem dX8_hang_3 : decode cX8_hang 3 = .ok (.invokevirtual 99, 3) := by decide +kernel
theorem dX8_hang_6 : decode cX8_hang 6 = .ok (.ifCond .eq 15, 3) := by decide +kernel
theorem dX8_hang_9 : decode cX8_hang 9 = .ok (.iload_n 2, 1) := by decide +kernel
theorem dX8_hang_10 : decode cX8_hang 10 = .ok (.i2l, 1) := by decide +kernel
theorem dX8_hang_11 : decode cX8_hang 11 = .ok (.lconst 0, 1) := by decide +kernel
theorem dX8_hang_12 : decode cX8_hang 12 = .ok (.ldc2_w 166, 3) := by decide +kernel
theorem dX8_hang_15 : decode cX8_hang 15 = .ok (.invokestatic 52, 3) := by decide +kernel
theorem dX8_hang_18 : decode cX8_hang 18 = .ok (.ifCond .ne 5, 3) := by decide +kernel
theorem dX8_hang_21 : decode cX8_hang 21 = .ok (.iconst (-1), 1) := by decide +kernel
theorem dX8_hang_22 : decode cX8_hang 22 = .ok (.ireturn, 1) := by decide +kernel
theorem dX8_hang_23 : decode cX8_hang 23 = .ok (.aload_n 0, 1) := by decide +kernel
theorem dX8_hang_24 : decode cX8_hang 24 = .ok (.getfield 13, 3) := by decide +kernel
theorem dX8_hang_27 : decode cX8_hang 27 = .ok (.iload_n 1, 1) := by decide +kernel
theorem dX8_hang_28 : decode cX8_hang 28 = .ok (.iaload, 1) := by decide +kernel
theorem dX8_hang_29 : decode cX8_hang 29 = .ok (.iload_n 2, 1) := by decide +kernel
theorem dX8_hang_30 : decode cX8_hang 30 = .ok (.if_icmp .ne 6, 3) := by decide +kernel
theorem dX8_hang_33 : decode cX8_hang 33 = .ok (.bipush (-3), 2) := by decide +kernel
theorem dX8_hang_35 : decode cX8_hang 35 = .ok (.ireturn, 1) := by decide +kernel
theorem dX8_hang_36 : decode cX8_hang 36 = .ok (.aload_n 0, 1) := by decide +kernel
theorem dX8_hang_37 : decode cX8_hang 37 = .ok (.invokevirtual 160, 3) := by decide +kernel
theorem dX8_hang_40 : decode cX8_hang 40 = .ok (.aload_n 0, 1) := by decide +kernel
theorem dX8_hang_41 : decode cX8_hang 41 = .ok (.getfield 13, 3) := by decide +kernel
theorem dX8_hang_44 : decode cX8_hang 44 = .ok (.iload_n 1, 1) := by decide +kernel
theorem dX8_hang_45 : decode cX8_hang 45 = .ok (.iload_n 2, 1) := by decide +kernel
theorem dX8_hang_46 : decode cX8_hang 46 = .ok (.iastore, 1) := by decide +kernel
theorem dX8_hang_47 : decode cX8_hang 47 = .ok (.aload_n 0, 1) := by decide +kernel
theorem dX8_hang_48 : decode cX8_hang 48 = .ok (.iconst 0, 1) := by decide +kernel
theorem dX8_hang_49 : decode cX8_hang 49 = .ok (.iload_n 2, 1) := by decide +kernel
theorem dX8_hang_50 : decode cX8_hang 50 = .ok (.invokevirtual 103, 3) := by decide +kernel
theorem dX8_hang_53 : decode cX8_hang 53 = .ok (.invokestatic 112, 3) := by decide +kernel
theorem dX8_hang_56 : decode cX8_hang 56 = .ok (.ireturn, 1) := by decide +kernel
theorem dX8_turn_0 : decode cX8_turn 0 = .ok (.aload_n 0, 1) := by decide +kernel
theorem dX8_turn_1 : decode cX8_turn 1 = .ok (.iconst 0, 1) := by decide +kernel
theorem dX8_turn_2 : decode cX8_turn 2 = .ok (.iload_n 1, 1) := by decide +kernel
theorem dX8_turn_3 : decode cX8_turn 3 = .ok (.invokevirtual 99, 3) := by decide +kernel
theorem dX8_turn_6 : decode cX8_turn 6 = .ok (.ifCond .ne 5, 3) := by decide +kernel
theorem dX8_turn_9 : decode cX8_turn 9 = .ok (.iconst (-1), 1) := by decide +kernel
theorem dX8_turn_10 : decode cX8_turn 10 = .ok (.ireturn, 1) := by decide +kernel
theorem dX8_turn_11 : decode cX8_turn 11 = .ok (.aload_n 0, 1) := by decide +kernel
theorem dX8_turn_12 : decode cX8_turn 12 = .ok (.invokevirtual 160, 3) := by decide +kernel
theorem dX8_turn_15 : decode cX8_turn 15 = .ok (.aload_n 0, 1) := by decide +kernel
theorem dX8_turn_16 : decode cX8_turn 16 = .ok (.iconst 0, 1) := by decide +kernel
theorem dX8_turn_17 : decode cX8_turn 17 = .ok (.iload_n 1, 1) := by decide +kernel
theorem dX8_turn_18 : decode cX8_turn 18 = .ok (.invokevirtual 168, 3) := by decide +kernel
theorem dX8_turn_21 : decode cX8_turn 21 = .ok (.aload_n 0, 1) := by decide +kernel
theorem dX8_turn_22 : decode cX8_turn 22 = .ok (.iconst 0, 1) := by decide +kernel
theorem dX8_turn_23 : decode cX8_turn 23 = .ok (.iload_n 1, 1) := by decide +kernel
theorem dX8_turn_24 : decode cX8_turn 24 = .ok (.iconst 0, 1) := by decide +kernel
theorem dX8_turn_25 : decode cX8_turn 25 = .ok (.invokevirtual 122, 3) := by decide +kernel
theorem dX8_turn_28 : decode cX8_turn 28 = .ok (.ireturn, 1) := by decide +kernel
theorem dX8_snip_0 : decode cX8_snip 0 = .ok (.aload_n 0, 1) := by decide +kernel
theorem dX8_snip_1 : decode cX8_snip 1 = .ok (.iconst 0, 1) := by decide +kernel
theorem dX8_snip_2 : decode cX8_snip 2 = .ok (.iload_n 1, 1) := by decide +kernel
theorem dX8_snip_3 : decode cX8_snip 3 = .ok (.invokevirtual 99, 3) := by decide +kernel
theorem dX8_snip_6 : decode cX8_snip 6 = .ok (.ifCond .ne 5, 3) := by decide +kernel
theorem dX8_snip_9 : decode cX8_snip 9 = .ok (.iconst (-1), 1) := by decide +kernel
theorem dX8_snip_10 : decode cX8_snip 10 = .ok (.ireturn, 1) := by decide +kernel
theorem dX8_snip_11 : decode cX8_snip 11 = .ok (.aload_n 0, 1) := by decide +kernel
theorem dX8_snip_12 : decode cX8_snip 12 = .ok (.getfield 13, 3) := by decide +kernel
theorem dX8_snip_15 : decode cX8_snip 15 = .ok (.iconst 4, 1) := by decide +kernel
theorem dX8_snip_16 : decode cX8_snip 16 = .ok (.iload_n 1, 1) := by decide +kernel
theorem dX8_snip_17 : decode cX8_snip 17 = .ok (.iadd, 1) := by decide +kernel
theorem dX8_snip_18 : decode cX8_snip 18 = .ok (.iaload, 1) := by decide +kernel
theorem dX8_snip_19 : decode cX8_snip 19 = .ok (.iconst 1, 1) := by decide +kernel
theorem dX8_snip_20 : decode cX8_snip 20 = .ok (.if_icmp .ne 6, 3) := by decide +kernel
theorem dX8_snip_23 : decode cX8_snip 23 = .ok (.bipush (-3), 2) := by decide +kernel
theorem dX8_snip_25 : decode cX8_snip 25 = .ok (.ireturn, 1) := by decide +kernel
theorem dX8_snip_26 : decode cX8_snip 26 = .ok (.aload_n 0, 1) := by decide +kernel
theorem dX8_snip_27 : decode cX8_snip 27 = .ok (.invokevirtual 160, 3) := by decide +kernel
theorem dX8_snip_30 : decode cX8_snip 30 = .ok (.aload_n 0, 1) := by decide +kernel
theorem dX8_snip_31 : decode cX8_snip 31 = .ok (.iconst 0, 1) := by decide +kernel
theorem dX8_snip_32 : decode cX8_snip 32 = .ok (.iload_n 1, 1) := by decide +kernel
theorem dX8_snip_33 : decode cX8_snip 33 = .ok (.invokevirtual 95, 3) := by decide +kernel
theorem dX8_snip_36 : decode cX8_snip 36 = .ok (.aload_n 0, 1) := by decide +kernel
theorem dX8_snip_37 : decode cX8_snip 37 = .ok (.iconst 0, 1) := by decide +kernel
theorem dX8_snip_38 : decode cX8_snip 38 = .ok (.iload_n 1, 1) := by decide +kernel
theorem dX8_snip_39 : decode cX8_snip 39 = .ok (.aload_n 0, 1) := by decide +kernel
theorem dX8_snip_40 : decode cX8_snip 40 = .ok (.getfield 13, 3) := by decide +kernel
theorem dX8_snip_43 : decode cX8_snip 43 = .ok (.iconst 4, 1) := by decide +kernel
theorem dX8_snip_44 : decode cX8_snip 44 = .ok (.iload_n 1, 1) := by decide +kernel
theorem dX8_snip_45 : decode cX8_snip 45 = .ok (.iadd, 1) := by decide +kernel
theorem dX8_snip_46 : decode cX8_snip 46 = .ok (.iaload, 1) := by decide +kernel
theorem dX8_snip_47 : decode cX8_snip 47 = .ok (.invokevirtual 122, 3) := by decide +kernel
theorem dX8_snip_50 : decode cX8_snip 50 = .ok (.ireturn, 1) := by decide +kernel
theorem dX8_join_0 : decode cX8_join 0 = .ok (.aload_n 0, 1) := by decide +kernel
theorem dX8_join_1 : decode cX8_join 1 = .ok (.iconst 0, 1) := by decide +kernel
theorem dX8_join_2 : decode cX8_join 2 = .ok (.iload_n 1, 1) := by decide +kernel
theorem dX8_join_3 : decode cX8_join 3 = .ok (.invokevirtual 99, 3) := by decide +kernel
theorem dX8_join_6 : decode cX8_join 6 = .ok (.ifCond .eq 12, 3) := by decide +kernel
theorem dX8_join_9 : decode cX8_join 9 = .ok (.aload_n 0, 1) := by decide +kernel
theorem dX8_join_10 : decode cX8_join 10 = .ok (.iconst 0, 1) := by decide +kernel
theorem dX8_join_11 : decode cX8_join 11 = .ok (.iload_n 2, 1) := by decide +kernel
theorem dX8_join_12 : decode cX8_join 12 = .ok (.invokevirtual 99, 3) := by decide +kernel
theorem dX8_join_15 : decode cX8_join 15 = .ok (.ifCond .ne 5, 3) := by decide +kernel
theorem dX8_join_18 : decode cX8_join 18 = .ok (.iconst (-1), 1) := by decide +kernel
theorem dX8_join_19 : decode cX8_join 19 = .ok (.ireturn, 1) := by decide +kernel
theorem dX8_join_20 : decode cX8_join 20 = .ok (.iload_n 1, 1) := by decide +kernel
theorem dX8_join_21 : decode cX8_join 21 = .ok (.iload_n 2, 1) := by decide +kernel
theorem dX8_join_22 : decode cX8_join 22 = .ok (.if_icmp .ne 6, 3) := by decide +kernel
theorem dX8_join_25 : decode cX8_join 25 = .ok (.bipush (-2), 2) := by decide +kernel
theorem dX8_join_27 : decode cX8_join 27 = .ok (.ireturn, 1) := by decide +kernel
theorem dX8_join_28 : decode cX8_join 28 = .ok (.aload_n 0, 1) := by decide +kernel
theorem dX8_join_29 : decode cX8_join 29 = .ok (.iconst 0, 1) := by decide +kernel
theorem dX8_join_30 : decode cX8_join 30 = .ok (.iload_n 1, 1) := by decide +kernel
theorem dX8_join_31 : decode cX8_join 31 = .ok (.iload_n 2, 1) := by decide +kernel
theorem dX8_join_32 : decode cX8_join 32 = .ok (.invokevirtual 129, 3) := by decide +kernel
theorem dX8_join_35 : decode cX8_join 35 = .ok (.ifCond .ne 6, 3) := by decide +kernel
theorem dX8_join_38 : decode cX8_join 38 = .ok (.bipush (-3), 2) := by decide +kernel
theorem dX8_join_40 : decode cX8_join 40 = .ok (.ireturn, 1) := by decide +kernel
theorem dX8_join_41 : decode cX8_join 41 = .ok (.aload_n 0, 1) := by decide +kernel
theorem dX8_join_42 : decode cX8_join 42 = .ok (.iconst 0, 1) := by decide +kernel
theorem dX8_join_43 : decode cX8_join 43 = .ok (.iload_n 1, 1) := by decide +kernel
theorem dX8_join_44 : decode cX8_join 44 = .ok (.iload_n 2, 1) := by decide +kernel
theorem dX8_join_45 : decode cX8_join 45 = .ok (.invokevirtual 171, 3) := by decide +kernel
theorem dX8_join_48 : decode cX8_join 48 = .ok (.ifCond .ne 6, 3) := by decide +kernel
theorem dX8_join_51 : decode cX8_join 51 = .ok (.bipush (-4), 2) := by decide +kernel
theorem dX8_join_53 : decode cX8_join 53 = .ok (.ireturn, 1) := by decide +kernel
theorem dX8_join_54 : decode cX8_join 54 = .ok (.aload_n 0, 1) := by decide +kernel
theorem dX8_join_55 : decode cX8_join 55 = .ok (.invokevirtual 160, 3) := by decide +kernel
theorem dX8_join_58 : decode cX8_join 58 = .ok (.aload_n 0, 1) := by decide +kernel
theorem dX8_join_59 : decode cX8_join 59 = .ok (.iconst 0, 1) := by decide +kernel
theorem dX8_join_60 : decode cX8_join 60 = .ok (.iload_n 1, 1) := by decide +kernel
theorem dX8_join_61 : decode cX8_join 61 = .ok (.iload_n 2, 1) := by decide +kernel
theorem dX8_join_62 : decode cX8_join 62 = .ok (.invokevirtual 174, 3) := by decide +kernel
theorem dX8_join_65 : decode cX8_join 65 = .ok (.aload_n 0, 1) := by decide +kernel
theorem dX8_join_66 : decode cX8_join 66 = .ok (.getfield 13, 3) := by decide +kernel
theorem dX8_join_69 : decode cX8_join 69 = .ok (.iconst 4, 1) := by decide +kernel
theorem dX8_join_70 : decode cX8_join 70 = .ok (.iload_n 1, 1) := by decide +kernel
theorem dX8_join_71 : decode cX8_join 71 = .ok (.iadd, 1) := by decide +kernel
theorem dX8_join_72 : decode cX8_join 72 = .ok (.iaload, 1) := by decide +kernel
theorem dX8_join_73 : decode cX8_join 73 = .ok (.ireturn, 1) := by decide +kernel
theorem dX8_undo_0 : decode cX8_undo 0 = .ok (.aload_n 0, 1) := by decide +kernel
theorem dX8_undo_1 : decode cX8_undo 1 = .ok (.getfield 92, 3) := by decide +kernel
theorem dX8_undo_4 : decode cX8_undo 4 = .ok (.ifCond .ne 6, 3) := by decide +kernel
theorem dX8_undo_7 : decode cX8_undo 7 = .ok (.bipush (-3), 2) := by decide +kernel
theorem dX8_undo_9 : decode cX8_undo 9 = .ok (.ireturn, 1) := by decide +kernel
theorem dX8_undo_10 : decode cX8_undo 10 = .ok (.aload_n 0, 1) := by decide +kernel
theorem dX8_undo_11 : decode cX8_undo 11 = .ok (.dup, 1) := by decide +kernel
theorem dX8_undo_12 : decode cX8_undo 12 = .ok (.getfield 92, 3) := by decide +kernel
theorem dX8_undo_15 : decode cX8_undo 15 = .ok (.iconst 1, 1) := by decide +kernel
theorem dX8_undo_16 : decode cX8_undo 16 = .ok (.isub, 1) := by decide +kernel
theorem dX8_undo_17 : decode cX8_undo 17 = .ok (.putfield 92, 3) := by decide +kernel
theorem dX8_undo_20 : decode cX8_undo 20 = .ok (.aload_n 0, 1) := by decide +kernel
theorem dX8_undo_21 : decode cX8_undo 21 = .ok (.aload_n 0, 1) := by decide +kernel
theorem dX8_undo_22 : decode cX8_undo 22 = .ok (.getfield 157, 3) := by decide +kernel
theorem dX8_undo_25 : decode cX8_undo 25 = .ok (.bipush 13, 2) := by decide +kernel
theorem dX8_undo_27 : decode cX8_undo 27 = .ok (.iadd, 1) := by decide +kernel
theorem dX8_undo_28 : decode cX8_undo 28 = .ok (.bipush 14, 2) := by decide +kernel
theorem dX8_undo_30 : decode cX8_undo 30 = .ok (.irem, 1) := by decide +kernel
theorem dX8_undo_31 : decode cX8_undo 31 = .ok (.putfield 157, 3) := by decide +kernel
theorem dX8_undo_34 : decode cX8_undo 34 = .ok (.iconst 0, 1) := by decide +kernel
theorem dX8_undo_35 : decode cX8_undo 35 = .ok (.istore_n 1, 1) := by decide +kernel
theorem dX8_undo_36 : decode cX8_undo 36 = .ok (.iload_n 1, 1) := by decide +kernel
theorem dX8_undo_37 : decode cX8_undo 37 = .ok (.bipush 57, 2) := by decide +kernel
theorem dX8_undo_39 : decode cX8_undo 39 = .ok (.if_icmp .ge 29, 3) := by decide +kernel
theorem dX8_undo_42 : decode cX8_undo 42 = .ok (.aload_n 0, 1) := by decide +kernel
theorem dX8_undo_43 : decode cX8_undo 43 = .ok (.getfield 13, 3) := by decide +kernel
theorem dX8_undo_46 : decode cX8_undo 46 = .ok (.iload_n 1, 1) := by decide +kernel
theorem dX8_undo_47 : decode cX8_undo 47 = .ok (.aload_n 0, 1) := by decide +kernel
theorem dX8_undo_48 : decode cX8_undo 48 = .ok (.getfield 31, 3) := by decide +kernel
theorem dX8_undo_51 : decode cX8_undo 51 = .ok (.bipush 57, 2) := by decide +kernel
theorem dX8_undo_53 : decode cX8_undo 53 = .ok (.aload_n 0, 1) := by decide +kernel
theorem dX8_undo_54 : decode cX8_undo 54 = .ok (.getfield 157, 3) := by decide +kernel
theorem dX8_undo_57 : decode cX8_undo 57 = .ok (.imul, 1) := by decide +kernel
theorem dX8_undo_58 : decode cX8_undo 58 = .ok (.iload_n 1, 1) := by decide +kernel
theorem dX8_undo_59 : decode cX8_undo 59 = .ok (.iadd, 1) := by decide +kernel
theorem dX8_undo_60 : decode cX8_undo 60 = .ok (.iaload, 1) := by decide +kernel
theorem dX8_undo_61 : decode cX8_undo 61 = .ok (.iastore, 1) := by decide +kernel
theorem dX8_undo_62 : decode cX8_undo 62 = .ok (.iinc 1 1, 3) := by decide +kernel
theorem dX8_undo_65 : decode cX8_undo 65 = .ok (.goto (-29), 3) := by decide +kernel
theorem dX8_undo_68 : decode cX8_undo 68 = .ok (.aload_n 0, 1) := by decide +kernel
theorem dX8_undo_69 : decode cX8_undo 69 = .ok (.getfield 92, 3) := by decide +kernel
theorem dX8_undo_72 : decode cX8_undo 72 = .ok (.ireturn, 1) := by decide +kernel
theorem dX8_layTrial_0 : decode cX8_layTrial 0 = .ok (.iconst 0, 1) := by decide +kernel
theorem dX8_layTrial_1 : decode cX8_layTrial 1 = .ok (.istore_n 1, 1) := by decide +kernel
theorem dX8_layTrial_2 : decode cX8_layTrial 2 = .ok (.iload_n 1, 1) := by decide +kernel
theorem dX8_layTrial_3 : decode cX8_layTrial 3 = .ok (.bipush 57, 2) := by decide +kernel
theorem dX8_layTrial_5 : decode cX8_layTrial 5 = .ok (.if_icmp .ge 24, 3) := by decide +kernel
theorem dX8_layTrial_8 : decode cX8_layTrial 8 = .ok (.aload_n 0, 1) := by decide +kernel
theorem dX8_layTrial_9 : decode cX8_layTrial 9 = .ok (.getfield 13, 3) := by decide +kernel
theorem dX8_layTrial_12 : decode cX8_layTrial 12 = .ok (.bipush 57, 2) := by decide +kernel
theorem dX8_layTrial_14 : decode cX8_layTrial 14 = .ok (.iload_n 1, 1) := by decide +kernel
theorem dX8_layTrial_15 : decode cX8_layTrial 15 = .ok (.iadd, 1) := by decide +kernel
theorem dX8_layTrial_16 : decode cX8_layTrial 16 = .ok (.aload_n 0, 1) := by decide +kernel
theorem dX8_layTrial_17 : decode cX8_layTrial 17 = .ok (.getfield 13, 3) := by decide +kernel
theorem dX8_layTrial_20 : decode cX8_layTrial 20 = .ok (.iload_n 1, 1) := by decide +kernel
theorem dX8_layTrial_21 : decode cX8_layTrial 21 = .ok (.iaload, 1) := by decide +kernel
theorem dX8_layTrial_22 : decode cX8_layTrial 22 = .ok (.iastore, 1) := by decide +kernel
theorem dX8_layTrial_23 : decode cX8_layTrial 23 = .ok (.iinc 1 1, 3) := by decide +kernel
theorem dX8_layTrial_26 : decode cX8_layTrial 26 = .ok (.goto (-24), 3) := by decide +kernel
theorem dX8_layTrial_29 : decode cX8_layTrial 29 = .ok (.return_, 1) := by decide +kernel
theorem dX8_later_0 : decode cX8_later 0 = .ok (.aload_n 0, 1) := by decide +kernel
theorem dX8_later_1 : decode cX8_later 1 = .ok (.iconst 0, 1) := by decide +kernel
theorem dX8_later_2 : decode cX8_later 2 = .ok (.iload_n 1, 1) := by decide +kernel
theorem dX8_later_3 : decode cX8_later 3 = .ok (.invokevirtual 99, 3) := by decide +kernel
theorem dX8_later_6 : decode cX8_later 6 = .ok (.ifCond .ne 5, 3) := by decide +kernel
theorem dX8_later_9 : decode cX8_later 9 = .ok (.iconst (-1), 1) := by decide +kernel
theorem dX8_later_10 : decode cX8_later 10 = .ok (.ireturn, 1) := by decide +kernel
theorem dX8_later_11 : decode cX8_later 11 = .ok (.iload_n 2, 1) := by decide +kernel
theorem dX8_later_12 : decode cX8_later 12 = .ok (.i2l, 1) := by decide +kernel
theorem dX8_later_13 : decode cX8_later 13 = .ok (.lconst 0, 1) := by decide +kernel
theorem dX8_later_14 : decode cX8_later 14 = .ok (.ldc2_w 178, 3) := by decide +kernel
theorem dX8_later_17 : decode cX8_later 17 = .ok (.invokestatic 52, 3) := by decide +kernel
theorem dX8_later_20 : decode cX8_later 20 = .ok (.ifCond .ne 6, 3) := by decide +kernel
theorem dX8_later_23 : decode cX8_later 23 = .ok (.bipush (-2), 2) := by decide +kernel
theorem dX8_later_25 : decode cX8_later 25 = .ok (.ireturn, 1) := by decide +kernel
theorem dX8_later_26 : decode cX8_later 26 = .ok (.aload_n 0, 1) := by decide +kernel
theorem dX8_later_27 : decode cX8_later 27 = .ok (.invokevirtual 180, 3) := by decide +kernel
theorem dX8_later_30 : decode cX8_later 30 = .ok (.iconst 0, 1) := by decide +kernel
theorem dX8_later_31 : decode cX8_later 31 = .ok (.istore_n 3, 1) := by decide +kernel
theorem dX8_later_32 : decode cX8_later 32 = .ok (.iload_n 3, 1) := by decide +kernel
theorem dX8_later_33 : decode cX8_later 33 = .ok (.iload_n 2, 1) := by decide +kernel
theorem dX8_later_34 : decode cX8_later 34 = .ok (.if_icmp .ge 15, 3) := by decide +kernel
theorem dX8_later_37 : decode cX8_later 37 = .ok (.aload_n 0, 1) := by decide +kernel
theorem dX8_later_38 : decode cX8_later 38 = .ok (.iconst 1, 1) := by decide +kernel
theorem dX8_later_39 : decode cX8_later 39 = .ok (.invokevirtual 163, 3) := by decide +kernel
theorem dX8_later_42 : decode cX8_later 42 = .ok (.pop, 1) := by decide +kernel
theorem dX8_later_43 : decode cX8_later 43 = .ok (.iinc 3 1, 3) := by decide +kernel
theorem dX8_later_46 : decode cX8_later 46 = .ok (.goto (-14), 3) := by decide +kernel
theorem dX8_later_49 : decode cX8_later 49 = .ok (.aload_n 0, 1) := by decide +kernel
theorem dX8_later_50 : decode cX8_later 50 = .ok (.getfield 13, 3) := by decide +kernel
theorem dX8_later_53 : decode cX8_later 53 = .ok (.bipush 61, 2) := by decide +kernel
theorem dX8_later_55 : decode cX8_later 55 = .ok (.iload_n 1, 1) := by decide +kernel
theorem dX8_later_56 : decode cX8_later 56 = .ok (.iadd, 1) := by decide +kernel
theorem dX8_later_57 : decode cX8_later 57 = .ok (.iaload, 1) := by decide +kernel
theorem dX8_later_58 : decode cX8_later 58 = .ok (.ireturn, 1) := by decide +kernel
theorem dX8_lasts_0 : decode cX8_lasts 0 = .ok (.aload_n 0, 1) := by decide +kernel
theorem dX8_lasts_1 : decode cX8_lasts 1 = .ok (.iconst 0, 1) := by decide +kernel
theorem dX8_lasts_2 : decode cX8_lasts 2 = .ok (.iload_n 1, 1) := by decide +kernel
theorem dX8_lasts_3 : decode cX8_lasts 3 = .ok (.invokevirtual 99, 3) := by decide +kernel
theorem dX8_lasts_6 : decode cX8_lasts 6 = .ok (.ifCond .ne 5, 3) := by decide +kernel
theorem dX8_lasts_9 : decode cX8_lasts 9 = .ok (.iconst (-1), 1) := by decide +kernel
theorem dX8_lasts_10 : decode cX8_lasts 10 = .ok (.ireturn, 1) := by decide +kernel
theorem dX8_lasts_11 : decode cX8_lasts 11 = .ok (.aload_n 0, 1) := by decide +kernel
theorem dX8_lasts_12 : decode cX8_lasts 12 = .ok (.invokevirtual 180, 3) := by decide +kernel
theorem dX8_lasts_15 : decode cX8_lasts 15 = .ok (.iconst 1, 1) := by decide +kernel
theorem dX8_lasts_16 : decode cX8_lasts 16 = .ok (.istore_n 2, 1) := by decide +kernel
theorem dX8_lasts_17 : decode cX8_lasts 17 = .ok (.iload_n 2, 1) := by decide +kernel
theorem dX8_lasts_18 : decode cX8_lasts 18 = .ok (.bipush 21, 2) := by decide +kernel
theorem dX8_lasts_20 : decode cX8_lasts 20 = .ok (.if_icmp .ge 26, 3) := by decide +kernel
theorem dX8_lasts_23 : decode cX8_lasts 23 = .ok (.aload_n 0, 1) := by decide +kernel
theorem dX8_lasts_24 : decode cX8_lasts 24 = .ok (.iconst 1, 1) := by decide +kernel
theorem dX8_lasts_25 : decode cX8_lasts 25 = .ok (.invokevirtual 163, 3) := by decide +kernel
theorem dX8_lasts_28 : decode cX8_lasts 28 = .ok (.pop, 1) := by decide +kernel
theorem dX8_lasts_29 : decode cX8_lasts 29 = .ok (.aload_n 0, 1) := by decide +kernel
theorem dX8_lasts_30 : decode cX8_lasts 30 = .ok (.iconst 1, 1) := by decide +kernel
theorem dX8_lasts_31 : decode cX8_lasts 31 = .ok (.iload_n 1, 1) := by decide +kernel
theorem dX8_lasts_32 : decode cX8_lasts 32 = .ok (.invokevirtual 99, 3) := by decide +kernel
theorem dX8_lasts_35 : decode cX8_lasts 35 = .ok (.ifCond .ne 5, 3) := by decide +kernel
theorem dX8_lasts_38 : decode cX8_lasts 38 = .ok (.iload_n 2, 1) := by decide +kernel
theorem dX8_lasts_39 : decode cX8_lasts 39 = .ok (.ireturn, 1) := by decide +kernel
theorem dX8_lasts_40 : decode cX8_lasts 40 = .ok (.iinc 2 1, 3) := by decide +kernel
theorem dX8_lasts_43 : decode cX8_lasts 43 = .ok (.goto (-26), 3) := by decide +kernel
theorem dX8_lasts_46 : decode cX8_lasts 46 = .ok (.bipush (-9), 2) := by decide +kernel
theorem dX8_lasts_48 : decode cX8_lasts 48 = .ok (.ireturn, 1) := by decide +kernel
theorem dX8_overlap_0 : decode cX8_overlap 0 = .ok (.aload_n 0, 1) := by decide +kernel
theorem dX8_overlap_1 : decode cX8_overlap 1 = .ok (.iconst 0, 1) := by decide +kernel
theorem dX8_overlap_2 : decode cX8_overlap 2 = .ok (.iload_n 1, 1) := by decide +kernel
theorem dX8_overlap_3 : decode cX8_overlap 3 = .ok (.invokevirtual 99, 3) := by decide +kernel
theorem dX8_overlap_6 : decode cX8_overlap 6 = .ok (.ifCond .eq 12, 3) := by decide +kernel
theorem dX8_overlap_9 : decode cX8_overlap 9 = .ok (.aload_n 0, 1) := by decide +kernel
theorem dX8_overlap_10 : decode cX8_overlap 10 = .ok (.iconst 0, 1) := by decide +kernel
theorem dX8_overlap_11 : decode cX8_overlap 11 = .ok (.iload_n 2, 1) := by decide +kernel
theorem dX8_overlap_12 : decode cX8_overlap 12 = .ok (.invokevirtual 99, 3) := by decide +kernel
theorem dX8_overlap_15 : decode cX8_overlap 15 = .ok (.ifCond .ne 5, 3) := by decide +kernel
theorem dX8_overlap_18 : decode cX8_overlap 18 = .ok (.iconst (-1), 1) := by decide +kernel
theorem dX8_overlap_19 : decode cX8_overlap 19 = .ok (.ireturn, 1) := by decide +kernel
theorem dX8_overlap_20 : decode cX8_overlap 20 = .ok (.iload_n 1, 1) := by decide +kernel
theorem dX8_overlap_21 : decode cX8_overlap 21 = .ok (.iload_n 2, 1) := by decide +kernel
theorem dX8_overlap_22 : decode cX8_overlap 22 = .ok (.if_icmp .ne 8, 3) := by decide +kernel
theorem dX8_overlap_25 : decode cX8_overlap 25 = .ok (.bipush (-2), 2) := by decide +kernel
theorem dX8_overlap_27 : decode cX8_overlap 27 = .ok (.goto 10, 3) := by decide +kernel
theorem dX8_overlap_30 : decode cX8_overlap 30 = .ok (.aload_n 0, 1) := by decide +kernel
theorem dX8_overlap_31 : decode cX8_overlap 31 = .ok (.iconst 0, 1) := by decide +kernel
theorem dX8_overlap_32 : decode cX8_overlap 32 = .ok (.iload_n 1, 1) := by decide +kernel
theorem dX8_overlap_33 : decode cX8_overlap 33 = .ok (.iload_n 2, 1) := by decide +kernel
theorem dX8_overlap_34 : decode cX8_overlap 34 = .ok (.invokevirtual 126, 3) := by decide +kernel
theorem dX8_overlap_37 : decode cX8_overlap 37 = .ok (.ireturn, 1) := by decide +kernel
theorem dX8_flowOn_0 : decode cX8_flowOn 0 = .ok (.aload_n 0, 1) := by decide +kernel
theorem dX8_flowOn_1 : decode cX8_flowOn 1 = .ok (.getfield 13, 3) := by decide +kernel
theorem dX8_flowOn_4 : decode cX8_flowOn 4 = .ok (.iconst 4, 1) := by decide +kernel
theorem dX8_flowOn_5 : decode cX8_flowOn 5 = .ok (.iload_n 1, 1) := by decide +kernel
theorem dX8_flowOn_6 : decode cX8_flowOn 6 = .ok (.iadd, 1) := by decide +kernel
theorem dX8_flowOn_7 : decode cX8_flowOn 7 = .ok (.iaload, 1) := by decide +kernel
theorem dX8_flowOn_8 : decode cX8_flowOn 8 = .ok (.istore_n 2, 1) := by decide +kernel
theorem dX8_flowOn_9 : decode cX8_flowOn 9 = .ok (.aload_n 0, 1) := by decide +kernel
theorem dX8_flowOn_10 : decode cX8_flowOn 10 = .ok (.getfield 183, 3) := by decide +kernel
theorem dX8_flowOn_13 : decode cX8_flowOn 13 = .ok (.iload_n 2, 1) := by decide +kernel
theorem dX8_flowOn_14 : decode cX8_flowOn 14 = .ok (.if_icmp .ge 10, 3) := by decide +kernel
theorem dX8_flowOn_17 : decode cX8_flowOn 17 = .ok (.aload_n 0, 1) := by decide +kernel
theorem dX8_flowOn_18 : decode cX8_flowOn 18 = .ok (.getfield 183, 3) := by decide +kernel
end
section
theorem dX8_flowOn_21 : decode cX8_flowOn 21 = .ok (.goto 4, 3) := by decide +kernel
theorem dX8_flowOn_24 : decode cX8_flowOn 24 = .ok (.iload_n 2, 1) := by decide +kernel
theorem dX8_flowOn_25 : decode cX8_flowOn 25 = .ok (.istore_n 3, 1) := by decide +kernel
theorem dX8_flowOn_26 : decode cX8_flowOn 26 = .ok (.iload_n 3, 1) := by decide +kernel
theorem dX8_flowOn_27 : decode cX8_flowOn 27 = .ok (.ifCond .le 18, 3) := by decide +kernel
theorem dX8_flowOn_30 : decode cX8_flowOn 30 = .ok (.aload_n 0, 1) := by decide +kernel
theorem dX8_flowOn_31 : decode cX8_flowOn 31 = .ok (.iload_n 1, 1) := by decide +kernel
theorem dX8_flowOn_32 : decode cX8_flowOn 32 = .ok (.iload_n 3, 1) := by decide +kernel
theorem dX8_flowOn_33 : decode cX8_flowOn 33 = .ok (.invokevirtual 186, 3) := by decide +kernel
theorem dX8_flowOn_36 : decode cX8_flowOn 36 = .ok (.ifCond .ne 9, 3) := by decide +kernel
theorem dX8_flowOn_39 : decode cX8_flowOn 39 = .ok (.iinc 3 (-1), 3) := by decide +kernel
theorem dX8_flowOn_42 : decode cX8_flowOn 42 = .ok (.goto (-16), 3) := by decide +kernel
theorem dX8_flowOn_45 : decode cX8_flowOn 45 = .ok (.iload_n 3, 1) := by decide +kernel
theorem dX8_flowOn_46 : decode cX8_flowOn 46 = .ok (.istore 4, 2) := by decide +kernel
theorem dX8_flowOn_48 : decode cX8_flowOn 48 = .ok (.iload 4, 2) := by decide +kernel
theorem dX8_flowOn_50 : decode cX8_flowOn 50 = .ok (.iload_n 2, 1) := by decide +kernel
theorem dX8_flowOn_51 : decode cX8_flowOn 51 = .ok (.if_icmp .ge 31, 3) := by decide +kernel
theorem dX8_flowOn_54 : decode cX8_flowOn 54 = .ok (.aload_n 0, 1) := by decide +kernel
theorem dX8_flowOn_55 : decode cX8_flowOn 55 = .ok (.getfield 34, 3) := by decide +kernel
theorem dX8_flowOn_58 : decode cX8_flowOn 58 = .ok (.aload_n 0, 1) := by decide +kernel
theorem dX8_flowOn_59 : decode cX8_flowOn 59 = .ok (.getfield 183, 3) := by decide +kernel
theorem dX8_flowOn_62 : decode cX8_flowOn 62 = .ok (.iload 4, 2) := by decide +kernel
theorem dX8_flowOn_64 : decode cX8_flowOn 64 = .ok (.iadd, 1) := by decide +kernel
theorem dX8_flowOn_65 : decode cX8_flowOn 65 = .ok (.iload_n 3, 1) := by decide +kernel
theorem dX8_flowOn_66 : decode cX8_flowOn 66 = .ok (.isub, 1) := by decide +kernel
theorem dX8_flowOn_67 : decode cX8_flowOn 67 = .ok (.aload_n 0, 1) := by decide +kernel
theorem dX8_flowOn_68 : decode cX8_flowOn 68 = .ok (.iconst 0, 1) := by decide +kernel
theorem dX8_flowOn_69 : decode cX8_flowOn 69 = .ok (.iload_n 1, 1) := by decide +kernel
theorem dX8_flowOn_70 : decode cX8_flowOn 70 = .ok (.iload 4, 2) := by decide +kernel
theorem dX8_flowOn_72 : decode cX8_flowOn 72 = .ok (.invokevirtual 122, 3) := by decide +kernel
theorem dX8_flowOn_75 : decode cX8_flowOn 75 = .ok (.iastore, 1) := by decide +kernel
theorem dX8_flowOn_76 : decode cX8_flowOn 76 = .ok (.iinc 4 1, 3) := by decide +kernel
theorem dX8_flowOn_79 : decode cX8_flowOn 79 = .ok (.goto (-31), 3) := by decide +kernel
theorem dX8_flowOn_82 : decode cX8_flowOn 82 = .ok (.aload_n 0, 1) := by decide +kernel
theorem dX8_flowOn_83 : decode cX8_flowOn 83 = .ok (.dup, 1) := by decide +kernel
theorem dX8_flowOn_84 : decode cX8_flowOn 84 = .ok (.getfield 183, 3) := by decide +kernel
theorem dX8_flowOn_87 : decode cX8_flowOn 87 = .ok (.iload_n 2, 1) := by decide +kernel
theorem dX8_flowOn_88 : decode cX8_flowOn 88 = .ok (.iload_n 3, 1) := by decide +kernel
theorem dX8_flowOn_89 : decode cX8_flowOn 89 = .ok (.isub, 1) := by decide +kernel
theorem dX8_flowOn_90 : decode cX8_flowOn 90 = .ok (.iadd, 1) := by decide +kernel
theorem dX8_flowOn_91 : decode cX8_flowOn 91 = .ok (.putfield 183, 3) := by decide +kernel
theorem dX8_flowOn_94 : decode cX8_flowOn 94 = .ok (.return_, 1) := by decide +kernel
theorem dX8_goesOn_0 : decode cX8_goesOn 0 = .ok (.iconst 1, 1) := by decide +kernel
theorem dX8_goesOn_1 : decode cX8_goesOn 1 = .ok (.istore_n 3, 1) := by decide +kernel
theorem dX8_goesOn_2 : decode cX8_goesOn 2 = .ok (.iconst 0, 1) := by decide +kernel
theorem dX8_goesOn_3 : decode cX8_goesOn 3 = .ok (.istore 4, 2) := by decide +kernel
theorem dX8_goesOn_5 : decode cX8_goesOn 5 = .ok (.iload 4, 2) := by decide +kernel
theorem dX8_goesOn_7 : decode cX8_goesOn 7 = .ok (.iload_n 2, 1) := by decide +kernel
theorem dX8_goesOn_8 : decode cX8_goesOn 8 = .ok (.if_icmp .ge 44, 3) := by decide +kernel
theorem dX8_goesOn_11 : decode cX8_goesOn 11 = .ok (.iload_n 3, 1) := by decide +kernel
theorem dX8_goesOn_12 : decode cX8_goesOn 12 = .ok (.ifCond .eq 32, 3) := by decide +kernel
theorem dX8_goesOn_15 : decode cX8_goesOn 15 = .ok (.aload_n 0, 1) := by decide +kernel
theorem dX8_goesOn_16 : decode cX8_goesOn 16 = .ok (.getfield 34, 3) := by decide +kernel
theorem dX8_goesOn_19 : decode cX8_goesOn 19 = .ok (.aload_n 0, 1) := by decide +kernel
theorem dX8_goesOn_20 : decode cX8_goesOn 20 = .ok (.getfield 183, 3) := by decide +kernel
theorem dX8_goesOn_23 : decode cX8_goesOn 23 = .ok (.iload_n 2, 1) := by decide +kernel
theorem dX8_goesOn_24 : decode cX8_goesOn 24 = .ok (.isub, 1) := by decide +kernel
theorem dX8_goesOn_25 : decode cX8_goesOn 25 = .ok (.iload 4, 2) := by decide +kernel
theorem dX8_goesOn_27 : decode cX8_goesOn 27 = .ok (.iadd, 1) := by decide +kernel
theorem dX8_goesOn_28 : decode cX8_goesOn 28 = .ok (.iaload, 1) := by decide +kernel
theorem dX8_goesOn_29 : decode cX8_goesOn 29 = .ok (.aload_n 0, 1) := by decide +kernel
theorem dX8_goesOn_30 : decode cX8_goesOn 30 = .ok (.iconst 0, 1) := by decide +kernel
theorem dX8_goesOn_31 : decode cX8_goesOn 31 = .ok (.iload_n 1, 1) := by decide +kernel
theorem dX8_goesOn_32 : decode cX8_goesOn 32 = .ok (.iload 4, 2) := by decide +kernel
theorem dX8_goesOn_34 : decode cX8_goesOn 34 = .ok (.invokevirtual 122, 3) := by decide +kernel
theorem dX8_goesOn_37 : decode cX8_goesOn 37 = .ok (.if_icmp .ne 7, 3) := by decide +kernel
theorem dX8_goesOn_40 : decode cX8_goesOn 40 = .ok (.iconst 1, 1) := by decide +kernel
theorem dX8_goesOn_41 : decode cX8_goesOn 41 = .ok (.goto 4, 3) := by decide +kernel
theorem dX8_goesOn_44 : decode cX8_goesOn 44 = .ok (.iconst 0, 1) := by decide +kernel
theorem dX8_goesOn_45 : decode cX8_goesOn 45 = .ok (.istore_n 3, 1) := by decide +kernel
theorem dX8_goesOn_46 : decode cX8_goesOn 46 = .ok (.iinc 4 1, 3) := by decide +kernel
theorem dX8_goesOn_49 : decode cX8_goesOn 49 = .ok (.goto (-44), 3) := by decide +kernel
theorem dX8_goesOn_52 : decode cX8_goesOn 52 = .ok (.iload_n 3, 1) := by decide +kernel
theorem dX8_goesOn_53 : decode cX8_goesOn 53 = .ok (.ireturn, 1) := by decide +kernel
theorem dX8_riverBy_0 : decode cX8_riverBy 0 = .ok (.iconst 0, 1) := by decide +kernel
theorem dX8_riverBy_1 : decode cX8_riverBy 1 = .ok (.istore_n 3, 1) := by decide +kernel
theorem dX8_riverBy_2 : decode cX8_riverBy 2 = .ok (.iconst 1, 1) := by decide +kernel
theorem dX8_riverBy_3 : decode cX8_riverBy 3 = .ok (.istore 4, 2) := by decide +kernel
theorem dX8_riverBy_5 : decode cX8_riverBy 5 = .ok (.iconst 1, 1) := by decide +kernel
theorem dX8_riverBy_6 : decode cX8_riverBy 6 = .ok (.istore 5, 2) := by decide +kernel
theorem dX8_riverBy_8 : decode cX8_riverBy 8 = .ok (.iload 5, 2) := by decide +kernel
theorem dX8_riverBy_10 : decode cX8_riverBy 10 = .ok (.iload_n 2, 1) := by decide +kernel
theorem dX8_riverBy_11 : decode cX8_riverBy 11 = .ok (.if_icmp .ge 16, 3) := by decide +kernel
theorem dX8_riverBy_14 : decode cX8_riverBy 14 = .ok (.iload 4, 2) := by decide +kernel
theorem dX8_riverBy_16 : decode cX8_riverBy 16 = .ok (.bipush 10, 2) := by decide +kernel
theorem dX8_riverBy_18 : decode cX8_riverBy 18 = .ok (.imul, 1) := by decide +kernel
theorem dX8_riverBy_19 : decode cX8_riverBy 19 = .ok (.istore 4, 2) := by decide +kernel
theorem dX8_riverBy_21 : decode cX8_riverBy 21 = .ok (.iinc 5 1, 3) := by decide +kernel
theorem dX8_riverBy_24 : decode cX8_riverBy 24 = .ok (.goto (-16), 3) := by decide +kernel
theorem dX8_riverBy_27 : decode cX8_riverBy 27 = .ok (.aload_n 0, 1) := by decide +kernel
theorem dX8_riverBy_28 : decode cX8_riverBy 28 = .ok (.iconst 0, 1) := by decide +kernel
theorem dX8_riverBy_29 : decode cX8_riverBy 29 = .ok (.putfield 183, 3) := by decide +kernel
theorem dX8_riverBy_32 : decode cX8_riverBy 32 = .ok (.iconst 0, 1) := by decide +kernel
theorem dX8_riverBy_33 : decode cX8_riverBy 33 = .ok (.istore 5, 2) := by decide +kernel
theorem dX8_riverBy_35 : decode cX8_riverBy 35 = .ok (.iload 5, 2) := by decide +kernel
theorem dX8_riverBy_37 : decode cX8_riverBy 37 = .ok (.iload_n 2, 1) := by decide +kernel
theorem dX8_riverBy_38 : decode cX8_riverBy 38 = .ok (.if_icmp .ge 62, 3) := by decide +kernel
theorem dX8_riverBy_41 : decode cX8_riverBy 41 = .ok (.iload_n 1, 1) := by decide +kernel
theorem dX8_riverBy_42 : decode cX8_riverBy 42 = .ok (.iload 4, 2) := by decide +kernel
theorem dX8_riverBy_44 : decode cX8_riverBy 44 = .ok (.idiv, 1) := by decide +kernel
theorem dX8_riverBy_45 : decode cX8_riverBy 45 = .ok (.bipush 10, 2) := by decide +kernel
theorem dX8_riverBy_47 : decode cX8_riverBy 47 = .ok (.irem, 1) := by decide +kernel
theorem dX8_riverBy_48 : decode cX8_riverBy 48 = .ok (.iconst 1, 1) := by decide +kernel
theorem dX8_riverBy_49 : decode cX8_riverBy 49 = .ok (.isub, 1) := by decide +kernel
theorem dX8_riverBy_50 : decode cX8_riverBy 50 = .ok (.istore 6, 2) := by decide +kernel
theorem dX8_riverBy_52 : decode cX8_riverBy 52 = .ok (.iload 4, 2) := by decide +kernel
theorem dX8_riverBy_54 : decode cX8_riverBy 54 = .ok (.bipush 10, 2) := by decide +kernel
theorem dX8_riverBy_56 : decode cX8_riverBy 56 = .ok (.idiv, 1) := by decide +kernel
theorem dX8_riverBy_57 : decode cX8_riverBy 57 = .ok (.istore 4, 2) := by decide +kernel
theorem dX8_riverBy_59 : decode cX8_riverBy 59 = .ok (.aload_n 0, 1) := by decide +kernel
theorem dX8_riverBy_60 : decode cX8_riverBy 60 = .ok (.iconst 0, 1) := by decide +kernel
theorem dX8_riverBy_61 : decode cX8_riverBy 61 = .ok (.iload 6, 2) := by decide +kernel
theorem dX8_riverBy_63 : decode cX8_riverBy 63 = .ok (.invokevirtual 99, 3) := by decide +kernel
theorem dX8_riverBy_66 : decode cX8_riverBy 66 = .ok (.ifCond .eq 12, 3) := by decide +kernel
theorem dX8_riverBy_69 : decode cX8_riverBy 69 = .ok (.iload_n 3, 1) := by decide +kernel
theorem dX8_riverBy_70 : decode cX8_riverBy 70 = .ok (.iload 6, 2) := by decide +kernel
theorem dX8_riverBy_72 : decode cX8_riverBy 72 = .ok (.invokestatic 106, 3) := by decide +kernel
theorem dX8_riverBy_75 : decode cX8_riverBy 75 = .ok (.ifCond .eq 6, 3) := by decide +kernel
theorem dX8_riverBy_78 : decode cX8_riverBy 78 = .ok (.bipush (-9), 2) := by decide +kernel
theorem dX8_riverBy_80 : decode cX8_riverBy 80 = .ok (.ireturn, 1) := by decide +kernel
theorem dX8_riverBy_81 : decode cX8_riverBy 81 = .ok (.iload_n 3, 1) := by decide +kernel
theorem dX8_riverBy_82 : decode cX8_riverBy 82 = .ok (.iconst 1, 1) := by decide +kernel
theorem dX8_riverBy_83 : decode cX8_riverBy 83 = .ok (.iload 6, 2) := by decide +kernel
theorem dX8_riverBy_85 : decode cX8_riverBy 85 = .ok (.ishl, 1) := by decide +kernel
theorem dX8_riverBy_86 : decode cX8_riverBy 86 = .ok (.ior, 1) := by decide +kernel
theorem dX8_riverBy_87 : decode cX8_riverBy 87 = .ok (.istore_n 3, 1) := by decide +kernel
theorem dX8_riverBy_88 : decode cX8_riverBy 88 = .ok (.aload_n 0, 1) := by decide +kernel
theorem dX8_riverBy_89 : decode cX8_riverBy 89 = .ok (.iload 6, 2) := by decide +kernel
theorem dX8_riverBy_91 : decode cX8_riverBy 91 = .ok (.invokevirtual 189, 3) := by decide +kernel
theorem dX8_riverBy_94 : decode cX8_riverBy 94 = .ok (.iinc 5 1, 3) := by decide +kernel
theorem dX8_riverBy_97 : decode cX8_riverBy 97 = .ok (.goto (-62), 3) := by decide +kernel
theorem dX8_riverBy_100 : decode cX8_riverBy 100 = .ok (.aload_n 0, 1) := by decide +kernel
theorem dX8_riverBy_101 : decode cX8_riverBy 101 = .ok (.getfield 183, 3) := by decide +kernel
theorem dX8_riverBy_104 : decode cX8_riverBy 104 = .ok (.ireturn, 1) := by decide +kernel
theorem dX8_river_0 : decode cX8_river 0 = .ok (.iload_n 1, 1) := by decide +kernel
theorem dX8_river_1 : decode cX8_river 1 = .ok (.i2l, 1) := by decide +kernel
theorem dX8_river_2 : decode cX8_river 2 = .ok (.lconst 0, 1) := by decide +kernel
theorem dX8_river_3 : decode cX8_river 3 = .ok (.lconst 1, 1) := by decide +kernel
theorem dX8_river_4 : decode cX8_river 4 = .ok (.invokestatic 52, 3) := by decide +kernel
theorem dX8_river_7 : decode cX8_river 7 = .ok (.ifCond .ne 6, 3) := by decide +kernel
theorem dX8_river_10 : decode cX8_river 10 = .ok (.bipush (-2), 2) := by decide +kernel
theorem dX8_river_12 : decode cX8_river 12 = .ok (.ireturn, 1) := by decide +kernel
theorem dX8_river_13 : decode cX8_river 13 = .ok (.aload_n 0, 1) := by decide +kernel
theorem dX8_river_14 : decode cX8_river 14 = .ok (.iconst 0, 1) := by decide +kernel
theorem dX8_river_15 : decode cX8_river 15 = .ok (.invokevirtual 116, 3) := by decide +kernel
theorem dX8_river_18 : decode cX8_river 18 = .ok (.invokestatic 112, 3) := by decide +kernel
theorem dX8_river_21 : decode cX8_river 21 = .ok (.istore_n 2, 1) := by decide +kernel
theorem dX8_river_22 : decode cX8_river 22 = .ok (.iconst 0, 1) := by decide +kernel
theorem dX8_river_23 : decode cX8_river 23 = .ok (.istore_n 3, 1) := by decide +kernel
theorem dX8_river_24 : decode cX8_river 24 = .ok (.iconst 0, 1) := by decide +kernel
theorem dX8_river_25 : decode cX8_river 25 = .ok (.istore 4, 2) := by decide +kernel
theorem dX8_river_27 : decode cX8_river 27 = .ok (.iconst 0, 1) := by decide +kernel
theorem dX8_river_28 : decode cX8_river 28 = .ok (.istore 5, 2) := by decide +kernel
theorem dX8_river_30 : decode cX8_river 30 = .ok (.iload 5, 2) := by decide +kernel
theorem dX8_river_32 : decode cX8_river 32 = .ok (.iload_n 2, 1) := by decide +kernel
theorem dX8_river_33 : decode cX8_river 33 = .ok (.if_icmp .ge 25, 3) := by decide +kernel
theorem dX8_river_36 : decode cX8_river 36 = .ok (.bipush 10, 2) := by decide +kernel
theorem dX8_river_38 : decode cX8_river 38 = .ok (.iload_n 3, 1) := by decide +kernel
theorem dX8_river_39 : decode cX8_river 39 = .ok (.imul, 1) := by decide +kernel
theorem dX8_river_40 : decode cX8_river 40 = .ok (.iconst 1, 1) := by decide +kernel
theorem dX8_river_41 : decode cX8_river 41 = .ok (.iadd, 1) := by decide +kernel
theorem dX8_river_42 : decode cX8_river 42 = .ok (.istore_n 3, 1) := by decide +kernel
theorem dX8_river_43 : decode cX8_river 43 = .ok (.bipush 10, 2) := by decide +kernel
theorem dX8_river_45 : decode cX8_river 45 = .ok (.iload 4, 2) := by decide +kernel
theorem dX8_river_47 : decode cX8_river 47 = .ok (.imul, 1) := by decide +kernel
theorem dX8_river_48 : decode cX8_river 48 = .ok (.iconst 4, 1) := by decide +kernel
theorem dX8_river_49 : decode cX8_river 49 = .ok (.iadd, 1) := by decide +kernel
theorem dX8_river_50 : decode cX8_river 50 = .ok (.istore 4, 2) := by decide +kernel
theorem dX8_river_52 : decode cX8_river 52 = .ok (.iinc 5 1, 3) := by decide +kernel
theorem dX8_river_55 : decode cX8_river 55 = .ok (.goto (-25), 3) := by decide +kernel
theorem dX8_river_58 : decode cX8_river 58 = .ok (.iconst 0, 1) := by decide +kernel
theorem dX8_river_59 : decode cX8_river 59 = .ok (.istore 5, 2) := by decide +kernel
theorem dX8_river_61 : decode cX8_river 61 = .ok (.iload_n 2, 1) := by decide +kernel
theorem dX8_river_62 : decode cX8_river 62 = .ok (.ifCond .ne 7, 3) := by decide +kernel
theorem dX8_river_65 : decode cX8_river 65 = .ok (.iconst 0, 1) := by decide +kernel
theorem dX8_river_66 : decode cX8_river 66 = .ok (.goto 5, 3) := by decide +kernel
theorem dX8_river_69 : decode cX8_river 69 = .ok (.bipush (-9), 2) := by decide +kernel
theorem dX8_river_71 : decode cX8_river 71 = .ok (.istore 6, 2) := by decide +kernel
theorem dX8_river_73 : decode cX8_river 73 = .ok (.iload_n 3, 1) := by decide +kernel
theorem dX8_river_74 : decode cX8_river 74 = .ok (.istore 7, 2) := by decide +kernel
theorem dX8_river_76 : decode cX8_river 76 = .ok (.iload 7, 2) := by decide +kernel
theorem dX8_river_78 : decode cX8_river 78 = .ok (.iload 4, 2) := by decide +kernel
theorem dX8_river_80 : decode cX8_river 80 = .ok (.if_icmp .gt 78, 3) := by decide +kernel
theorem dX8_river_83 : decode cX8_river 83 = .ok (.iload_n 2, 1) := by decide +kernel
theorem dX8_river_84 : decode cX8_river 84 = .ok (.ifCond .le 74, 3) := by decide +kernel
theorem dX8_river_87 : decode cX8_river 87 = .ok (.aload_n 0, 1) := by decide +kernel
theorem dX8_river_88 : decode cX8_river 88 = .ok (.iload 7, 2) := by decide +kernel
theorem dX8_river_90 : decode cX8_river 90 = .ok (.iload_n 2, 1) := by decide +kernel
theorem dX8_river_91 : decode cX8_river 91 = .ok (.invokevirtual 192, 3) := by decide +kernel
theorem dX8_river_94 : decode cX8_river 94 = .ok (.istore 8, 2) := by decide +kernel
theorem dX8_river_96 : decode cX8_river 96 = .ok (.iload 8, 2) := by decide +kernel
theorem dX8_river_98 : decode cX8_river 98 = .ok (.bipush (-9), 2) := by decide +kernel
theorem dX8_river_100 : decode cX8_river 100 = .ok (.if_icmp .eq 21, 3) := by decide +kernel
theorem dX8_river_103 : decode cX8_river 103 = .ok (.iload 6, 2) := by decide +kernel
theorem dX8_river_105 : decode cX8_river 105 = .ok (.bipush (-9), 2) := by decide +kernel
theorem dX8_river_107 : decode cX8_river 107 = .ok (.if_icmp .eq 10, 3) := by decide +kernel
theorem dX8_river_110 : decode cX8_river 110 = .ok (.iload 8, 2) := by decide +kernel
theorem dX8_river_112 : decode cX8_river 112 = .ok (.iload 6, 2) := by decide +kernel
theorem dX8_river_114 : decode cX8_river 114 = .ok (.if_icmp .ge 7, 3) := by decide +kernel
theorem dX8_river_117 : decode cX8_river 117 = .ok (.iconst 1, 1) := by decide +kernel
theorem dX8_river_118 : decode cX8_river 118 = .ok (.goto 4, 3) := by decide +kernel
theorem dX8_river_121 : decode cX8_river 121 = .ok (.iconst 0, 1) := by decide +kernel
theorem dX8_river_122 : decode cX8_river 122 = .ok (.istore 9, 2) := by decide +kernel
theorem dX8_river_124 : decode cX8_river 124 = .ok (.iload 9, 2) := by decide +kernel
theorem dX8_river_126 : decode cX8_river 126 = .ok (.ifCond .eq 8, 3) := by decide +kernel
theorem dX8_river_129 : decode cX8_river 129 = .ok (.iload 7, 2) := by decide +kernel
theorem dX8_river_131 : decode cX8_river 131 = .ok (.goto 5, 3) := by decide +kernel
theorem dX8_river_134 : decode cX8_river 134 = .ok (.iload 5, 2) := by decide +kernel
theorem dX8_river_136 : decode cX8_river 136 = .ok (.istore 5, 2) := by decide +kernel
theorem dX8_river_138 : decode cX8_river 138 = .ok (.iload 9, 2) := by decide +kernel
theorem dX8_river_140 : decode cX8_river 140 = .ok (.ifCond .eq 8, 3) := by decide +kernel
theorem dX8_river_143 : decode cX8_river 143 = .ok (.iload 8, 2) := by decide +kernel
theorem dX8_river_145 : decode cX8_river 145 = .ok (.goto 5, 3) := by decide +kernel
theorem dX8_river_148 : decode cX8_river 148 = .ok (.iload 6, 2) := by decide +kernel
theorem dX8_river_150 : decode cX8_river 150 = .ok (.istore 6, 2) := by decide +kernel
theorem dX8_river_152 : decode cX8_river 152 = .ok (.iinc 7 1, 3) := by decide +kernel
theorem dX8_river_155 : decode cX8_river 155 = .ok (.goto (-79), 3) := by decide +kernel
theorem dX8_river_158 : decode cX8_river 158 = .ok (.iload_n 1, 1) := by decide +kernel
theorem dX8_river_159 : decode cX8_river 159 = .ok (.ifCond .ne 8, 3) := by decide +kernel
theorem dX8_river_162 : decode cX8_river 162 = .ok (.iload 6, 2) := by decide +kernel
theorem dX8_river_164 : decode cX8_river 164 = .ok (.goto 5, 3) := by decide +kernel
theorem dX8_river_167 : decode cX8_river 167 = .ok (.iload 5, 2) := by decide +kernel
theorem dX8_river_169 : decode cX8_river 169 = .ok (.ireturn, 1) := by decide +kernel
theorem dX8_covered_0 : decode cX8_covered 0 = .ok (.aload_n 0, 1) := by decide +kernel
theorem dX8_covered_1 : decode cX8_covered 1 = .ok (.bipush 15, 2) := by decide +kernel
theorem dX8_covered_3 : decode cX8_covered 3 = .ok (.invokevirtual 195, 3) := by decide +kernel
theorem dX8_covered_6 : decode cX8_covered 6 = .ok (.ireturn, 1) := by decide +kernel
theorem dX8_ways_0 : decode cX8_ways 0 = .ok (.iconst 0, 1) := by decide +kernel
theorem dX8_ways_1 : decode cX8_ways 1 = .ok (.istore_n 1, 1) := by decide +kernel
theorem dX8_ways_2 : decode cX8_ways 2 = .ok (.iconst 0, 1) := by decide +kernel
theorem dX8_ways_3 : decode cX8_ways 3 = .ok (.istore_n 2, 1) := by decide +kernel
theorem dX8_ways_4 : decode cX8_ways 4 = .ok (.iload_n 2, 1) := by decide +kernel
theorem dX8_ways_5 : decode cX8_ways 5 = .ok (.sipush 20736, 3) := by decide +kernel
theorem dX8_ways_8 : decode cX8_ways 8 = .ok (.if_icmp .ge 25, 3) := by decide +kernel
theorem dX8_ways_11 : decode cX8_ways 11 = .ok (.iload_n 1, 1) := by decide +kernel
theorem dX8_ways_12 : decode cX8_ways 12 = .ok (.aload_n 0, 1) := by decide +kernel
theorem dX8_ways_13 : decode cX8_ways 13 = .ok (.iload_n 2, 1) := by decide +kernel
theorem dX8_ways_14 : decode cX8_ways 14 = .ok (.invokevirtual 198, 3) := by decide +kernel
theorem dX8_ways_17 : decode cX8_ways 17 = .ok (.ifCond .eq 7, 3) := by decide +kernel
theorem dX8_ways_20 : decode cX8_ways 20 = .ok (.iconst 1, 1) := by decide +kernel
theorem dX8_ways_21 : decode cX8_ways 21 = .ok (.goto 4, 3) := by decide +kernel
theorem dX8_ways_24 : decode cX8_ways 24 = .ok (.iconst 0, 1) := by decide +kernel
theorem dX8_ways_25 : decode cX8_ways 25 = .ok (.iadd, 1) := by decide +kernel
theorem dX8_ways_26 : decode cX8_ways 26 = .ok (.istore_n 1, 1) := by decide +kernel
theorem dX8_ways_27 : decode cX8_ways 27 = .ok (.iinc 2 1, 3) := by decide +kernel
theorem dX8_ways_30 : decode cX8_ways 30 = .ok (.goto (-26), 3) := by decide +kernel
theorem dX8_ways_33 : decode cX8_ways 33 = .ok (.iload_n 1, 1) := by decide +kernel
theorem dX8_ways_34 : decode cX8_ways 34 = .ok (.ireturn, 1) := by decide +kernel
theorem dX8_isWay_0 : decode cX8_isWay 0 = .ok (.iload_n 1, 1) := by decide +kernel
theorem dX8_isWay_1 : decode cX8_isWay 1 = .ok (.istore_n 2, 1) := by decide +kernel
theorem dX8_isWay_2 : decode cX8_isWay 2 = .ok (.iconst 0, 1) := by decide +kernel
theorem dX8_isWay_3 : decode cX8_isWay 3 = .ok (.istore_n 3, 1) := by decide +kernel
theorem dX8_isWay_4 : decode cX8_isWay 4 = .ok (.iconst 0, 1) := by decide +kernel
theorem dX8_isWay_5 : decode cX8_isWay 5 = .ok (.istore 4, 2) := by decide +kernel
theorem dX8_isWay_7 : decode cX8_isWay 7 = .ok (.iload 4, 2) := by decide +kernel
theorem dX8_isWay_9 : decode cX8_isWay 9 = .ok (.iconst 4, 1) := by decide +kernel
theorem dX8_isWay_10 : decode cX8_isWay 10 = .ok (.if_icmp .ge 70, 3) := by decide +kernel
theorem dX8_isWay_13 : decode cX8_isWay 13 = .ok (.iload_n 2, 1) := by decide +kernel
theorem dX8_isWay_14 : decode cX8_isWay 14 = .ok (.bipush 12, 2) := by decide +kernel
theorem dX8_isWay_16 : decode cX8_isWay 16 = .ok (.irem, 1) := by decide +kernel
theorem dX8_isWay_17 : decode cX8_isWay 17 = .ok (.istore 5, 2) := by decide +kernel
theorem dX8_isWay_19 : decode cX8_isWay 19 = .ok (.iload_n 2, 1) := by decide +kernel
theorem dX8_isWay_20 : decode cX8_isWay 20 = .ok (.bipush 12, 2) := by decide +kernel
theorem dX8_isWay_22 : decode cX8_isWay 22 = .ok (.idiv, 1) := by decide +kernel
theorem dX8_isWay_23 : decode cX8_isWay 23 = .ok (.istore_n 2, 1) := by decide +kernel
theorem dX8_isWay_24 : decode cX8_isWay 24 = .ok (.aload_n 0, 1) := by decide +kernel
theorem dX8_isWay_25 : decode cX8_isWay 25 = .ok (.iconst 0, 1) := by decide +kernel
theorem dX8_isWay_26 : decode cX8_isWay 26 = .ok (.iload 4, 2) := by decide +kernel
theorem dX8_isWay_28 : decode cX8_isWay 28 = .ok (.invokevirtual 99, 3) := by decide +kernel
theorem dX8_isWay_31 : decode cX8_isWay 31 = .ok (.ifCond .ne 10, 3) := by decide +kernel
theorem dX8_isWay_34 : decode cX8_isWay 34 = .ok (.iload 5, 2) := by decide +kernel
theorem dX8_isWay_36 : decode cX8_isWay 36 = .ok (.ifCond .le 38, 3) := by decide +kernel
theorem dX8_isWay_39 : decode cX8_isWay 39 = .ok (.iconst 0, 1) := by decide +kernel
theorem dX8_isWay_40 : decode cX8_isWay 40 = .ok (.ireturn, 1) := by decide +kernel
theorem dX8_isWay_41 : decode cX8_isWay 41 = .ok (.aload_n 0, 1) := by decide +kernel
theorem dX8_isWay_42 : decode cX8_isWay 42 = .ok (.iconst 0, 1) := by decide +kernel
theorem dX8_isWay_43 : decode cX8_isWay 43 = .ok (.iload 4, 2) := by decide +kernel
theorem dX8_isWay_45 : decode cX8_isWay 45 = .ok (.iload 5, 2) := by decide +kernel
theorem dX8_isWay_47 : decode cX8_isWay 47 = .ok (.invokevirtual 149, 3) := by decide +kernel
theorem dX8_isWay_50 : decode cX8_isWay 50 = .ok (.ifCond .ne 5, 3) := by decide +kernel
theorem dX8_isWay_53 : decode cX8_isWay 53 = .ok (.iconst 0, 1) := by decide +kernel
theorem dX8_isWay_54 : decode cX8_isWay 54 = .ok (.ireturn, 1) := by decide +kernel
theorem dX8_isWay_55 : decode cX8_isWay 55 = .ok (.iload_n 3, 1) := by decide +kernel
theorem dX8_isWay_56 : decode cX8_isWay 56 = .ok (.iconst 1, 1) := by decide +kernel
theorem dX8_isWay_57 : decode cX8_isWay 57 = .ok (.aload_n 0, 1) := by decide +kernel
theorem dX8_isWay_58 : decode cX8_isWay 58 = .ok (.getfield 13, 3) := by decide +kernel
theorem dX8_isWay_61 : decode cX8_isWay 61 = .ok (.iconst 4, 1) := by decide +kernel
theorem dX8_isWay_62 : decode cX8_isWay 62 = .ok (.iload 4, 2) := by decide +kernel
theorem dX8_isWay_64 : decode cX8_isWay 64 = .ok (.iadd, 1) := by decide +kernel
theorem dX8_isWay_65 : decode cX8_isWay 65 = .ok (.iaload, 1) := by decide +kernel
theorem dX8_isWay_66 : decode cX8_isWay 66 = .ok (.ishl, 1) := by decide +kernel
theorem dX8_isWay_67 : decode cX8_isWay 67 = .ok (.iconst 1, 1) := by decide +kernel
theorem dX8_isWay_68 : decode cX8_isWay 68 = .ok (.isub, 1) := by decide +kernel
theorem dX8_isWay_69 : decode cX8_isWay 69 = .ok (.iload 5, 2) := by decide +kernel
theorem dX8_isWay_71 : decode cX8_isWay 71 = .ok (.ishl, 1) := by decide +kernel
theorem dX8_isWay_72 : decode cX8_isWay 72 = .ok (.ior, 1) := by decide +kernel
theorem dX8_isWay_73 : decode cX8_isWay 73 = .ok (.istore_n 3, 1) := by decide +kernel
theorem dX8_isWay_74 : decode cX8_isWay 74 = .ok (.iinc 4 1, 3) := by decide +kernel
theorem dX8_isWay_77 : decode cX8_isWay 77 = .ok (.goto (-70), 3) := by decide +kernel
theorem dX8_isWay_80 : decode cX8_isWay 80 = .ok (.iload_n 3, 1) := by decide +kernel
theorem dX8_isWay_81 : decode cX8_isWay 81 = .ok (.iconst 1, 1) := by decide +kernel
theorem dX8_isWay_82 : decode cX8_isWay 82 = .ok (.aload_n 0, 1) := by decide +kernel
theorem dX8_isWay_83 : decode cX8_isWay 83 = .ok (.getfield 146, 3) := by decide +kernel
theorem dX8_isWay_86 : decode cX8_isWay 86 = .ok (.ishl, 1) := by decide +kernel
theorem dX8_isWay_87 : decode cX8_isWay 87 = .ok (.iconst 1, 1) := by decide +kernel
theorem dX8_isWay_88 : decode cX8_isWay 88 = .ok (.isub, 1) := by decide +kernel
theorem dX8_isWay_89 : decode cX8_isWay 89 = .ok (.if_icmp .ne 7, 3) := by decide +kernel
theorem dX8_isWay_92 : decode cX8_isWay 92 = .ok (.iconst 1, 1) := by decide +kernel
theorem dX8_isWay_93 : decode cX8_isWay 93 = .ok (.goto 4, 3) := by decide +kernel
theorem dX8_isWay_96 : decode cX8_isWay 96 = .ok (.iconst 0, 1) := by decide +kernel
theorem dX8_isWay_97 : decode cX8_isWay 97 = .ok (.ireturn, 1) := by decide +kernel
theorem dX8_tryThing_0 : decode cX8_tryThing 0 = .ok (.iload_n 1, 1) := by decide +kernel
theorem dX8_tryThing_1 : decode cX8_tryThing 1 = .ok (.tableswitch 285 0 6 #[43, 63, 122, 156, 203, 227, 255], 43) := by decide +kernel
theorem dX8_tryThing_44 : decode cX8_tryThing 44 = .ok (.aload_n 0, 1) := by decide +kernel
theorem dX8_tryThing_45 : decode cX8_tryThing 45 = .ok (.iconst 1, 1) := by decide +kernel
theorem dX8_tryThing_46 : decode cX8_tryThing 46 = .ok (.invokevirtual 163, 3) := by decide +kernel
theorem dX8_tryThing_49 : decode cX8_tryThing 49 = .ok (.pop, 1) := by decide +kernel
theorem dX8_tryThing_50 : decode cX8_tryThing 50 = .ok (.iload_n 2, 1) := by decide +kernel
theorem dX8_tryThing_51 : decode cX8_tryThing 51 = .ok (.ifCond .ne 11, 3) := by decide +kernel
theorem dX8_tryThing_54 : decode cX8_tryThing 54 = .ok (.iload_n 3, 1) := by decide +kernel
theorem dX8_tryThing_55 : decode cX8_tryThing 55 = .ok (.ifCond .ne 7, 3) := by decide +kernel
theorem dX8_tryThing_58 : decode cX8_tryThing 58 = .ok (.iconst 1, 1) := by decide +kernel
theorem dX8_tryThing_59 : decode cX8_tryThing 59 = .ok (.goto 4, 3) := by decide +kernel
theorem dX8_tryThing_62 : decode cX8_tryThing 62 = .ok (.iconst 0, 1) := by decide +kernel
theorem dX8_tryThing_63 : decode cX8_tryThing 63 = .ok (.ireturn, 1) := by decide +kernel
theorem dX8_tryThing_64 : decode cX8_tryThing 64 = .ok (.aload_n 0, 1) := by decide +kernel
theorem dX8_tryThing_65 : decode cX8_tryThing 65 = .ok (.iconst 1, 1) := by decide +kernel
theorem dX8_tryThing_66 : decode cX8_tryThing 66 = .ok (.iload_n 2, 1) := by decide +kernel
theorem dX8_tryThing_67 : decode cX8_tryThing 67 = .ok (.invokevirtual 99, 3) := by decide +kernel
theorem dX8_tryThing_70 : decode cX8_tryThing 70 = .ok (.ifCond .eq 32, 3) := by decide +kernel
theorem dX8_tryThing_73 : decode cX8_tryThing 73 = .ok (.iload_n 3, 1) := by decide +kernel
theorem dX8_tryThing_74 : decode cX8_tryThing 74 = .ok (.i2l, 1) := by decide +kernel
theorem dX8_tryThing_75 : decode cX8_tryThing 75 = .ok (.lconst 0, 1) := by decide +kernel
theorem dX8_tryThing_76 : decode cX8_tryThing 76 = .ok (.ldc2_w 166, 3) := by decide +kernel
theorem dX8_tryThing_79 : decode cX8_tryThing 79 = .ok (.invokestatic 52, 3) := by decide +kernel
theorem dX8_tryThing_82 : decode cX8_tryThing 82 = .ok (.ifCond .eq 20, 3) := by decide +kernel
theorem dX8_tryThing_85 : decode cX8_tryThing 85 = .ok (.aload_n 0, 1) := by decide +kernel
theorem dX8_tryThing_86 : decode cX8_tryThing 86 = .ok (.getfield 13, 3) := by decide +kernel
theorem dX8_tryThing_89 : decode cX8_tryThing 89 = .ok (.bipush 57, 2) := by decide +kernel
theorem dX8_tryThing_91 : decode cX8_tryThing 91 = .ok (.iload_n 2, 1) := by decide +kernel
theorem dX8_tryThing_92 : decode cX8_tryThing 92 = .ok (.iadd, 1) := by decide +kernel
theorem dX8_tryThing_93 : decode cX8_tryThing 93 = .ok (.iaload, 1) := by decide +kernel
theorem dX8_tryThing_94 : decode cX8_tryThing 94 = .ok (.iload_n 3, 1) := by decide +kernel
theorem dX8_tryThing_95 : decode cX8_tryThing 95 = .ok (.if_icmp .eq 7, 3) := by decide +kernel
theorem dX8_tryThing_98 : decode cX8_tryThing 98 = .ok (.iconst 1, 1) := by decide +kernel
theorem dX8_tryThing_99 : decode cX8_tryThing 99 = .ok (.goto 4, 3) := by decide +kernel
theorem dX8_tryThing_102 : decode cX8_tryThing 102 = .ok (.iconst 0, 1) := by decide +kernel
theorem dX8_tryThing_103 : decode cX8_tryThing 103 = .ok (.istore 4, 2) := by decide +kernel
theorem dX8_tryThing_105 : decode cX8_tryThing 105 = .ok (.iload 4, 2) := by decide +kernel
theorem dX8_tryThing_107 : decode cX8_tryThing 107 = .ok (.ifCond .eq 13, 3) := by decide +kernel
theorem dX8_tryThing_110 : decode cX8_tryThing 110 = .ok (.aload_n 0, 1) := by decide +kernel
theorem dX8_tryThing_111 : decode cX8_tryThing 111 = .ok (.getfield 13, 3) := by decide +kernel
theorem dX8_tryThing_114 : decode cX8_tryThing 114 = .ok (.bipush 57, 2) := by decide +kernel
theorem dX8_tryThing_116 : decode cX8_tryThing 116 = .ok (.iload_n 2, 1) := by decide +kernel
theorem dX8_tryThing_117 : decode cX8_tryThing 117 = .ok (.iadd, 1) := by decide +kernel
theorem dX8_tryThing_118 : decode cX8_tryThing 118 = .ok (.iload_n 3, 1) := by decide +kernel
theorem dX8_tryThing_119 : decode cX8_tryThing 119 = .ok (.iastore, 1) := by decide +kernel
theorem dX8_tryThing_120 : decode cX8_tryThing 120 = .ok (.iload 4, 2) := by decide +kernel
theorem dX8_tryThing_122 : decode cX8_tryThing 122 = .ok (.ireturn, 1) := by decide +kernel
theorem dX8_tryThing_123 : decode cX8_tryThing 123 = .ok (.iload_n 2, 1) := by decide +kernel
theorem dX8_tryThing_124 : decode cX8_tryThing 124 = .ok (.ifCond .ne 16, 3) := by decide +kernel
theorem dX8_tryThing_127 : decode cX8_tryThing 127 = .ok (.aload_n 0, 1) := by decide +kernel
theorem dX8_tryThing_128 : decode cX8_tryThing 128 = .ok (.iconst 1, 1) := by decide +kernel
theorem dX8_tryThing_129 : decode cX8_tryThing 129 = .ok (.iload_n 3, 1) := by decide +kernel
theorem dX8_tryThing_130 : decode cX8_tryThing 130 = .ok (.invokevirtual 99, 3) := by decide +kernel
theorem dX8_tryThing_133 : decode cX8_tryThing 133 = .ok (.ifCond .eq 7, 3) := by decide +kernel
theorem dX8_tryThing_136 : decode cX8_tryThing 136 = .ok (.iconst 1, 1) := by decide +kernel
theorem dX8_tryThing_137 : decode cX8_tryThing 137 = .ok (.goto 4, 3) := by decide +kernel
theorem dX8_tryThing_140 : decode cX8_tryThing 140 = .ok (.iconst 0, 1) := by decide +kernel
theorem dX8_tryThing_141 : decode cX8_tryThing 141 = .ok (.istore 5, 2) := by decide +kernel
theorem dX8_tryThing_143 : decode cX8_tryThing 143 = .ok (.iload 5, 2) := by decide +kernel
theorem dX8_tryThing_145 : decode cX8_tryThing 145 = .ok (.ifCond .eq 9, 3) := by decide +kernel
theorem dX8_tryThing_148 : decode cX8_tryThing 148 = .ok (.aload_n 0, 1) := by decide +kernel
theorem dX8_tryThing_149 : decode cX8_tryThing 149 = .ok (.iconst 1, 1) := by decide +kernel
theorem dX8_tryThing_150 : decode cX8_tryThing 150 = .ok (.iload_n 3, 1) := by decide +kernel
theorem dX8_tryThing_151 : decode cX8_tryThing 151 = .ok (.invokevirtual 168, 3) := by decide +kernel
theorem dX8_tryThing_154 : decode cX8_tryThing 154 = .ok (.iload 5, 2) := by decide +kernel
theorem dX8_tryThing_156 : decode cX8_tryThing 156 = .ok (.ireturn, 1) := by decide +kernel
theorem dX8_tryThing_157 : decode cX8_tryThing 157 = .ok (.iload_n 2, 1) := by decide +kernel
theorem dX8_tryThing_158 : decode cX8_tryThing 158 = .ok (.ifCond .ne 29, 3) := by decide +kernel
theorem dX8_tryThing_161 : decode cX8_tryThing 161 = .ok (.aload_n 0, 1) := by decide +kernel
theorem dX8_tryThing_162 : decode cX8_tryThing 162 = .ok (.iconst 1, 1) := by decide +kernel
theorem dX8_tryThing_163 : decode cX8_tryThing 163 = .ok (.iload_n 3, 1) := by decide +kernel
theorem dX8_tryThing_164 : decode cX8_tryThing 164 = .ok (.invokevirtual 99, 3) := by decide +kernel
theorem dX8_tryThing_167 : decode cX8_tryThing 167 = .ok (.ifCond .eq 20, 3) := by decide +kernel
theorem dX8_tryThing_170 : decode cX8_tryThing 170 = .ok (.aload_n 0, 1) := by decide +kernel
theorem dX8_tryThing_171 : decode cX8_tryThing 171 = .ok (.getfield 13, 3) := by decide +kernel
theorem dX8_tryThing_174 : decode cX8_tryThing 174 = .ok (.bipush 61, 2) := by decide +kernel
theorem dX8_tryThing_176 : decode cX8_tryThing 176 = .ok (.iload_n 3, 1) := by decide +kernel
theorem dX8_tryThing_177 : decode cX8_tryThing 177 = .ok (.iadd, 1) := by decide +kernel
theorem dX8_tryThing_178 : decode cX8_tryThing 178 = .ok (.iaload, 1) := by decide +kernel
theorem dX8_tryThing_179 : decode cX8_tryThing 179 = .ok (.iconst 1, 1) := by decide +kernel
theorem dX8_tryThing_180 : decode cX8_tryThing 180 = .ok (.if_icmp .le 7, 3) := by decide +kernel
theorem dX8_tryThing_183 : decode cX8_tryThing 183 = .ok (.iconst 1, 1) := by decide +kernel
theorem dX8_tryThing_184 : decode cX8_tryThing 184 = .ok (.goto 4, 3) := by decide +kernel
theorem dX8_tryThing_187 : decode cX8_tryThing 187 = .ok (.iconst 0, 1) := by decide +kernel
theorem dX8_tryThing_188 : decode cX8_tryThing 188 = .ok (.istore 6, 2) := by decide +kernel
theorem dX8_tryThing_190 : decode cX8_tryThing 190 = .ok (.iload 6, 2) := by decide +kernel
theorem dX8_tryThing_192 : decode cX8_tryThing 192 = .ok (.ifCond .eq 9, 3) := by decide +kernel
theorem dX8_tryThing_195 : decode cX8_tryThing 195 = .ok (.aload_n 0, 1) := by decide +kernel
theorem dX8_tryThing_196 : decode cX8_tryThing 196 = .ok (.iconst 1, 1) := by decide +kernel
theorem dX8_tryThing_197 : decode cX8_tryThing 197 = .ok (.iload_n 3, 1) := by decide +kernel
theorem dX8_tryThing_198 : decode cX8_tryThing 198 = .ok (.invokevirtual 95, 3) := by decide +kernel
theorem dX8_tryThing_201 : decode cX8_tryThing 201 = .ok (.iload 6, 2) := by decide +kernel
theorem dX8_tryThing_203 : decode cX8_tryThing 203 = .ok (.ireturn, 1) := by decide +kernel
theorem dX8_tryThing_204 : decode cX8_tryThing 204 = .ok (.aload_n 0, 1) := by decide +kernel
theorem dX8_tryThing_205 : decode cX8_tryThing 205 = .ok (.iconst 1, 1) := by decide +kernel
theorem dX8_tryThing_206 : decode cX8_tryThing 206 = .ok (.iload_n 2, 1) := by decide +kernel
theorem dX8_tryThing_207 : decode cX8_tryThing 207 = .ok (.iload_n 3, 1) := by decide +kernel
theorem dX8_tryThing_208 : decode cX8_tryThing 208 = .ok (.invokevirtual 171, 3) := by decide +kernel
theorem dX8_tryThing_211 : decode cX8_tryThing 211 = .ok (.istore 7, 2) := by decide +kernel
theorem dX8_tryThing_213 : decode cX8_tryThing 213 = .ok (.iload 7, 2) := by decide +kernel
theorem dX8_tryThing_215 : decode cX8_tryThing 215 = .ok (.ifCond .eq 10, 3) := by decide +kernel
theorem dX8_tryThing_218 : decode cX8_tryThing 218 = .ok (.aload_n 0, 1) := by decide +kernel
theorem dX8_tryThing_219 : decode cX8_tryThing 219 = .ok (.iconst 1, 1) := by decide +kernel
theorem dX8_tryThing_220 : decode cX8_tryThing 220 = .ok (.iload_n 2, 1) := by decide +kernel
theorem dX8_tryThing_221 : decode cX8_tryThing 221 = .ok (.iload_n 3, 1) := by decide +kernel
theorem dX8_tryThing_222 : decode cX8_tryThing 222 = .ok (.invokevirtual 174, 3) := by decide +kernel
theorem dX8_tryThing_225 : decode cX8_tryThing 225 = .ok (.iload 7, 2) := by decide +kernel
theorem dX8_tryThing_227 : decode cX8_tryThing 227 = .ok (.ireturn, 1) := by decide +kernel
theorem dX8_tryThing_228 : decode cX8_tryThing 228 = .ok (.aload_n 0, 1) := by decide +kernel
theorem dX8_tryThing_229 : decode cX8_tryThing 229 = .ok (.iconst 1, 1) := by decide +kernel
theorem dX8_tryThing_230 : decode cX8_tryThing 230 = .ok (.iload_n 2, 1) := by decide +kernel
theorem dX8_tryThing_231 : decode cX8_tryThing 231 = .ok (.invokevirtual 99, 3) := by decide +kernel
theorem dX8_tryThing_234 : decode cX8_tryThing 234 = .ok (.ifCond .eq 20, 3) := by decide +kernel
theorem dX8_tryThing_237 : decode cX8_tryThing 237 = .ok (.aload_n 0, 1) := by decide +kernel
theorem dX8_tryThing_238 : decode cX8_tryThing 238 = .ok (.getfield 13, 3) := by decide +kernel
theorem dX8_tryThing_241 : decode cX8_tryThing 241 = .ok (.bipush 61, 2) := by decide +kernel
theorem dX8_tryThing_243 : decode cX8_tryThing 243 = .ok (.iload_n 2, 1) := by decide +kernel
theorem dX8_tryThing_244 : decode cX8_tryThing 244 = .ok (.iadd, 1) := by decide +kernel
theorem dX8_tryThing_245 : decode cX8_tryThing 245 = .ok (.iaload, 1) := by decide +kernel
theorem dX8_tryThing_246 : decode cX8_tryThing 246 = .ok (.iload_n 3, 1) := by decide +kernel
theorem dX8_tryThing_247 : decode cX8_tryThing 247 = .ok (.if_icmp .lt 7, 3) := by decide +kernel
theorem dX8_tryThing_250 : decode cX8_tryThing 250 = .ok (.iconst 1, 1) := by decide +kernel
theorem dX8_tryThing_251 : decode cX8_tryThing 251 = .ok (.goto 4, 3) := by decide +kernel
theorem dX8_tryThing_254 : decode cX8_tryThing 254 = .ok (.iconst 0, 1) := by decide +kernel
theorem dX8_tryThing_255 : decode cX8_tryThing 255 = .ok (.ireturn, 1) := by decide +kernel
theorem dX8_tryThing_256 : decode cX8_tryThing 256 = .ok (.iload_n 2, 1) := by decide +kernel
theorem dX8_tryThing_257 : decode cX8_tryThing 257 = .ok (.ifCond .ne 27, 3) := by decide +kernel
theorem dX8_tryThing_260 : decode cX8_tryThing 260 = .ok (.aload_n 0, 1) := by decide +kernel
theorem dX8_tryThing_261 : decode cX8_tryThing 261 = .ok (.iconst 1, 1) := by decide +kernel
theorem dX8_tryThing_262 : decode cX8_tryThing 262 = .ok (.iload_n 3, 1) := by decide +kernel
theorem dX8_tryThing_263 : decode cX8_tryThing 263 = .ok (.invokevirtual 99, 3) := by decide +kernel
theorem dX8_tryThing_266 : decode cX8_tryThing 266 = .ok (.ifCond .eq 18, 3) := by decide +kernel
theorem dX8_tryThing_269 : decode cX8_tryThing 269 = .ok (.aload_n 0, 1) := by decide +kernel
theorem dX8_tryThing_270 : decode cX8_tryThing 270 = .ok (.iconst 1, 1) := by decide +kernel
theorem dX8_tryThing_271 : decode cX8_tryThing 271 = .ok (.iload_n 3, 1) := by decide +kernel
theorem dX8_tryThing_272 : decode cX8_tryThing 272 = .ok (.invokevirtual 152, 3) := by decide +kernel
theorem dX8_tryThing_275 : decode cX8_tryThing 275 = .ok (.bipush (-9), 2) := by decide +kernel
theorem dX8_tryThing_277 : decode cX8_tryThing 277 = .ok (.if_icmp .eq 7, 3) := by decide +kernel
theorem dX8_tryThing_280 : decode cX8_tryThing 280 = .ok (.iconst 1, 1) := by decide +kernel
theorem dX8_tryThing_281 : decode cX8_tryThing 281 = .ok (.goto 4, 3) := by decide +kernel
theorem dX8_tryThing_284 : decode cX8_tryThing 284 = .ok (.iconst 0, 1) := by decide +kernel
theorem dX8_tryThing_285 : decode cX8_tryThing 285 = .ok (.ireturn, 1) := by decide +kernel
theorem dX8_tryThing_286 : decode cX8_tryThing 286 = .ok (.iconst 0, 1) := by decide +kernel
theorem dX8_tryThing_287 : decode cX8_tryThing 287 = .ok (.ireturn, 1) := by decide +kernel
theorem dX8_thousandTo_0 : decode cX8_thousandTo 0 = .ok (.iconst 3, 1) := by decide +kernel
theorem dX8_thousandTo_1 : decode cX8_thousandTo 1 = .ok (.iload_n 0, 1) := by decide +kernel
theorem dX8_thousandTo_2 : decode cX8_thousandTo 2 = .ok (.imul, 1) := by decide +kernel
theorem dX8_thousandTo_3 : decode cX8_thousandTo 3 = .ok (.invokestatic 140, 3) := by decide +kernel
theorem dX8_thousandTo_6 : decode cX8_thousandTo 6 = .ok (.lreturn, 1) := by decide +kernel
theorem dX8_judge_0 : decode cX8_judge 0 = .ok (.iload_n 1, 1) := by decide +kernel
theorem dX8_judge_1 : decode cX8_judge 1 = .ok (.i2l, 1) := by decide +kernel
theorem dX8_judge_2 : decode cX8_judge 2 = .ok (.lconst 1, 1) := by decide +kernel
theorem dX8_judge_3 : decode cX8_judge 3 = .ok (.ldc2_w 144, 3) := by decide +kernel
theorem dX8_judge_6 : decode cX8_judge 6 = .ok (.invokestatic 52, 3) := by decide +kernel
theorem dX8_judge_9 : decode cX8_judge 9 = .ok (.ifCond .eq 17, 3) := by decide +kernel
theorem dX8_judge_12 : decode cX8_judge 12 = .ok (.lload_n 2, 1) := by decide +kernel
theorem dX8_judge_13 : decode cX8_judge 13 = .ok (.lconst 0, 1) := by decide +kernel
theorem dX8_judge_14 : decode cX8_judge 14 = .ok (.iload_n 1, 1) := by decide +kernel
theorem dX8_judge_15 : decode cX8_judge 15 = .ok (.invokestatic 202, 3) := by decide +kernel
theorem dX8_judge_18 : decode cX8_judge 18 = .ok (.lconst 1, 1) := by decide +kernel
theorem dX8_judge_19 : decode cX8_judge 19 = .ok (.lsub, 1) := by decide +kernel
theorem dX8_judge_20 : decode cX8_judge 20 = .ok (.invokestatic 52, 3) := by decide +kernel
theorem dX8_judge_23 : decode cX8_judge 23 = .ok (.ifCond .ne 6, 3) := by decide +kernel
theorem dX8_judge_26 : decode cX8_judge 26 = .ok (.bipush (-2), 2) := by decide +kernel
theorem dX8_judge_28 : decode cX8_judge 28 = .ok (.ireturn, 1) := by decide +kernel
theorem dX8_judge_29 : decode cX8_judge 29 = .ok (.aload_n 0, 1) := by decide +kernel
theorem dX8_judge_30 : decode cX8_judge 30 = .ok (.invokevirtual 180, 3) := by decide +kernel
theorem dX8_judge_33 : decode cX8_judge 33 = .ok (.iconst 0, 1) := by decide +kernel
theorem dX8_judge_34 : decode cX8_judge 34 = .ok (.istore 4, 2) := by decide +kernel
theorem dX8_judge_36 : decode cX8_judge 36 = .ok (.iload 4, 2) := by decide +kernel
theorem dX8_judge_38 : decode cX8_judge 38 = .ok (.iload_n 1, 1) := by decide +kernel
theorem dX8_judge_39 : decode cX8_judge 39 = .ok (.if_icmp .ge 55, 3) := by decide +kernel
theorem dX8_judge_42 : decode cX8_judge 42 = .ok (.lload_n 2, 1) := by decide +kernel
theorem dX8_judge_43 : decode cX8_judge 43 = .ok (.iload_n 1, 1) := by decide +kernel
theorem dX8_judge_44 : decode cX8_judge 44 = .ok (.iconst 1, 1) := by decide +kernel
theorem dX8_judge_45 : decode cX8_judge 45 = .ok (.isub, 1) := by decide +kernel
theorem dX8_judge_46 : decode cX8_judge 46 = .ok (.iload 4, 2) := by decide +kernel
theorem dX8_judge_48 : decode cX8_judge 48 = .ok (.isub, 1) := by decide +kernel
theorem dX8_judge_49 : decode cX8_judge 49 = .ok (.invokestatic 202, 3) := by decide +kernel
theorem dX8_judge_52 : decode cX8_judge 52 = .ok (.ldiv, 1) := by decide +kernel
theorem dX8_judge_53 : decode cX8_judge 53 = .ok (.ldc2_w 205, 3) := by decide +kernel
theorem dX8_judge_56 : decode cX8_judge 56 = .ok (.lrem, 1) := by decide +kernel
theorem dX8_judge_57 : decode cX8_judge 57 = .ok (.l2i, 1) := by decide +kernel
theorem dX8_judge_58 : decode cX8_judge 58 = .ok (.istore 5, 2) := by decide +kernel
theorem dX8_judge_60 : decode cX8_judge 60 = .ok (.aload_n 0, 1) := by decide +kernel
theorem dX8_judge_61 : decode cX8_judge 61 = .ok (.iload 5, 2) := by decide +kernel
theorem dX8_judge_63 : decode cX8_judge 63 = .ok (.bipush 100, 2) := by decide +kernel
theorem dX8_judge_65 : decode cX8_judge 65 = .ok (.idiv, 1) := by decide +kernel
theorem dX8_judge_66 : decode cX8_judge 66 = .ok (.iload 5, 2) := by decide +kernel
theorem dX8_judge_68 : decode cX8_judge 68 = .ok (.bipush 10, 2) := by decide +kernel
theorem dX8_judge_70 : decode cX8_judge 70 = .ok (.idiv, 1) := by decide +kernel
theorem dX8_judge_71 : decode cX8_judge 71 = .ok (.bipush 10, 2) := by decide +kernel
theorem dX8_judge_73 : decode cX8_judge 73 = .ok (.irem, 1) := by decide +kernel
theorem dX8_judge_74 : decode cX8_judge 74 = .ok (.iload 5, 2) := by decide +kernel
theorem dX8_judge_76 : decode cX8_judge 76 = .ok (.bipush 10, 2) := by decide +kernel
theorem dX8_judge_78 : decode cX8_judge 78 = .ok (.irem, 1) := by decide +kernel
theorem dX8_judge_79 : decode cX8_judge 79 = .ok (.invokevirtual 207, 3) := by decide +kernel
theorem dX8_judge_82 : decode cX8_judge 82 = .ok (.ifCond .ne 6, 3) := by decide +kernel
theorem dX8_judge_85 : decode cX8_judge 85 = .ok (.iload 4, 2) := by decide +kernel
theorem dX8_judge_87 : decode cX8_judge 87 = .ok (.ireturn, 1) := by decide +kernel
theorem dX8_judge_88 : decode cX8_judge 88 = .ok (.iinc 4 1, 3) := by decide +kernel
theorem dX8_judge_91 : decode cX8_judge 91 = .ok (.goto (-55), 3) := by decide +kernel
theorem dX8_judge_94 : decode cX8_judge 94 = .ok (.bipush (-9), 2) := by decide +kernel
theorem dX8_judge_96 : decode cX8_judge 96 = .ok (.ireturn, 1) := by decide +kernel
theorem dX8_lay_0 : decode cX8_lay 0 = .ok (.iload_n 1, 1) := by decide +kernel
theorem dX8_lay_1 : decode cX8_lay 1 = .ok (.i2l, 1) := by decide +kernel
theorem dX8_lay_2 : decode cX8_lay 2 = .ok (.lconst 0, 1) := by decide +kernel
theorem dX8_lay_3 : decode cX8_lay 3 = .ok (.ldc2_w 210, 3) := by decide +kernel
theorem dX8_lay_6 : decode cX8_lay 6 = .ok (.invokestatic 52, 3) := by decide +kernel
theorem dX8_lay_9 : decode cX8_lay 9 = .ok (.ifCond .eq 13, 3) := by decide +kernel
theorem dX8_lay_12 : decode cX8_lay 12 = .ok (.iload_n 2, 1) := by decide +kernel
theorem dX8_lay_13 : decode cX8_lay 13 = .ok (.i2l, 1) := by decide +kernel
theorem dX8_lay_14 : decode cX8_lay 14 = .ok (.lconst 0, 1) := by decide +kernel
theorem dX8_lay_15 : decode cX8_lay 15 = .ok (.lconst 1, 1) := by decide +kernel
theorem dX8_lay_16 : decode cX8_lay 16 = .ok (.invokestatic 52, 3) := by decide +kernel
theorem dX8_lay_19 : decode cX8_lay 19 = .ok (.ifCond .ne 6, 3) := by decide +kernel
theorem dX8_lay_22 : decode cX8_lay 22 = .ok (.bipush (-2), 2) := by decide +kernel
theorem dX8_lay_24 : decode cX8_lay 24 = .ok (.ireturn, 1) := by decide +kernel
theorem dX8_lay_25 : decode cX8_lay 25 = .ok (.aload_n 0, 1) := by decide +kernel
theorem dX8_lay_26 : decode cX8_lay 26 = .ok (.getfield 212, 3) := by decide +kernel
theorem dX8_lay_29 : decode cX8_lay 29 = .ok (.bipush 6, 2) := by decide +kernel
theorem dX8_lay_31 : decode cX8_lay 31 = .ok (.if_icmp .ne 6, 3) := by decide +kernel
theorem dX8_lay_34 : decode cX8_lay 34 = .ok (.bipush (-4), 2) := by decide +kernel
theorem dX8_lay_36 : decode cX8_lay 36 = .ok (.ireturn, 1) := by decide +kernel
theorem dX8_lay_37 : decode cX8_lay 37 = .ok (.aload_n 0, 1) := by decide +kernel
theorem dX8_lay_38 : decode cX8_lay 38 = .ok (.getfield 37, 3) := by decide +kernel
theorem dX8_lay_41 : decode cX8_lay 41 = .ok (.aload_n 0, 1) := by decide +kernel
theorem dX8_lay_42 : decode cX8_lay 42 = .ok (.getfield 212, 3) := by decide +kernel
theorem dX8_lay_45 : decode cX8_lay 45 = .ok (.iload_n 1, 1) := by decide +kernel
theorem dX8_lay_46 : decode cX8_lay 46 = .ok (.iastore, 1) := by decide +kernel
theorem dX8_lay_47 : decode cX8_lay 47 = .ok (.aload_n 0, 1) := by decide +kernel
theorem dX8_lay_48 : decode cX8_lay 48 = .ok (.getfield 40, 3) := by decide +kernel
theorem dX8_lay_51 : decode cX8_lay 51 = .ok (.aload_n 0, 1) := by decide +kernel
theorem dX8_lay_52 : decode cX8_lay 52 = .ok (.getfield 212, 3) := by decide +kernel
theorem dX8_lay_55 : decode cX8_lay 55 = .ok (.iload_n 2, 1) := by decide +kernel
theorem dX8_lay_56 : decode cX8_lay 56 = .ok (.iastore, 1) := by decide +kernel
theorem dX8_lay_57 : decode cX8_lay 57 = .ok (.aload_n 0, 1) := by decide +kernel
theorem dX8_lay_58 : decode cX8_lay 58 = .ok (.dup, 1) := by decide +kernel
theorem dX8_lay_59 : decode cX8_lay 59 = .ok (.getfield 212, 3) := by decide +kernel
theorem dX8_lay_62 : decode cX8_lay 62 = .ok (.iconst 1, 1) := by decide +kernel
theorem dX8_lay_63 : decode cX8_lay 63 = .ok (.iadd, 1) := by decide +kernel
theorem dX8_lay_64 : decode cX8_lay 64 = .ok (.putfield 212, 3) := by decide +kernel
theorem dX8_lay_67 : decode cX8_lay 67 = .ok (.aload_n 0, 1) := by decide +kernel
theorem dX8_lay_68 : decode cX8_lay 68 = .ok (.getfield 212, 3) := by decide +kernel
theorem dX8_lay_71 : decode cX8_lay 71 = .ok (.ireturn, 1) := by decide +kernel
theorem dX8_unlay_0 : decode cX8_unlay 0 = .ok (.aload_n 0, 1) := by decide +kernel
theorem dX8_unlay_1 : decode cX8_unlay 1 = .ok (.getfield 212, 3) := by decide +kernel
theorem dX8_unlay_4 : decode cX8_unlay 4 = .ok (.istore_n 1, 1) := by decide +kernel
theorem dX8_unlay_5 : decode cX8_unlay 5 = .ok (.aload_n 0, 1) := by decide +kernel
theorem dX8_unlay_6 : decode cX8_unlay 6 = .ok (.iconst 0, 1) := by decide +kernel
theorem dX8_unlay_7 : decode cX8_unlay 7 = .ok (.putfield 212, 3) := by decide +kernel
theorem dX8_unlay_10 : decode cX8_unlay 10 = .ok (.iload_n 1, 1) := by decide +kernel
theorem dX8_unlay_11 : decode cX8_unlay 11 = .ok (.ireturn, 1) := by decide +kernel
theorem dX8_fitsAt_0 : decode cX8_fitsAt 0 = .ok (.iload_n 3, 1) := by decide +kernel
theorem dX8_fitsAt_1 : decode cX8_fitsAt 1 = .ok (.iload_n 2, 1) := by decide +kernel
theorem dX8_fitsAt_2 : decode cX8_fitsAt 2 = .ok (.iadd, 1) := by decide +kernel
theorem dX8_fitsAt_3 : decode cX8_fitsAt 3 = .ok (.aload_n 0, 1) := by decide +kernel
theorem dX8_fitsAt_4 : decode cX8_fitsAt 4 = .ok (.getfield 146, 3) := by decide +kernel
theorem dX8_fitsAt_7 : decode cX8_fitsAt 7 = .ok (.if_icmp .gt 7, 3) := by decide +kernel
theorem dX8_fitsAt_10 : decode cX8_fitsAt 10 = .ok (.iconst 1, 1) := by decide +kernel
theorem dX8_fitsAt_11 : decode cX8_fitsAt 11 = .ok (.goto 4, 3) := by decide +kernel
theorem dX8_fitsAt_14 : decode cX8_fitsAt 14 = .ok (.iconst 0, 1) := by decide +kernel
theorem dX8_fitsAt_15 : decode cX8_fitsAt 15 = .ok (.istore 4, 2) := by decide +kernel
theorem dX8_fitsAt_17 : decode cX8_fitsAt 17 = .ok (.iload_n 1, 1) := by decide +kernel
theorem dX8_fitsAt_18 : decode cX8_fitsAt 18 = .ok (.istore 5, 2) := by decide +kernel
theorem dX8_fitsAt_20 : decode cX8_fitsAt 20 = .ok (.iload_n 2, 1) := by decide +kernel
theorem dX8_fitsAt_21 : decode cX8_fitsAt 21 = .ok (.iconst 1, 1) := by decide +kernel
theorem dX8_fitsAt_22 : decode cX8_fitsAt 22 = .ok (.isub, 1) := by decide +kernel
theorem dX8_fitsAt_23 : decode cX8_fitsAt 23 = .ok (.istore 6, 2) := by decide +kernel
theorem dX8_fitsAt_25 : decode cX8_fitsAt 25 = .ok (.iload 6, 2) := by decide +kernel
theorem dX8_fitsAt_27 : decode cX8_fitsAt 27 = .ok (.ifCond .lt 45, 3) := by decide +kernel
theorem dX8_fitsAt_30 : decode cX8_fitsAt 30 = .ok (.iload 4, 2) := by decide +kernel
theorem dX8_fitsAt_32 : decode cX8_fitsAt 32 = .ok (.ifCond .eq 40, 3) := by decide +kernel
theorem dX8_fitsAt_35 : decode cX8_fitsAt 35 = .ok (.aload_n 0, 1) := by decide +kernel
theorem dX8_fitsAt_36 : decode cX8_fitsAt 36 = .ok (.getfield 28, 3) := by decide +kernel
theorem dX8_fitsAt_39 : decode cX8_fitsAt 39 = .ok (.iload_n 3, 1) := by decide +kernel
theorem dX8_fitsAt_40 : decode cX8_fitsAt 40 = .ok (.iload 6, 2) := by decide +kernel
theorem dX8_fitsAt_42 : decode cX8_fitsAt 42 = .ok (.iadd, 1) := by decide +kernel
theorem dX8_fitsAt_43 : decode cX8_fitsAt 43 = .ok (.iaload, 1) := by decide +kernel
theorem dX8_fitsAt_44 : decode cX8_fitsAt 44 = .ok (.iload 5, 2) := by decide +kernel
theorem dX8_fitsAt_46 : decode cX8_fitsAt 46 = .ok (.bipush 10, 2) := by decide +kernel
theorem dX8_fitsAt_48 : decode cX8_fitsAt 48 = .ok (.irem, 1) := by decide +kernel
theorem dX8_fitsAt_49 : decode cX8_fitsAt 49 = .ok (.if_icmp .ne 7, 3) := by decide +kernel
theorem dX8_fitsAt_52 : decode cX8_fitsAt 52 = .ok (.iconst 1, 1) := by decide +kernel
theorem dX8_fitsAt_53 : decode cX8_fitsAt 53 = .ok (.goto 4, 3) := by decide +kernel
theorem dX8_fitsAt_56 : decode cX8_fitsAt 56 = .ok (.iconst 0, 1) := by decide +kernel
theorem dX8_fitsAt_57 : decode cX8_fitsAt 57 = .ok (.istore 4, 2) := by decide +kernel
theorem dX8_fitsAt_59 : decode cX8_fitsAt 59 = .ok (.iload 5, 2) := by decide +kernel
theorem dX8_fitsAt_61 : decode cX8_fitsAt 61 = .ok (.bipush 10, 2) := by decide +kernel
theorem dX8_fitsAt_63 : decode cX8_fitsAt 63 = .ok (.idiv, 1) := by decide +kernel
theorem dX8_fitsAt_64 : decode cX8_fitsAt 64 = .ok (.istore 5, 2) := by decide +kernel
theorem dX8_fitsAt_66 : decode cX8_fitsAt 66 = .ok (.iinc 6 (-1), 3) := by decide +kernel
theorem dX8_fitsAt_69 : decode cX8_fitsAt 69 = .ok (.goto (-44), 3) := by decide +kernel
theorem dX8_fitsAt_72 : decode cX8_fitsAt 72 = .ok (.iload 4, 2) := by decide +kernel
theorem dX8_fitsAt_74 : decode cX8_fitsAt 74 = .ok (.ireturn, 1) := by decide +kernel
theorem dX8_mayBeLaid_0 : decode cX8_mayBeLaid 0 = .ok (.iconst 1, 1) := by decide +kernel
theorem dX8_mayBeLaid_1 : decode cX8_mayBeLaid 1 = .ok (.istore_n 3, 1) := by decide +kernel
theorem dX8_mayBeLaid_2 : decode cX8_mayBeLaid 2 = .ok (.iconst 0, 1) := by decide +kernel
theorem dX8_mayBeLaid_3 : decode cX8_mayBeLaid 3 = .ok (.istore 4, 2) := by decide +kernel
theorem dX8_mayBeLaid_5 : decode cX8_mayBeLaid 5 = .ok (.iload 4, 2) := by decide +kernel
theorem dX8_mayBeLaid_7 : decode cX8_mayBeLaid 7 = .ok (.aload_n 0, 1) := by decide +kernel
theorem dX8_mayBeLaid_8 : decode cX8_mayBeLaid 8 = .ok (.getfield 212, 3) := by decide +kernel
theorem dX8_mayBeLaid_11 : decode cX8_mayBeLaid 11 = .ok (.if_icmp .ge 51, 3) := by decide +kernel
theorem dX8_mayBeLaid_14 : decode cX8_mayBeLaid 14 = .ok (.iload_n 3, 1) := by decide +kernel
theorem dX8_mayBeLaid_15 : decode cX8_mayBeLaid 15 = .ok (.ifCond .eq 39, 3) := by decide +kernel
theorem dX8_mayBeLaid_18 : decode cX8_mayBeLaid 18 = .ok (.aload_n 0, 1) := by decide +kernel
theorem dX8_mayBeLaid_19 : decode cX8_mayBeLaid 19 = .ok (.iload_n 1, 1) := by decide +kernel
theorem dX8_mayBeLaid_20 : decode cX8_mayBeLaid 20 = .ok (.iload_n 2, 1) := by decide +kernel
theorem dX8_mayBeLaid_21 : decode cX8_mayBeLaid 21 = .ok (.aload_n 0, 1) := by decide +kernel
theorem dX8_mayBeLaid_22 : decode cX8_mayBeLaid 22 = .ok (.getfield 37, 3) := by decide +kernel
theorem dX8_mayBeLaid_25 : decode cX8_mayBeLaid 25 = .ok (.iload 4, 2) := by decide +kernel
theorem dX8_mayBeLaid_27 : decode cX8_mayBeLaid 27 = .ok (.iaload, 1) := by decide +kernel
theorem dX8_mayBeLaid_28 : decode cX8_mayBeLaid 28 = .ok (.invokevirtual 215, 3) := by decide +kernel
theorem dX8_mayBeLaid_31 : decode cX8_mayBeLaid 31 = .ok (.aload_n 0, 1) := by decide +kernel
theorem dX8_mayBeLaid_32 : decode cX8_mayBeLaid 32 = .ok (.getfield 40, 3) := by decide +kernel
theorem dX8_mayBeLaid_35 : decode cX8_mayBeLaid 35 = .ok (.iload 4, 2) := by decide +kernel
theorem dX8_mayBeLaid_37 : decode cX8_mayBeLaid 37 = .ok (.iaload, 1) := by decide +kernel
theorem dX8_mayBeLaid_38 : decode cX8_mayBeLaid 38 = .ok (.iconst 1, 1) := by decide +kernel
theorem dX8_mayBeLaid_39 : decode cX8_mayBeLaid 39 = .ok (.if_icmp .ne 7, 3) := by decide +kernel
theorem dX8_mayBeLaid_42 : decode cX8_mayBeLaid 42 = .ok (.iconst 1, 1) := by decide +kernel
theorem dX8_mayBeLaid_43 : decode cX8_mayBeLaid 43 = .ok (.goto 4, 3) := by decide +kernel
theorem dX8_mayBeLaid_46 : decode cX8_mayBeLaid 46 = .ok (.iconst 0, 1) := by decide +kernel
theorem dX8_mayBeLaid_47 : decode cX8_mayBeLaid 47 = .ok (.if_icmp .ne 7, 3) := by decide +kernel
theorem dX8_mayBeLaid_50 : decode cX8_mayBeLaid 50 = .ok (.iconst 1, 1) := by decide +kernel
theorem dX8_mayBeLaid_51 : decode cX8_mayBeLaid 51 = .ok (.goto 4, 3) := by decide +kernel
theorem dX8_mayBeLaid_54 : decode cX8_mayBeLaid 54 = .ok (.iconst 0, 1) := by decide +kernel
theorem dX8_mayBeLaid_55 : decode cX8_mayBeLaid 55 = .ok (.istore_n 3, 1) := by decide +kernel
theorem dX8_mayBeLaid_56 : decode cX8_mayBeLaid 56 = .ok (.iinc 4 1, 3) := by decide +kernel
theorem dX8_mayBeLaid_59 : decode cX8_mayBeLaid 59 = .ok (.goto (-54), 3) := by decide +kernel
theorem dX8_mayBeLaid_62 : decode cX8_mayBeLaid 62 = .ok (.iload_n 3, 1) := by decide +kernel
theorem dX8_mayBeLaid_63 : decode cX8_mayBeLaid 63 = .ok (.ireturn, 1) := by decide +kernel
theorem dX8_areBends_0 : decode cX8_areBends 0 = .ok (.iconst 1, 1) := by decide +kernel
theorem dX8_areBends_1 : decode cX8_areBends 1 = .ok (.istore_n 1, 1) := by decide +kernel
theorem dX8_areBends_2 : decode cX8_areBends 2 = .ok (.iload_n 0, 1) := by decide +kernel
theorem dX8_areBends_3 : decode cX8_areBends 3 = .ok (.istore_n 2, 1) := by decide +kernel
theorem dX8_areBends_4 : decode cX8_areBends 4 = .ok (.iload_n 2, 1) := by decide +kernel
theorem dX8_areBends_5 : decode cX8_areBends 5 = .ok (.ifCond .le 36, 3) := by decide +kernel
theorem dX8_areBends_8 : decode cX8_areBends 8 = .ok (.iload_n 1, 1) := by decide +kernel
theorem dX8_areBends_9 : decode cX8_areBends 9 = .ok (.ifCond .eq 22, 3) := by decide +kernel
theorem dX8_areBends_12 : decode cX8_areBends 12 = .ok (.iload_n 2, 1) := by decide +kernel
theorem dX8_areBends_13 : decode cX8_areBends 13 = .ok (.bipush 10, 2) := by decide +kernel
theorem dX8_areBends_15 : decode cX8_areBends 15 = .ok (.irem, 1) := by decide +kernel
theorem dX8_areBends_16 : decode cX8_areBends 16 = .ok (.i2l, 1) := by decide +kernel
theorem dX8_areBends_17 : decode cX8_areBends 17 = .ok (.lconst 1, 1) := by decide +kernel
theorem dX8_areBends_18 : decode cX8_areBends 18 = .ok (.ldc2_w 144, 3) := by decide +kernel
theorem dX8_areBends_21 : decode cX8_areBends 21 = .ok (.invokestatic 52, 3) := by decide +kernel
theorem dX8_areBends_24 : decode cX8_areBends 24 = .ok (.ifCond .eq 7, 3) := by decide +kernel
theorem dX8_areBends_27 : decode cX8_areBends 27 = .ok (.iconst 1, 1) := by decide +kernel
theorem dX8_areBends_28 : decode cX8_areBends 28 = .ok (.goto 4, 3) := by decide +kernel
theorem dX8_areBends_31 : decode cX8_areBends 31 = .ok (.iconst 0, 1) := by decide +kernel
theorem dX8_areBends_32 : decode cX8_areBends 32 = .ok (.istore_n 1, 1) := by decide +kernel
theorem dX8_areBends_33 : decode cX8_areBends 33 = .ok (.iload_n 2, 1) := by decide +kernel
theorem dX8_areBends_34 : decode cX8_areBends 34 = .ok (.bipush 10, 2) := by decide +kernel
theorem dX8_areBends_36 : decode cX8_areBends 36 = .ok (.idiv, 1) := by decide +kernel
theorem dX8_areBends_37 : decode cX8_areBends 37 = .ok (.istore_n 2, 1) := by decide +kernel
theorem dX8_areBends_38 : decode cX8_areBends 38 = .ok (.goto (-34), 3) := by decide +kernel
theorem dX8_areBends_41 : decode cX8_areBends 41 = .ok (.iload_n 1, 1) := by decide +kernel
theorem dX8_areBends_42 : decode cX8_areBends 42 = .ok (.ireturn, 1) := by decide +kernel
theorem dX8_which_0 : decode cX8_which 0 = .ok (.iload_n 1, 1) := by decide +kernel
theorem dX8_which_1 : decode cX8_which 1 = .ok (.i2l, 1) := by decide +kernel
theorem dX8_which_2 : decode cX8_which 2 = .ok (.lconst 0, 1) := by decide +kernel
theorem dX8_which_3 : decode cX8_which 3 = .ok (.lconst 1, 1) := by decide +kernel
theorem dX8_which_4 : decode cX8_which 4 = .ok (.invokestatic 52, 3) := by decide +kernel
theorem dX8_which_7 : decode cX8_which 7 = .ok (.ifCond .ne 6, 3) := by decide +kernel
theorem dX8_which_10 : decode cX8_which 10 = .ok (.bipush (-2), 2) := by decide +kernel
theorem dX8_which_12 : decode cX8_which 12 = .ok (.ireturn, 1) := by decide +kernel
theorem dX8_which_13 : decode cX8_which 13 = .ok (.iconst 0, 1) := by decide +kernel
theorem dX8_which_14 : decode cX8_which 14 = .ok (.istore_n 2, 1) := by decide +kernel
theorem dX8_which_15 : decode cX8_which 15 = .ok (.bipush (-9), 2) := by decide +kernel
theorem dX8_which_17 : decode cX8_which 17 = .ok (.istore_n 3, 1) := by decide +kernel
theorem dX8_which_18 : decode cX8_which 18 = .ok (.iconst 1, 1) := by decide +kernel
theorem dX8_which_19 : decode cX8_which 19 = .ok (.istore 4, 2) := by decide +kernel
theorem dX8_which_21 : decode cX8_which 21 = .ok (.iload 4, 2) := by decide +kernel
theorem dX8_which_23 : decode cX8_which 23 = .ok (.sipush 445, 3) := by decide +kernel
theorem dX8_which_26 : decode cX8_which 26 = .ok (.if_icmp .ge 67, 3) := by decide +kernel
theorem dX8_which_29 : decode cX8_which 29 = .ok (.iload 4, 2) := by decide +kernel
theorem dX8_which_31 : decode cX8_which 31 = .ok (.bipush 10, 2) := by decide +kernel
theorem dX8_which_33 : decode cX8_which 33 = .ok (.if_icmp .ge 7, 3) := by decide +kernel
theorem dX8_which_36 : decode cX8_which 36 = .ok (.iconst 1, 1) := by decide +kernel
theorem dX8_which_37 : decode cX8_which 37 = .ok (.goto 15, 3) := by decide +kernel
theorem dX8_which_40 : decode cX8_which 40 = .ok (.iload 4, 2) := by decide +kernel
theorem dX8_which_42 : decode cX8_which 42 = .ok (.bipush 100, 2) := by decide +kernel
theorem dX8_which_44 : decode cX8_which 44 = .ok (.if_icmp .ge 7, 3) := by decide +kernel
theorem dX8_which_47 : decode cX8_which 47 = .ok (.iconst 2, 1) := by decide +kernel
theorem dX8_which_48 : decode cX8_which 48 = .ok (.goto 4, 3) := by decide +kernel
theorem dX8_which_51 : decode cX8_which 51 = .ok (.iconst 3, 1) := by decide +kernel
theorem dX8_which_52 : decode cX8_which 52 = .ok (.istore 5, 2) := by decide +kernel
theorem dX8_which_54 : decode cX8_which 54 = .ok (.iload 4, 2) := by decide +kernel
theorem dX8_which_56 : decode cX8_which 56 = .ok (.invokestatic 218, 3) := by decide +kernel
theorem dX8_which_59 : decode cX8_which 59 = .ok (.ifCond .eq 28, 3) := by decide +kernel
theorem dX8_which_62 : decode cX8_which 62 = .ok (.aload_n 0, 1) := by decide +kernel
theorem dX8_which_63 : decode cX8_which 63 = .ok (.iload 4, 2) := by decide +kernel
theorem dX8_which_65 : decode cX8_which 65 = .ok (.iload 5, 2) := by decide +kernel
theorem dX8_which_67 : decode cX8_which 67 = .ok (.invokevirtual 221, 3) := by decide +kernel
theorem dX8_which_70 : decode cX8_which 70 = .ok (.ifCond .eq 17, 3) := by decide +kernel
theorem dX8_which_73 : decode cX8_which 73 = .ok (.iload_n 2, 1) := by decide +kernel
theorem dX8_which_74 : decode cX8_which 74 = .ok (.ifCond .ne 8, 3) := by decide +kernel
theorem dX8_which_77 : decode cX8_which 77 = .ok (.iload 4, 2) := by decide +kernel
theorem dX8_which_79 : decode cX8_which 79 = .ok (.goto 4, 3) := by decide +kernel
theorem dX8_which_82 : decode cX8_which 82 = .ok (.iload_n 3, 1) := by decide +kernel
theorem dX8_which_83 : decode cX8_which 83 = .ok (.istore_n 3, 1) := by decide +kernel
theorem dX8_which_84 : decode cX8_which 84 = .ok (.iinc 2 1, 3) := by decide +kernel
theorem dX8_which_87 : decode cX8_which 87 = .ok (.iinc 4 1, 3) := by decide +kernel
theorem dX8_which_90 : decode cX8_which 90 = .ok (.goto (-69), 3) := by decide +kernel
theorem dX8_which_93 : decode cX8_which 93 = .ok (.iload_n 1, 1) := by decide +kernel
theorem dX8_which_94 : decode cX8_which 94 = .ok (.ifCond .ne 7, 3) := by decide +kernel
theorem dX8_which_97 : decode cX8_which 97 = .ok (.iload_n 2, 1) := by decide +kernel
theorem dX8_which_98 : decode cX8_which 98 = .ok (.goto 4, 3) := by decide +kernel
theorem dX8_which_101 : decode cX8_which 101 = .ok (.iload_n 3, 1) := by decide +kernel
theorem dX8_which_102 : decode cX8_which 102 = .ok (.ireturn, 1) := by decide +kernel
theorem dX8_factorial_0 : decode cX8_factorial 0 = .ok (.iconst 1, 1) := by decide +kernel
theorem dX8_factorial_1 : decode cX8_factorial 1 = .ok (.istore_n 1, 1) := by decide +kernel
theorem dX8_factorial_2 : decode cX8_factorial 2 = .ok (.iconst 2, 1) := by decide +kernel
theorem dX8_factorial_3 : decode cX8_factorial 3 = .ok (.istore_n 2, 1) := by decide +kernel
theorem dX8_factorial_4 : decode cX8_factorial 4 = .ok (.iload_n 2, 1) := by decide +kernel
theorem dX8_factorial_5 : decode cX8_factorial 5 = .ok (.iload_n 0, 1) := by decide +kernel
theorem dX8_factorial_6 : decode cX8_factorial 6 = .ok (.if_icmp .gt 13, 3) := by decide +kernel
theorem dX8_factorial_9 : decode cX8_factorial 9 = .ok (.iload_n 1, 1) := by decide +kernel
theorem dX8_factorial_10 : decode cX8_factorial 10 = .ok (.iload_n 2, 1) := by decide +kernel
theorem dX8_factorial_11 : decode cX8_factorial 11 = .ok (.imul, 1) := by decide +kernel
theorem dX8_factorial_12 : decode cX8_factorial 12 = .ok (.istore_n 1, 1) := by decide +kernel
theorem dX8_factorial_13 : decode cX8_factorial 13 = .ok (.iinc 2 1, 3) := by decide +kernel
theorem dX8_factorial_16 : decode cX8_factorial 16 = .ok (.goto (-12), 3) := by decide +kernel
theorem dX8_factorial_19 : decode cX8_factorial 19 = .ok (.iload_n 1, 1) := by decide +kernel
theorem dX8_factorial_20 : decode cX8_factorial 20 = .ok (.ireturn, 1) := by decide +kernel
theorem dX8_common_0 : decode cX8_common 0 = .ok (.iload_n 0, 1) := by decide +kernel
theorem dX8_common_1 : decode cX8_common 1 = .ok (.ifCond .ge 8, 3) := by decide +kernel
theorem dX8_common_4 : decode cX8_common 4 = .ok (.iload_n 0, 1) := by decide +kernel
theorem dX8_common_5 : decode cX8_common 5 = .ok (.ineg, 1) := by decide +kernel
theorem dX8_common_6 : decode cX8_common 6 = .ok (.goto 4, 3) := by decide +kernel
theorem dX8_common_9 : decode cX8_common 9 = .ok (.iload_n 0, 1) := by decide +kernel
theorem dX8_common_10 : decode cX8_common 10 = .ok (.istore_n 2, 1) := by decide +kernel
theorem dX8_common_11 : decode cX8_common 11 = .ok (.iload_n 1, 1) := by decide +kernel
theorem dX8_common_12 : decode cX8_common 12 = .ok (.istore_n 3, 1) := by decide +kernel
theorem dX8_common_13 : decode cX8_common 13 = .ok (.iload_n 3, 1) := by decide +kernel
theorem dX8_common_14 : decode cX8_common 14 = .ok (.ifCond .eq 16, 3) := by decide +kernel
theorem dX8_common_17 : decode cX8_common 17 = .ok (.iload_n 2, 1) := by decide +kernel
theorem dX8_common_18 : decode cX8_common 18 = .ok (.iload_n 3, 1) := by decide +kernel
theorem dX8_common_19 : decode cX8_common 19 = .ok (.irem, 1) := by decide +kernel
theorem dX8_common_20 : decode cX8_common 20 = .ok (.istore 4, 2) := by decide +kernel
theorem dX8_common_22 : decode cX8_common 22 = .ok (.iload_n 3, 1) := by decide +kernel
theorem dX8_common_23 : decode cX8_common 23 = .ok (.istore_n 2, 1) := by decide +kernel
theorem dX8_common_24 : decode cX8_common 24 = .ok (.iload 4, 2) := by decide +kernel
theorem dX8_common_26 : decode cX8_common 26 = .ok (.istore_n 3, 1) := by decide +kernel
theorem dX8_common_27 : decode cX8_common 27 = .ok (.goto (-14), 3) := by decide +kernel
theorem dX8_common_30 : decode cX8_common 30 = .ok (.iload_n 2, 1) := by decide +kernel
theorem dX8_common_31 : decode cX8_common 31 = .ok (.ireturn, 1) := by decide +kernel
theorem dX8_share_0 : decode cX8_share 0 = .ok (.aload_n 0, 1) := by decide +kernel
theorem dX8_share_1 : decode cX8_share 1 = .ok (.iconst 0, 1) := by decide +kernel
theorem dX8_share_2 : decode cX8_share 2 = .ok (.iload_n 1, 1) := by decide +kernel
theorem dX8_share_3 : decode cX8_share 3 = .ok (.invokevirtual 99, 3) := by decide +kernel
theorem dX8_share_6 : decode cX8_share 6 = .ok (.ifCond .ne 5, 3) := by decide +kernel
theorem dX8_share_9 : decode cX8_share 9 = .ok (.iconst (-1), 1) := by decide +kernel
theorem dX8_share_10 : decode cX8_share 10 = .ok (.ireturn, 1) := by decide +kernel
theorem dX8_share_11 : decode cX8_share 11 = .ok (.aload_n 0, 1) := by decide +kernel
theorem dX8_share_12 : decode cX8_share 12 = .ok (.iconst 0, 1) := by decide +kernel
theorem dX8_share_13 : decode cX8_share 13 = .ok (.invokevirtual 116, 3) := by decide +kernel
theorem dX8_share_16 : decode cX8_share 16 = .ok (.istore_n 3, 1) := by decide +kernel
theorem dX8_share_17 : decode cX8_share 17 = .ok (.iload_n 3, 1) := by decide +kernel
theorem dX8_share_18 : decode cX8_share 18 = .ok (.invokestatic 112, 3) := by decide +kernel
theorem dX8_share_21 : decode cX8_share 21 = .ok (.istore 4, 2) := by decide +kernel
theorem dX8_share_23 : decode cX8_share 23 = .ok (.iconst 0, 1) := by decide +kernel
theorem dX8_share_24 : decode cX8_share 24 = .ok (.istore 5, 2) := by decide +kernel
theorem dX8_share_26 : decode cX8_share 26 = .ok (.iconst 0, 1) := by decide +kernel
theorem dX8_share_27 : decode cX8_share 27 = .ok (.istore 6, 2) := by decide +kernel
theorem dX8_share_29 : decode cX8_share 29 = .ok (.iload 6, 2) := by decide +kernel
theorem dX8_share_31 : decode cX8_share 31 = .ok (.bipush 16, 2) := by decide +kernel
theorem dX8_share_33 : decode cX8_share 33 = .ok (.if_icmp .ge 82, 3) := by decide +kernel
theorem dX8_share_36 : decode cX8_share 36 = .ok (.iload 6, 2) := by decide +kernel
theorem dX8_share_38 : decode cX8_share 38 = .ok (.iload_n 3, 1) := by decide +kernel
theorem dX8_share_39 : decode cX8_share 39 = .ok (.iconst (-1), 1) := by decide +kernel
theorem dX8_share_40 : decode cX8_share 40 = .ok (.ixor, 1) := by decide +kernel
theorem dX8_share_41 : decode cX8_share 41 = .ok (.iand, 1) := by decide +kernel
theorem dX8_share_42 : decode cX8_share 42 = .ok (.ifCond .ne 67, 3) := by decide +kernel
theorem dX8_share_45 : decode cX8_share 45 = .ok (.iload 6, 2) := by decide +kernel
theorem dX8_share_47 : decode cX8_share 47 = .ok (.iload_n 1, 1) := by decide +kernel
theorem dX8_share_48 : decode cX8_share 48 = .ok (.invokestatic 106, 3) := by decide +kernel
theorem dX8_share_51 : decode cX8_share 51 = .ok (.ifCond .ne 58, 3) := by decide +kernel
theorem dX8_share_54 : decode cX8_share 54 = .ok (.iload 6, 2) := by decide +kernel
theorem dX8_share_56 : decode cX8_share 56 = .ok (.invokestatic 112, 3) := by decide +kernel
theorem dX8_share_59 : decode cX8_share 59 = .ok (.invokestatic 224, 3) := by decide +kernel
theorem dX8_share_62 : decode cX8_share 62 = .ok (.iload 4, 2) := by decide +kernel
theorem dX8_share_64 : decode cX8_share 64 = .ok (.iconst 1, 1) := by decide +kernel
theorem dX8_share_65 : decode cX8_share 65 = .ok (.isub, 1) := by decide +kernel
theorem dX8_share_66 : decode cX8_share 66 = .ok (.iload 6, 2) := by decide +kernel
theorem dX8_share_68 : decode cX8_share 68 = .ok (.invokestatic 112, 3) := by decide +kernel
theorem dX8_share_71 : decode cX8_share 71 = .ok (.isub, 1) := by decide +kernel
theorem dX8_share_72 : decode cX8_share 72 = .ok (.invokestatic 224, 3) := by decide +kernel
theorem dX8_share_75 : decode cX8_share 75 = .ok (.imul, 1) := by decide +kernel
theorem dX8_share_76 : decode cX8_share 76 = .ok (.istore 7, 2) := by decide +kernel
theorem dX8_share_78 : decode cX8_share 78 = .ok (.iload 5, 2) := by decide +kernel
theorem dX8_share_80 : decode cX8_share 80 = .ok (.iload 7, 2) := by decide +kernel
theorem dX8_share_82 : decode cX8_share 82 = .ok (.aload_n 0, 1) := by decide +kernel
theorem dX8_share_83 : decode cX8_share 83 = .ok (.iload 6, 2) := by decide +kernel
theorem dX8_share_85 : decode cX8_share 85 = .ok (.iconst 1, 1) := by decide +kernel
theorem dX8_share_86 : decode cX8_share 86 = .ok (.iload_n 1, 1) := by decide +kernel
theorem dX8_share_87 : decode cX8_share 87 = .ok (.ishl, 1) := by decide +kernel
theorem dX8_share_88 : decode cX8_share 88 = .ok (.ior, 1) := by decide +kernel
theorem dX8_share_89 : decode cX8_share 89 = .ok (.invokevirtual 195, 3) := by decide +kernel
theorem dX8_share_92 : decode cX8_share 92 = .ok (.invokestatic 112, 3) := by decide +kernel
theorem dX8_share_95 : decode cX8_share 95 = .ok (.aload_n 0, 1) := by decide +kernel
theorem dX8_share_96 : decode cX8_share 96 = .ok (.iload 6, 2) := by decide +kernel
theorem dX8_share_98 : decode cX8_share 98 = .ok (.invokevirtual 195, 3) := by decide +kernel
theorem dX8_share_101 : decode cX8_share 101 = .ok (.invokestatic 112, 3) := by decide +kernel
theorem dX8_share_104 : decode cX8_share 104 = .ok (.isub, 1) := by decide +kernel
theorem dX8_share_105 : decode cX8_share 105 = .ok (.imul, 1) := by decide +kernel
theorem dX8_share_106 : decode cX8_share 106 = .ok (.iadd, 1) := by decide +kernel
theorem dX8_share_107 : decode cX8_share 107 = .ok (.istore 5, 2) := by decide +kernel
theorem dX8_share_109 : decode cX8_share 109 = .ok (.iinc 6 1, 3) := by decide +kernel
theorem dX8_share_112 : decode cX8_share 112 = .ok (.goto (-83), 3) := by decide +kernel
theorem dX8_share_115 : decode cX8_share 115 = .ok (.iload 5, 2) := by decide +kernel
theorem dX8_share_117 : decode cX8_share 117 = .ok (.iload 4, 2) := by decide +kernel
theorem dX8_share_119 : decode cX8_share 119 = .ok (.invokestatic 224, 3) := by decide +kernel
theorem dX8_share_122 : decode cX8_share 122 = .ok (.invokestatic 227, 3) := by decide +kernel
theorem dX8_share_125 : decode cX8_share 125 = .ok (.istore 6, 2) := by decide +kernel
theorem dX8_share_127 : decode cX8_share 127 = .ok (.iload_n 2, 1) := by decide +kernel
theorem dX8_share_128 : decode cX8_share 128 = .ok (.ifCond .eq 11, 3) := by decide +kernel
theorem dX8_share_131 : decode cX8_share 131 = .ok (.iload 5, 2) := by decide +kernel
theorem dX8_share_133 : decode cX8_share 133 = .ok (.iload 6, 2) := by decide +kernel
theorem dX8_share_135 : decode cX8_share 135 = .ok (.idiv, 1) := by decide +kernel
theorem dX8_share_136 : decode cX8_share 136 = .ok (.goto 11, 3) := by decide +kernel
theorem dX8_share_139 : decode cX8_share 139 = .ok (.iload 4, 2) := by decide +kernel
theorem dX8_share_141 : decode cX8_share 141 = .ok (.invokestatic 224, 3) := by decide +kernel
theorem dX8_share_144 : decode cX8_share 144 = .ok (.iload 6, 2) := by decide +kernel
theorem dX8_share_146 : decode cX8_share 146 = .ok (.idiv, 1) := by decide +kernel
theorem dX8_share_147 : decode cX8_share 147 = .ok (.ireturn, 1) := by decide +kernel
theorem dX8_gain_0 : decode cX8_gain 0 = .ok (.aload_n 0, 1) := by decide +kernel
theorem dX8_gain_1 : decode cX8_gain 1 = .ok (.invokevirtual 180, 3) := by decide +kernel
theorem dX8_gain_4 : decode cX8_gain 4 = .ok (.aload_n 0, 1) := by decide +kernel
theorem dX8_gain_5 : decode cX8_gain 5 = .ok (.getfield 13, 3) := by decide +kernel
theorem dX8_gain_8 : decode cX8_gain 8 = .ok (.bipush 57, 2) := by decide +kernel
theorem dX8_gain_10 : decode cX8_gain 10 = .ok (.iload_n 1, 1) := by decide +kernel
theorem dX8_gain_11 : decode cX8_gain 11 = .ok (.iadd, 1) := by decide +kernel
theorem dX8_gain_12 : decode cX8_gain 12 = .ok (.iload_n 3, 1) := by decide +kernel
theorem dX8_gain_13 : decode cX8_gain 13 = .ok (.iastore, 1) := by decide +kernel
theorem dX8_gain_14 : decode cX8_gain 14 = .ok (.aload_n 0, 1) := by decide +kernel
theorem dX8_gain_15 : decode cX8_gain 15 = .ok (.getfield 13, 3) := by decide +kernel
theorem dX8_gain_18 : decode cX8_gain 18 = .ok (.bipush 57, 2) := by decide +kernel
theorem dX8_gain_20 : decode cX8_gain 20 = .ok (.iload_n 2, 1) := by decide +kernel
theorem dX8_gain_21 : decode cX8_gain 21 = .ok (.iadd, 1) := by decide +kernel
theorem dX8_gain_22 : decode cX8_gain 22 = .ok (.iload 4, 2) := by decide +kernel
theorem dX8_gain_24 : decode cX8_gain 24 = .ok (.iastore, 1) := by decide +kernel
theorem dX8_gain_25 : decode cX8_gain 25 = .ok (.aload_n 0, 1) := by decide +kernel
theorem dX8_gain_26 : decode cX8_gain 26 = .ok (.iconst 1, 1) := by decide +kernel
theorem dX8_gain_27 : decode cX8_gain 27 = .ok (.invokevirtual 163, 3) := by decide +kernel
theorem dX8_gain_30 : decode cX8_gain 30 = .ok (.pop, 1) := by decide +kernel
theorem dX8_gain_31 : decode cX8_gain 31 = .ok (.iconst 2, 1) := by decide +kernel
theorem dX8_gain_32 : decode cX8_gain 32 = .ok (.aload_n 0, 1) := by decide +kernel
theorem dX8_gain_33 : decode cX8_gain 33 = .ok (.getfield 13, 3) := by decide +kernel
theorem dX8_gain_36 : decode cX8_gain 36 = .ok (.bipush 61, 2) := by decide +kernel
theorem dX8_gain_38 : decode cX8_gain 38 = .ok (.iload 5, 2) := by decide +kernel
theorem dX8_gain_40 : decode cX8_gain 40 = .ok (.iadd, 1) := by decide +kernel
theorem dX8_gain_41 : decode cX8_gain 41 = .ok (.iaload, 1) := by decide +kernel
theorem dX8_gain_42 : decode cX8_gain 42 = .ok (.imul, 1) := by decide +kernel
theorem dX8_gain_43 : decode cX8_gain 43 = .ok (.aload_n 0, 1) := by decide +kernel
theorem dX8_gain_44 : decode cX8_gain 44 = .ok (.getfield 13, 3) := by decide +kernel
theorem dX8_gain_47 : decode cX8_gain 47 = .ok (.bipush 57, 2) := by decide +kernel
theorem dX8_gain_49 : decode cX8_gain 49 = .ok (.iload 5, 2) := by decide +kernel
theorem dX8_gain_51 : decode cX8_gain 51 = .ok (.iadd, 1) := by decide +kernel
theorem dX8_gain_52 : decode cX8_gain 52 = .ok (.iaload, 1) := by decide +kernel
theorem dX8_gain_53 : decode cX8_gain 53 = .ok (.aload_n 0, 1) := by decide +kernel
theorem dX8_gain_54 : decode cX8_gain 54 = .ok (.getfield 13, 3) := by decide +kernel
theorem dX8_gain_57 : decode cX8_gain 57 = .ok (.iload 5, 2) := by decide +kernel
theorem dX8_gain_59 : decode cX8_gain 59 = .ok (.iaload, 1) := by decide +kernel
theorem dX8_gain_60 : decode cX8_gain 60 = .ok (.if_icmp .ne 7, 3) := by decide +kernel
theorem dX8_gain_63 : decode cX8_gain 63 = .ok (.iconst 1, 1) := by decide +kernel
theorem dX8_gain_64 : decode cX8_gain 64 = .ok (.goto 4, 3) := by decide +kernel
theorem dX8_gain_67 : decode cX8_gain 67 = .ok (.iconst 0, 1) := by decide +kernel
theorem dX8_gain_68 : decode cX8_gain 68 = .ok (.iadd, 1) := by decide +kernel
theorem dX8_gain_69 : decode cX8_gain 69 = .ok (.ireturn, 1) := by decide +kernel
theorem dX8_isRest_0 : decode cX8_isRest 0 = .ok (.iconst 1, 1) := by decide +kernel
theorem dX8_isRest_1 : decode cX8_isRest 1 = .ok (.istore 5, 2) := by decide +kernel
theorem dX8_isRest_3 : decode cX8_isRest 3 = .ok (.iconst 0, 1) := by decide +kernel
theorem dX8_isRest_4 : decode cX8_isRest 4 = .ok (.istore 6, 2) := by decide +kernel
theorem dX8_isRest_6 : decode cX8_isRest 6 = .ok (.iload 6, 2) := by decide +kernel
theorem dX8_isRest_8 : decode cX8_isRest 8 = .ok (.iconst 4, 1) := by decide +kernel
theorem dX8_isRest_9 : decode cX8_isRest 9 = .ok (.if_icmp .ge 68, 3) := by decide +kernel
theorem dX8_isRest_12 : decode cX8_isRest 12 = .ok (.iload 5, 2) := by decide +kernel
theorem dX8_isRest_14 : decode cX8_isRest 14 = .ok (.ifCond .eq 54, 3) := by decide +kernel
theorem dX8_isRest_17 : decode cX8_isRest 17 = .ok (.aload_n 0, 1) := by decide +kernel
theorem dX8_isRest_18 : decode cX8_isRest 18 = .ok (.iload_n 1, 1) := by decide +kernel
theorem dX8_isRest_19 : decode cX8_isRest 19 = .ok (.iload_n 2, 1) := by decide +kernel
theorem dX8_isRest_20 : decode cX8_isRest 20 = .ok (.iload 6, 2) := by decide +kernel
theorem dX8_isRest_22 : decode cX8_isRest 22 = .ok (.iload 4, 2) := by decide +kernel
theorem dX8_isRest_24 : decode cX8_isRest 24 = .ok (.iload_n 1, 1) := by decide +kernel
theorem dX8_isRest_25 : decode cX8_isRest 25 = .ok (.invokevirtual 230, 3) := by decide +kernel
theorem dX8_isRest_28 : decode cX8_isRest 28 = .ok (.aload_n 0, 1) := by decide +kernel
theorem dX8_isRest_29 : decode cX8_isRest 29 = .ok (.iload_n 1, 1) := by decide +kernel
theorem dX8_isRest_30 : decode cX8_isRest 30 = .ok (.iload_n 2, 1) := by decide +kernel
theorem dX8_isRest_31 : decode cX8_isRest 31 = .ok (.iload_n 3, 1) := by decide +kernel
theorem dX8_isRest_32 : decode cX8_isRest 32 = .ok (.iload 4, 2) := by decide +kernel
theorem dX8_isRest_34 : decode cX8_isRest 34 = .ok (.iload_n 1, 1) := by decide +kernel
theorem dX8_isRest_35 : decode cX8_isRest 35 = .ok (.invokevirtual 230, 3) := by decide +kernel
theorem dX8_isRest_38 : decode cX8_isRest 38 = .ok (.if_icmp .gt 30, 3) := by decide +kernel
theorem dX8_isRest_41 : decode cX8_isRest 41 = .ok (.aload_n 0, 1) := by decide +kernel
theorem dX8_isRest_42 : decode cX8_isRest 42 = .ok (.iload_n 1, 1) := by decide +kernel
theorem dX8_isRest_43 : decode cX8_isRest 43 = .ok (.iload_n 2, 1) := by decide +kernel
theorem dX8_isRest_44 : decode cX8_isRest 44 = .ok (.iload_n 3, 1) := by decide +kernel
theorem dX8_isRest_45 : decode cX8_isRest 45 = .ok (.iload 6, 2) := by decide +kernel
theorem dX8_isRest_47 : decode cX8_isRest 47 = .ok (.iload_n 2, 1) := by decide +kernel
theorem dX8_isRest_48 : decode cX8_isRest 48 = .ok (.invokevirtual 230, 3) := by decide +kernel
theorem dX8_isRest_51 : decode cX8_isRest 51 = .ok (.aload_n 0, 1) := by decide +kernel
theorem dX8_isRest_52 : decode cX8_isRest 52 = .ok (.iload_n 1, 1) := by decide +kernel
theorem dX8_isRest_53 : decode cX8_isRest 53 = .ok (.iload_n 2, 1) := by decide +kernel
theorem dX8_isRest_54 : decode cX8_isRest 54 = .ok (.iload_n 3, 1) := by decide +kernel
theorem dX8_isRest_55 : decode cX8_isRest 55 = .ok (.iload 4, 2) := by decide +kernel
theorem dX8_isRest_57 : decode cX8_isRest 57 = .ok (.iload_n 2, 1) := by decide +kernel
theorem dX8_isRest_58 : decode cX8_isRest 58 = .ok (.invokevirtual 230, 3) := by decide +kernel
theorem dX8_isRest_61 : decode cX8_isRest 61 = .ok (.if_icmp .gt 7, 3) := by decide +kernel
theorem dX8_isRest_64 : decode cX8_isRest 64 = .ok (.iconst 1, 1) := by decide +kernel
theorem dX8_isRest_65 : decode cX8_isRest 65 = .ok (.goto 4, 3) := by decide +kernel
theorem dX8_isRest_68 : decode cX8_isRest 68 = .ok (.iconst 0, 1) := by decide +kernel
theorem dX8_isRest_69 : decode cX8_isRest 69 = .ok (.istore 5, 2) := by decide +kernel
theorem dX8_isRest_71 : decode cX8_isRest 71 = .ok (.iinc 6 1, 3) := by decide +kernel
theorem dX8_isRest_74 : decode cX8_isRest 74 = .ok (.goto (-68), 3) := by decide +kernel
theorem dX8_isRest_77 : decode cX8_isRest 77 = .ok (.iload 5, 2) := by decide +kernel
theorem dX8_isRest_79 : decode cX8_isRest 79 = .ok (.ireturn, 1) := by decide +kernel
theorem dX8_rests_0 : decode cX8_rests 0 = .ok (.aload_n 0, 1) := by decide +kernel
theorem dX8_rests_1 : decode cX8_rests 1 = .ok (.iconst 0, 1) := by decide +kernel
theorem dX8_rests_2 : decode cX8_rests 2 = .ok (.iload_n 1, 1) := by decide +kernel
theorem dX8_rests_3 : decode cX8_rests 3 = .ok (.invokevirtual 99, 3) := by decide +kernel
theorem dX8_rests_6 : decode cX8_rests 6 = .ok (.ifCond .eq 12, 3) := by decide +kernel
theorem dX8_rests_9 : decode cX8_rests 9 = .ok (.aload_n 0, 1) := by decide +kernel
theorem dX8_rests_10 : decode cX8_rests 10 = .ok (.iconst 0, 1) := by decide +kernel
theorem dX8_rests_11 : decode cX8_rests 11 = .ok (.iload_n 2, 1) := by decide +kernel
theorem dX8_rests_12 : decode cX8_rests 12 = .ok (.invokevirtual 99, 3) := by decide +kernel
theorem dX8_rests_15 : decode cX8_rests 15 = .ok (.ifCond .ne 5, 3) := by decide +kernel
theorem dX8_rests_18 : decode cX8_rests 18 = .ok (.iconst (-1), 1) := by decide +kernel
theorem dX8_rests_19 : decode cX8_rests 19 = .ok (.ireturn, 1) := by decide +kernel
theorem dX8_rests_20 : decode cX8_rests 20 = .ok (.iload_n 1, 1) := by decide +kernel
theorem dX8_rests_21 : decode cX8_rests 21 = .ok (.iload_n 2, 1) := by decide +kernel
theorem dX8_rests_22 : decode cX8_rests 22 = .ok (.if_icmp .eq 13, 3) := by decide +kernel
theorem dX8_rests_25 : decode cX8_rests 25 = .ok (.iload_n 3, 1) := by decide +kernel
theorem dX8_rests_26 : decode cX8_rests 26 = .ok (.i2l, 1) := by decide +kernel
theorem dX8_rests_27 : decode cX8_rests 27 = .ok (.lconst 0, 1) := by decide +kernel
theorem dX8_rests_28 : decode cX8_rests 28 = .ok (.lconst 1, 1) := by decide +kernel
theorem dX8_rests_29 : decode cX8_rests 29 = .ok (.invokestatic 52, 3) := by decide +kernel
theorem dX8_rests_32 : decode cX8_rests 32 = .ok (.ifCond .ne 6, 3) := by decide +kernel
theorem dX8_rests_35 : decode cX8_rests 35 = .ok (.bipush (-2), 2) := by decide +kernel
theorem dX8_rests_37 : decode cX8_rests 37 = .ok (.ireturn, 1) := by decide +kernel
theorem dX8_rests_38 : decode cX8_rests 38 = .ok (.iconst 0, 1) := by decide +kernel
theorem dX8_rests_39 : decode cX8_rests 39 = .ok (.istore 4, 2) := by decide +kernel
theorem dX8_rests_41 : decode cX8_rests 41 = .ok (.bipush (-9), 2) := by decide +kernel
theorem dX8_rests_43 : decode cX8_rests 43 = .ok (.istore 5, 2) := by decide +kernel
theorem dX8_rests_45 : decode cX8_rests 45 = .ok (.iconst 0, 1) := by decide +kernel
theorem dX8_rests_46 : decode cX8_rests 46 = .ok (.istore 6, 2) := by decide +kernel
theorem dX8_rests_48 : decode cX8_rests 48 = .ok (.iload 6, 2) := by decide +kernel
theorem dX8_rests_50 : decode cX8_rests 50 = .ok (.bipush 16, 2) := by decide +kernel
theorem dX8_rests_52 : decode cX8_rests 52 = .ok (.if_icmp .ge 53, 3) := by decide +kernel
theorem dX8_rests_55 : decode cX8_rests 55 = .ok (.aload_n 0, 1) := by decide +kernel
theorem dX8_rests_56 : decode cX8_rests 56 = .ok (.iload_n 1, 1) := by decide +kernel
theorem dX8_rests_57 : decode cX8_rests 57 = .ok (.iload_n 2, 1) := by decide +kernel
theorem dX8_rests_58 : decode cX8_rests 58 = .ok (.iload 6, 2) := by decide +kernel
theorem dX8_rests_60 : decode cX8_rests 60 = .ok (.iconst 4, 1) := by decide +kernel
theorem dX8_rests_61 : decode cX8_rests 61 = .ok (.idiv, 1) := by decide +kernel
theorem dX8_rests_62 : decode cX8_rests 62 = .ok (.iload 6, 2) := by decide +kernel
theorem dX8_rests_64 : decode cX8_rests 64 = .ok (.iconst 4, 1) := by decide +kernel
theorem dX8_rests_65 : decode cX8_rests 65 = .ok (.irem, 1) := by decide +kernel
theorem dX8_rests_66 : decode cX8_rests 66 = .ok (.invokevirtual 234, 3) := by decide +kernel
theorem dX8_rests_69 : decode cX8_rests 69 = .ok (.ifCond .eq 30, 3) := by decide +kernel
theorem dX8_rests_72 : decode cX8_rests 72 = .ok (.iload 4, 2) := by decide +kernel
theorem dX8_rests_74 : decode cX8_rests 74 = .ok (.ifCond .ne 18, 3) := by decide +kernel
theorem dX8_rests_77 : decode cX8_rests 77 = .ok (.bipush 10, 2) := by decide +kernel
theorem dX8_rests_79 : decode cX8_rests 79 = .ok (.iload 6, 2) := by decide +kernel
theorem dX8_rests_81 : decode cX8_rests 81 = .ok (.iconst 4, 1) := by decide +kernel
theorem dX8_rests_82 : decode cX8_rests 82 = .ok (.idiv, 1) := by decide +kernel
theorem dX8_rests_83 : decode cX8_rests 83 = .ok (.imul, 1) := by decide +kernel
theorem dX8_rests_84 : decode cX8_rests 84 = .ok (.iload 6, 2) := by decide +kernel
theorem dX8_rests_86 : decode cX8_rests 86 = .ok (.iconst 4, 1) := by decide +kernel
theorem dX8_rests_87 : decode cX8_rests 87 = .ok (.irem, 1) := by decide +kernel
theorem dX8_rests_88 : decode cX8_rests 88 = .ok (.iadd, 1) := by decide +kernel
theorem dX8_rests_89 : decode cX8_rests 89 = .ok (.goto 5, 3) := by decide +kernel
theorem dX8_rests_92 : decode cX8_rests 92 = .ok (.iload 5, 2) := by decide +kernel
theorem dX8_rests_94 : decode cX8_rests 94 = .ok (.istore 5, 2) := by decide +kernel
theorem dX8_rests_96 : decode cX8_rests 96 = .ok (.iinc 4 1, 3) := by decide +kernel
theorem dX8_rests_99 : decode cX8_rests 99 = .ok (.iinc 6 1, 3) := by decide +kernel
theorem dX8_rests_102 : decode cX8_rests 102 = .ok (.goto (-54), 3) := by decide +kernel
theorem dX8_rests_105 : decode cX8_rests 105 = .ok (.iload_n 3, 1) := by decide +kernel
theorem dX8_rests_106 : decode cX8_rests 106 = .ok (.ifCond .ne 8, 3) := by decide +kernel
theorem dX8_rests_109 : decode cX8_rests 109 = .ok (.iload 4, 2) := by decide +kernel
theorem dX8_rests_111 : decode cX8_rests 111 = .ok (.goto 5, 3) := by decide +kernel
theorem dX8_rests_114 : decode cX8_rests 114 = .ok (.iload 5, 2) := by decide +kernel
theorem dX8_rests_116 : decode cX8_rests 116 = .ok (.ireturn, 1) := by decide +kernel
theorem dX8_power_0 : decode cX8_power 0 = .ok (.iconst 1, 1) := by decide +kernel
theorem dX8_power_1 : decode cX8_power 1 = .ok (.istore_n 2, 1) := by decide +kernel
theorem dX8_power_2 : decode cX8_power 2 = .ok (.iconst 0, 1) := by decide +kernel
theorem dX8_power_3 : decode cX8_power 3 = .ok (.istore_n 3, 1) := by decide +kernel
theorem dX8_power_4 : decode cX8_power 4 = .ok (.iload_n 3, 1) := by decide +kernel
theorem dX8_power_5 : decode cX8_power 5 = .ok (.iload_n 1, 1) := by decide +kernel
theorem dX8_power_6 : decode cX8_power 6 = .ok (.if_icmp .ge 13, 3) := by decide +kernel
theorem dX8_power_9 : decode cX8_power 9 = .ok (.iload_n 2, 1) := by decide +kernel
theorem dX8_power_10 : decode cX8_power 10 = .ok (.iload_n 0, 1) := by decide +kernel
theorem dX8_power_11 : decode cX8_power 11 = .ok (.imul, 1) := by decide +kernel
theorem dX8_power_12 : decode cX8_power 12 = .ok (.istore_n 2, 1) := by decide +kernel
theorem dX8_power_13 : decode cX8_power 13 = .ok (.iinc 3 1, 3) := by decide +kernel
theorem dX8_power_16 : decode cX8_power 16 = .ok (.goto (-12), 3) := by decide +kernel
theorem dX8_power_19 : decode cX8_power 19 = .ok (.iload_n 2, 1) := by decide +kernel
theorem dX8_power_20 : decode cX8_power 20 = .ok (.ireturn, 1) := by decide +kernel
theorem dX8_lost_0 : decode cX8_lost 0 = .ok (.iload_n 1, 1) := by decide +kernel
theorem dX8_lost_1 : decode cX8_lost 1 = .ok (.i2l, 1) := by decide +kernel
theorem dX8_lost_2 : decode cX8_lost 2 = .ok (.lconst 0, 1) := by decide +kernel
theorem dX8_lost_3 : decode cX8_lost 3 = .ok (.ldc2_w 136, 3) := by decide +kernel
theorem dX8_lost_6 : decode cX8_lost 6 = .ok (.invokestatic 52, 3) := by decide +kernel
theorem dX8_lost_9 : decode cX8_lost 9 = .ok (.ifCond .ne 6, 3) := by decide +kernel
theorem dX8_lost_12 : decode cX8_lost 12 = .ok (.bipush (-2), 2) := by decide +kernel
theorem dX8_lost_14 : decode cX8_lost 14 = .ok (.ireturn, 1) := by decide +kernel
theorem dX8_lost_15 : decode cX8_lost 15 = .ok (.aload_n 0, 1) := by decide +kernel
theorem dX8_lost_16 : decode cX8_lost 16 = .ok (.iconst 0, 1) := by decide +kernel
theorem dX8_lost_17 : decode cX8_lost 17 = .ok (.invokevirtual 116, 3) := by decide +kernel
theorem dX8_lost_20 : decode cX8_lost 20 = .ok (.istore_n 3, 1) := by decide +kernel
theorem dX8_lost_21 : decode cX8_lost 21 = .ok (.iconst 0, 1) := by decide +kernel
theorem dX8_lost_22 : decode cX8_lost 22 = .ok (.istore 4, 2) := by decide +kernel
theorem dX8_lost_24 : decode cX8_lost 24 = .ok (.iconst 0, 1) := by decide +kernel
theorem dX8_lost_25 : decode cX8_lost 25 = .ok (.istore 5, 2) := by decide +kernel
theorem dX8_lost_27 : decode cX8_lost 27 = .ok (.iconst 0, 1) := by decide +kernel
theorem dX8_lost_28 : decode cX8_lost 28 = .ok (.istore 6, 2) := by decide +kernel
theorem dX8_lost_30 : decode cX8_lost 30 = .ok (.iload 6, 2) := by decide +kernel
theorem dX8_lost_32 : decode cX8_lost 32 = .ok (.bipush 16, 2) := by decide +kernel
theorem dX8_lost_34 : decode cX8_lost 34 = .ok (.if_icmp .ge 82, 3) := by decide +kernel
theorem dX8_lost_37 : decode cX8_lost 37 = .ok (.iload 6, 2) := by decide +kernel
theorem dX8_lost_39 : decode cX8_lost 39 = .ok (.iload_n 3, 1) := by decide +kernel
theorem dX8_lost_40 : decode cX8_lost 40 = .ok (.iconst (-1), 1) := by decide +kernel
theorem dX8_lost_41 : decode cX8_lost 41 = .ok (.ixor, 1) := by decide +kernel
theorem dX8_lost_42 : decode cX8_lost 42 = .ok (.iand, 1) := by decide +kernel
theorem dX8_lost_43 : decode cX8_lost 43 = .ok (.ifCond .ne 67, 3) := by decide +kernel
theorem dX8_lost_46 : decode cX8_lost 46 = .ok (.bipush 10, 2) := by decide +kernel
theorem dX8_lost_48 : decode cX8_lost 48 = .ok (.iload_n 1, 1) := by decide +kernel
theorem dX8_lost_49 : decode cX8_lost 49 = .ok (.isub, 1) := by decide +kernel
theorem dX8_lost_50 : decode cX8_lost 50 = .ok (.iload 6, 2) := by decide +kernel
theorem dX8_lost_52 : decode cX8_lost 52 = .ok (.invokestatic 112, 3) := by decide +kernel
theorem dX8_lost_55 : decode cX8_lost 55 = .ok (.invokestatic 238, 3) := by decide +kernel
theorem dX8_lost_58 : decode cX8_lost 58 = .ok (.iload_n 1, 1) := by decide +kernel
theorem dX8_lost_59 : decode cX8_lost 59 = .ok (.iload_n 3, 1) := by decide +kernel
theorem dX8_lost_60 : decode cX8_lost 60 = .ok (.invokestatic 112, 3) := by decide +kernel
theorem dX8_lost_63 : decode cX8_lost 63 = .ok (.iload 6, 2) := by decide +kernel
theorem dX8_lost_65 : decode cX8_lost 65 = .ok (.invokestatic 112, 3) := by decide +kernel
theorem dX8_lost_68 : decode cX8_lost 68 = .ok (.isub, 1) := by decide +kernel
theorem dX8_lost_69 : decode cX8_lost 69 = .ok (.invokestatic 238, 3) := by decide +kernel
theorem dX8_lost_72 : decode cX8_lost 72 = .ok (.imul, 1) := by decide +kernel
theorem dX8_lost_73 : decode cX8_lost 73 = .ok (.istore 7, 2) := by decide +kernel
theorem dX8_lost_75 : decode cX8_lost 75 = .ok (.iload 5, 2) := by decide +kernel
theorem dX8_lost_77 : decode cX8_lost 77 = .ok (.iload 7, 2) := by decide +kernel
theorem dX8_lost_79 : decode cX8_lost 79 = .ok (.iadd, 1) := by decide +kernel
theorem dX8_lost_80 : decode cX8_lost 80 = .ok (.istore 5, 2) := by decide +kernel
theorem dX8_lost_82 : decode cX8_lost 82 = .ok (.iload 4, 2) := by decide +kernel
theorem dX8_lost_84 : decode cX8_lost 84 = .ok (.aload_n 0, 1) := by decide +kernel
theorem dX8_lost_85 : decode cX8_lost 85 = .ok (.iload 6, 2) := by decide +kernel
theorem dX8_lost_87 : decode cX8_lost 87 = .ok (.invokevirtual 195, 3) := by decide +kernel
theorem dX8_lost_90 : decode cX8_lost 90 = .ok (.iconst 1, 1) := by decide +kernel
theorem dX8_lost_91 : decode cX8_lost 91 = .ok (.aload_n 0, 1) := by decide +kernel
theorem dX8_lost_92 : decode cX8_lost 92 = .ok (.getfield 146, 3) := by decide +kernel
theorem dX8_lost_95 : decode cX8_lost 95 = .ok (.ishl, 1) := by decide +kernel
theorem dX8_lost_96 : decode cX8_lost 96 = .ok (.iconst 1, 1) := by decide +kernel
theorem dX8_lost_97 : decode cX8_lost 97 = .ok (.isub, 1) := by decide +kernel
theorem dX8_lost_98 : decode cX8_lost 98 = .ok (.if_icmp .ne 8, 3) := by decide +kernel
theorem dX8_lost_101 : decode cX8_lost 101 = .ok (.iload 7, 2) := by decide +kernel
theorem dX8_lost_103 : decode cX8_lost 103 = .ok (.goto 4, 3) := by decide +kernel
theorem dX8_lost_106 : decode cX8_lost 106 = .ok (.iconst 0, 1) := by decide +kernel
theorem dX8_lost_107 : decode cX8_lost 107 = .ok (.iadd, 1) := by decide +kernel
theorem dX8_lost_108 : decode cX8_lost 108 = .ok (.istore 4, 2) := by decide +kernel
theorem dX8_lost_110 : decode cX8_lost 110 = .ok (.iinc 6 1, 3) := by decide +kernel
theorem dX8_lost_113 : decode cX8_lost 113 = .ok (.goto (-83), 3) := by decide +kernel
theorem dX8_lost_116 : decode cX8_lost 116 = .ok (.iload 4, 2) := by decide +kernel
theorem dX8_lost_118 : decode cX8_lost 118 = .ok (.iload 5, 2) := by decide +kernel
theorem dX8_lost_120 : decode cX8_lost 120 = .ok (.invokestatic 227, 3) := by decide +kernel
theorem dX8_lost_123 : decode cX8_lost 123 = .ok (.istore 6, 2) := by decide +kernel
theorem dX8_lost_125 : decode cX8_lost 125 = .ok (.iload_n 2, 1) := by decide +kernel
theorem dX8_lost_126 : decode cX8_lost 126 = .ok (.ifCond .eq 11, 3) := by decide +kernel
theorem dX8_lost_129 : decode cX8_lost 129 = .ok (.iload 4, 2) := by decide +kernel
theorem dX8_lost_131 : decode cX8_lost 131 = .ok (.iload 6, 2) := by decide +kernel
theorem dX8_lost_133 : decode cX8_lost 133 = .ok (.idiv, 1) := by decide +kernel
theorem dX8_lost_134 : decode cX8_lost 134 = .ok (.goto 8, 3) := by decide +kernel
theorem dX8_lost_137 : decode cX8_lost 137 = .ok (.iload 5, 2) := by decide +kernel
theorem dX8_lost_139 : decode cX8_lost 139 = .ok (.iload 6, 2) := by decide +kernel
theorem dX8_lost_141 : decode cX8_lost 141 = .ok (.idiv, 1) := by decide +kernel
theorem dX8_lost_142 : decode cX8_lost 142 = .ok (.ireturn, 1) := by decide +kernel
theorem dX8_seed_0 : decode cX8_seed 0 = .ok (.aload_n 0, 1) := by decide +kernel
theorem dX8_seed_1 : decode cX8_seed 1 = .ok (.getfield 241, 3) := by decide +kernel
theorem dX8_seed_4 : decode cX8_seed 4 = .ok (.lstore_n 3, 1) := by decide +kernel
theorem dX8_seed_5 : decode cX8_seed 5 = .ok (.aload_n 0, 1) := by decide +kernel
theorem dX8_seed_6 : decode cX8_seed 6 = .ok (.lload_n 1, 1) := by decide +kernel
theorem dX8_seed_7 : decode cX8_seed 7 = .ok (.putfield 241, 3) := by decide +kernel
theorem dX8_seed_10 : decode cX8_seed 10 = .ok (.lload_n 3, 1) := by decide +kernel
theorem dX8_seed_11 : decode cX8_seed 11 = .ok (.lreturn, 1) := by decide +kernel
theorem dX8_bendsOfAll_0 : decode cX8_bendsOfAll 0 = .ok (.iconst 0, 1) := by decide +kernel
theorem dX8_bendsOfAll_1 : decode cX8_bendsOfAll 1 = .ok (.istore_n 2, 1) := by decide +kernel
theorem dX8_bendsOfAll_2 : decode cX8_bendsOfAll 2 = .ok (.iconst 0, 1) := by decide +kernel
theorem dX8_bendsOfAll_3 : decode cX8_bendsOfAll 3 = .ok (.istore_n 3, 1) := by decide +kernel
end
section
theorem dX8_bendsOfAll_4 : decode cX8_bendsOfAll 4 = .ok (.iload_n 3, 1) := by decide +kernel
theorem dX8_bendsOfAll_5 : decode cX8_bendsOfAll 5 = .ok (.aload_n 0, 1) := by decide +kernel
theorem dX8_bendsOfAll_6 : decode cX8_bendsOfAll 6 = .ok (.getfield 89, 3) := by decide +kernel
theorem dX8_bendsOfAll_9 : decode cX8_bendsOfAll 9 = .ok (.if_icmp .ge 25, 3) := by decide +kernel
theorem dX8_bendsOfAll_12 : decode cX8_bendsOfAll 12 = .ok (.iload_n 2, 1) := by decide +kernel
theorem dX8_bendsOfAll_13 : decode cX8_bendsOfAll 13 = .ok (.aload_n 0, 1) := by decide +kernel
theorem dX8_bendsOfAll_14 : decode cX8_bendsOfAll 14 = .ok (.getfield 13, 3) := by decide +kernel
theorem dX8_bendsOfAll_17 : decode cX8_bendsOfAll 17 = .ok (.bipush 57, 2) := by decide +kernel
theorem dX8_bendsOfAll_19 : decode cX8_bendsOfAll 19 = .ok (.iload_n 1, 1) := by decide +kernel
theorem dX8_bendsOfAll_20 : decode cX8_bendsOfAll 20 = .ok (.imul, 1) := by decide +kernel
theorem dX8_bendsOfAll_21 : decode cX8_bendsOfAll 21 = .ok (.iconst 4, 1) := by decide +kernel
theorem dX8_bendsOfAll_22 : decode cX8_bendsOfAll 22 = .ok (.iadd, 1) := by decide +kernel
theorem dX8_bendsOfAll_23 : decode cX8_bendsOfAll 23 = .ok (.iload_n 3, 1) := by decide +kernel
theorem dX8_bendsOfAll_24 : decode cX8_bendsOfAll 24 = .ok (.iadd, 1) := by decide +kernel
theorem dX8_bendsOfAll_25 : decode cX8_bendsOfAll 25 = .ok (.iaload, 1) := by decide +kernel
theorem dX8_bendsOfAll_26 : decode cX8_bendsOfAll 26 = .ok (.iadd, 1) := by decide +kernel
theorem dX8_bendsOfAll_27 : decode cX8_bendsOfAll 27 = .ok (.istore_n 2, 1) := by decide +kernel
theorem dX8_bendsOfAll_28 : decode cX8_bendsOfAll 28 = .ok (.iinc 3 1, 3) := by decide +kernel
theorem dX8_bendsOfAll_31 : decode cX8_bendsOfAll 31 = .ok (.goto (-27), 3) := by decide +kernel
theorem dX8_bendsOfAll_34 : decode cX8_bendsOfAll 34 = .ok (.iload_n 2, 1) := by decide +kernel
theorem dX8_bendsOfAll_35 : decode cX8_bendsOfAll 35 = .ok (.ireturn, 1) := by decide +kernel
theorem dX8_years_0 : decode cX8_years 0 = .ok (.iload_n 1, 1) := by decide +kernel
theorem dX8_years_1 : decode cX8_years 1 = .ok (.i2l, 1) := by decide +kernel
theorem dX8_years_2 : decode cX8_years 2 = .ok (.lconst 1, 1) := by decide +kernel
theorem dX8_years_3 : decode cX8_years 3 = .ok (.ldc2_w 245, 3) := by decide +kernel
theorem dX8_years_6 : decode cX8_years 6 = .ok (.invokestatic 52, 3) := by decide +kernel
theorem dX8_years_9 : decode cX8_years 9 = .ok (.ifCond .ne 6, 3) := by decide +kernel
theorem dX8_years_12 : decode cX8_years 12 = .ok (.bipush (-2), 2) := by decide +kernel
theorem dX8_years_14 : decode cX8_years 14 = .ok (.ireturn, 1) := by decide +kernel
theorem dX8_years_15 : decode cX8_years 15 = .ok (.aload_n 0, 1) := by decide +kernel
theorem dX8_years_16 : decode cX8_years 16 = .ok (.invokevirtual 180, 3) := by decide +kernel
theorem dX8_years_19 : decode cX8_years 19 = .ok (.iconst 0, 1) := by decide +kernel
theorem dX8_years_20 : decode cX8_years 20 = .ok (.istore_n 2, 1) := by decide +kernel
theorem dX8_years_21 : decode cX8_years 21 = .ok (.iconst 0, 1) := by decide +kernel
theorem dX8_years_22 : decode cX8_years 22 = .ok (.istore_n 3, 1) := by decide +kernel
theorem dX8_years_23 : decode cX8_years 23 = .ok (.iload_n 3, 1) := by decide +kernel
theorem dX8_years_24 : decode cX8_years 24 = .ok (.iload_n 1, 1) := by decide +kernel
theorem dX8_years_25 : decode cX8_years 25 = .ok (.if_icmp .ge 125, 3) := by decide +kernel
theorem dX8_years_28 : decode cX8_years 28 = .ok (.aload_n 0, 1) := by decide +kernel
theorem dX8_years_29 : decode cX8_years 29 = .ok (.aload_n 0, 1) := by decide +kernel
theorem dX8_years_30 : decode cX8_years 30 = .ok (.getfield 241, 3) := by decide +kernel
theorem dX8_years_33 : decode cX8_years 33 = .ok (.ldc2_w 247, 3) := by decide +kernel
theorem dX8_years_36 : decode cX8_years 36 = .ok (.lmul, 1) := by decide +kernel
theorem dX8_years_37 : decode cX8_years 37 = .ok (.ldc2_w 249, 3) := by decide +kernel
theorem dX8_years_40 : decode cX8_years 40 = .ok (.ladd, 1) := by decide +kernel
theorem dX8_years_41 : decode cX8_years 41 = .ok (.putfield 241, 3) := by decide +kernel
theorem dX8_years_44 : decode cX8_years 44 = .ok (.aload_n 0, 1) := by decide +kernel
theorem dX8_years_45 : decode cX8_years 45 = .ok (.getfield 241, 3) := by decide +kernel
theorem dX8_years_48 : decode cX8_years 48 = .ok (.bipush 33, 2) := by decide +kernel
theorem dX8_years_50 : decode cX8_years 50 = .ok (.lushr, 1) := by decide +kernel
theorem dX8_years_51 : decode cX8_years 51 = .ok (.ldc2_w 251, 3) := by decide +kernel
theorem dX8_years_54 : decode cX8_years 54 = .ok (.lrem, 1) := by decide +kernel
theorem dX8_years_55 : decode cX8_years 55 = .ok (.l2i, 1) := by decide +kernel
theorem dX8_years_56 : decode cX8_years 56 = .ok (.istore 4, 2) := by decide +kernel
theorem dX8_years_58 : decode cX8_years 58 = .ok (.iload 4, 2) := by decide +kernel
theorem dX8_years_60 : decode cX8_years 60 = .ok (.bipush 22, 2) := by decide +kernel
theorem dX8_years_62 : decode cX8_years 62 = .ok (.if_icmp .le 12, 3) := by decide +kernel
theorem dX8_years_65 : decode cX8_years 65 = .ok (.aload_n 0, 1) := by decide +kernel
theorem dX8_years_66 : decode cX8_years 66 = .ok (.iconst 1, 1) := by decide +kernel
theorem dX8_years_67 : decode cX8_years 67 = .ok (.invokevirtual 163, 3) := by decide +kernel
theorem dX8_years_70 : decode cX8_years 70 = .ok (.pop, 1) := by decide +kernel
theorem dX8_years_71 : decode cX8_years 71 = .ok (.goto 65, 3) := by decide +kernel
theorem dX8_years_74 : decode cX8_years 74 = .ok (.iload 4, 2) := by decide +kernel
theorem dX8_years_76 : decode cX8_years 76 = .ok (.bipush 19, 2) := by decide +kernel
theorem dX8_years_78 : decode cX8_years 78 = .ok (.if_icmp .le 22, 3) := by decide +kernel
theorem dX8_years_81 : decode cX8_years 81 = .ok (.aload_n 0, 1) := by decide +kernel
theorem dX8_years_82 : decode cX8_years 82 = .ok (.iconst 4, 1) := by decide +kernel
theorem dX8_years_83 : decode cX8_years 83 = .ok (.iload 4, 2) := by decide +kernel
theorem dX8_years_85 : decode cX8_years 85 = .ok (.bipush 20, 2) := by decide +kernel
theorem dX8_years_87 : decode cX8_years 87 = .ok (.isub, 1) := by decide +kernel
theorem dX8_years_88 : decode cX8_years 88 = .ok (.iload 4, 2) := by decide +kernel
theorem dX8_years_90 : decode cX8_years 90 = .ok (.bipush 19, 2) := by decide +kernel
theorem dX8_years_92 : decode cX8_years 92 = .ok (.isub, 1) := by decide +kernel
theorem dX8_years_93 : decode cX8_years 93 = .ok (.invokevirtual 207, 3) := by decide +kernel
theorem dX8_years_96 : decode cX8_years 96 = .ok (.pop, 1) := by decide +kernel
theorem dX8_years_97 : decode cX8_years 97 = .ok (.goto 39, 3) := by decide +kernel
theorem dX8_years_100 : decode cX8_years 100 = .ok (.iload 4, 2) := by decide +kernel
theorem dX8_years_102 : decode cX8_years 102 = .ok (.bipush 15, 2) := by decide +kernel
theorem dX8_years_104 : decode cX8_years 104 = .ok (.if_icmp .le 18, 3) := by decide +kernel
theorem dX8_years_107 : decode cX8_years 107 = .ok (.aload_n 0, 1) := by decide +kernel
theorem dX8_years_108 : decode cX8_years 108 = .ok (.iconst 2, 1) := by decide +kernel
theorem dX8_years_109 : decode cX8_years 109 = .ok (.iconst 0, 1) := by decide +kernel
theorem dX8_years_110 : decode cX8_years 110 = .ok (.iload 4, 2) := by decide +kernel
theorem dX8_years_112 : decode cX8_years 112 = .ok (.bipush 16, 2) := by decide +kernel
theorem dX8_years_114 : decode cX8_years 114 = .ok (.isub, 1) := by decide +kernel
theorem dX8_years_115 : decode cX8_years 115 = .ok (.invokevirtual 207, 3) := by decide +kernel
theorem dX8_years_118 : decode cX8_years 118 = .ok (.pop, 1) := by decide +kernel
theorem dX8_years_119 : decode cX8_years 119 = .ok (.goto 17, 3) := by decide +kernel
theorem dX8_years_122 : decode cX8_years 122 = .ok (.aload_n 0, 1) := by decide +kernel
theorem dX8_years_123 : decode cX8_years 123 = .ok (.iconst 1, 1) := by decide +kernel
theorem dX8_years_124 : decode cX8_years 124 = .ok (.iload 4, 2) := by decide +kernel
theorem dX8_years_126 : decode cX8_years 126 = .ok (.iconst 4, 1) := by decide +kernel
theorem dX8_years_127 : decode cX8_years 127 = .ok (.idiv, 1) := by decide +kernel
theorem dX8_years_128 : decode cX8_years 128 = .ok (.iload 4, 2) := by decide +kernel
theorem dX8_years_130 : decode cX8_years 130 = .ok (.iconst 4, 1) := by decide +kernel
theorem dX8_years_131 : decode cX8_years 131 = .ok (.irem, 1) := by decide +kernel
theorem dX8_years_132 : decode cX8_years 132 = .ok (.invokevirtual 207, 3) := by decide +kernel
theorem dX8_years_135 : decode cX8_years 135 = .ok (.pop, 1) := by decide +kernel
theorem dX8_years_136 : decode cX8_years 136 = .ok (.iload_n 2, 1) := by decide +kernel
theorem dX8_years_137 : decode cX8_years 137 = .ok (.aload_n 0, 1) := by decide +kernel
theorem dX8_years_138 : decode cX8_years 138 = .ok (.iconst 1, 1) := by decide +kernel
theorem dX8_years_139 : decode cX8_years 139 = .ok (.invokevirtual 253, 3) := by decide +kernel
theorem dX8_years_142 : decode cX8_years 142 = .ok (.iadd, 1) := by decide +kernel
theorem dX8_years_143 : decode cX8_years 143 = .ok (.istore_n 2, 1) := by decide +kernel
theorem dX8_years_144 : decode cX8_years 144 = .ok (.iinc 3 1, 3) := by decide +kernel
theorem dX8_years_147 : decode cX8_years 147 = .ok (.goto (-124), 3) := by decide +kernel
theorem dX8_years_150 : decode cX8_years 150 = .ok (.iload_n 2, 1) := by decide +kernel
theorem dX8_years_151 : decode cX8_years 151 = .ok (.ireturn, 1) := by decide +kernel
theorem dX8_keep_0 : decode cX8_keep 0 = .ok (.iload_n 1, 1) := by decide +kernel
theorem dX8_keep_1 : decode cX8_keep 1 = .ok (.i2l, 1) := by decide +kernel
theorem dX8_keep_2 : decode cX8_keep 2 = .ok (.lconst 0, 1) := by decide +kernel
theorem dX8_keep_3 : decode cX8_keep 3 = .ok (.lconst 1, 1) := by decide +kernel
theorem dX8_keep_4 : decode cX8_keep 4 = .ok (.invokestatic 52, 3) := by decide +kernel
theorem dX8_keep_7 : decode cX8_keep 7 = .ok (.ifCond .ne 5, 3) := by decide +kernel
theorem dX8_keep_10 : decode cX8_keep 10 = .ok (.iconst (-1), 1) := by decide +kernel
theorem dX8_keep_11 : decode cX8_keep 11 = .ok (.ireturn, 1) := by decide +kernel
theorem dX8_keep_12 : decode cX8_keep 12 = .ok (.aload_n 0, 1) := by decide +kernel
theorem dX8_keep_13 : decode cX8_keep 13 = .ok (.getfield 43, 3) := by decide +kernel
theorem dX8_keep_16 : decode cX8_keep 16 = .ok (.iload_n 1, 1) := by decide +kernel
theorem dX8_keep_17 : decode cX8_keep 17 = .ok (.iconst 1, 1) := by decide +kernel
theorem dX8_keep_18 : decode cX8_keep 18 = .ok (.bastore, 1) := by decide +kernel
theorem dX8_keep_19 : decode cX8_keep 19 = .ok (.iconst 0, 1) := by decide +kernel
theorem dX8_keep_20 : decode cX8_keep 20 = .ok (.istore_n 2, 1) := by decide +kernel
theorem dX8_keep_21 : decode cX8_keep 21 = .ok (.iload_n 2, 1) := by decide +kernel
theorem dX8_keep_22 : decode cX8_keep 22 = .ok (.bipush 57, 2) := by decide +kernel
theorem dX8_keep_24 : decode cX8_keep 24 = .ok (.if_icmp .ge 26, 3) := by decide +kernel
theorem dX8_keep_27 : decode cX8_keep 27 = .ok (.aload_n 0, 1) := by decide +kernel
theorem dX8_keep_28 : decode cX8_keep 28 = .ok (.getfield 47, 3) := by decide +kernel
theorem dX8_keep_31 : decode cX8_keep 31 = .ok (.bipush 57, 2) := by decide +kernel
theorem dX8_keep_33 : decode cX8_keep 33 = .ok (.iload_n 1, 1) := by decide +kernel
theorem dX8_keep_34 : decode cX8_keep 34 = .ok (.imul, 1) := by decide +kernel
theorem dX8_keep_35 : decode cX8_keep 35 = .ok (.iload_n 2, 1) := by decide +kernel
theorem dX8_keep_36 : decode cX8_keep 36 = .ok (.iadd, 1) := by decide +kernel
theorem dX8_keep_37 : decode cX8_keep 37 = .ok (.aload_n 0, 1) := by decide +kernel
theorem dX8_keep_38 : decode cX8_keep 38 = .ok (.getfield 13, 3) := by decide +kernel
theorem dX8_keep_41 : decode cX8_keep 41 = .ok (.iload_n 2, 1) := by decide +kernel
theorem dX8_keep_42 : decode cX8_keep 42 = .ok (.iaload, 1) := by decide +kernel
theorem dX8_keep_43 : decode cX8_keep 43 = .ok (.iastore, 1) := by decide +kernel
theorem dX8_keep_44 : decode cX8_keep 44 = .ok (.iinc 2 1, 3) := by decide +kernel
theorem dX8_keep_47 : decode cX8_keep 47 = .ok (.goto (-26), 3) := by decide +kernel
theorem dX8_keep_50 : decode cX8_keep 50 = .ok (.aload_n 0, 1) := by decide +kernel
theorem dX8_keep_51 : decode cX8_keep 51 = .ok (.getfield 13, 3) := by decide +kernel
theorem dX8_keep_54 : decode cX8_keep 54 = .ok (.bipush 56, 2) := by decide +kernel
theorem dX8_keep_56 : decode cX8_keep 56 = .ok (.iaload, 1) := by decide +kernel
theorem dX8_keep_57 : decode cX8_keep 57 = .ok (.ireturn, 1) := by decide +kernel
theorem dX8_again_0 : decode cX8_again 0 = .ok (.iload_n 1, 1) := by decide +kernel
theorem dX8_again_1 : decode cX8_again 1 = .ok (.i2l, 1) := by decide +kernel
theorem dX8_again_2 : decode cX8_again 2 = .ok (.lconst 0, 1) := by decide +kernel
theorem dX8_again_3 : decode cX8_again 3 = .ok (.lconst 1, 1) := by decide +kernel
theorem dX8_again_4 : decode cX8_again 4 = .ok (.invokestatic 52, 3) := by decide +kernel
theorem dX8_again_7 : decode cX8_again 7 = .ok (.ifCond .ne 5, 3) := by decide +kernel
theorem dX8_again_10 : decode cX8_again 10 = .ok (.iconst (-1), 1) := by decide +kernel
theorem dX8_again_11 : decode cX8_again 11 = .ok (.ireturn, 1) := by decide +kernel
theorem dX8_again_12 : decode cX8_again 12 = .ok (.aload_n 0, 1) := by decide +kernel
theorem dX8_again_13 : decode cX8_again 13 = .ok (.getfield 43, 3) := by decide +kernel
theorem dX8_again_16 : decode cX8_again 16 = .ok (.iload_n 1, 1) := by decide +kernel
theorem dX8_again_17 : decode cX8_again 17 = .ok (.baload, 1) := by decide +kernel
theorem dX8_again_18 : decode cX8_again 18 = .ok (.ifCond .ne 6, 3) := by decide +kernel
theorem dX8_again_21 : decode cX8_again 21 = .ok (.bipush (-3), 2) := by decide +kernel
theorem dX8_again_23 : decode cX8_again 23 = .ok (.ireturn, 1) := by decide +kernel
theorem dX8_again_24 : decode cX8_again 24 = .ok (.iconst 0, 1) := by decide +kernel
theorem dX8_again_25 : decode cX8_again 25 = .ok (.istore_n 2, 1) := by decide +kernel
theorem dX8_again_26 : decode cX8_again 26 = .ok (.iload_n 2, 1) := by decide +kernel
theorem dX8_again_27 : decode cX8_again 27 = .ok (.bipush 57, 2) := by decide +kernel
theorem dX8_again_29 : decode cX8_again 29 = .ok (.if_icmp .ge 26, 3) := by decide +kernel
theorem dX8_again_32 : decode cX8_again 32 = .ok (.aload_n 0, 1) := by decide +kernel
theorem dX8_again_33 : decode cX8_again 33 = .ok (.getfield 13, 3) := by decide +kernel
theorem dX8_again_36 : decode cX8_again 36 = .ok (.iload_n 2, 1) := by decide +kernel
theorem dX8_again_37 : decode cX8_again 37 = .ok (.aload_n 0, 1) := by decide +kernel
theorem dX8_again_38 : decode cX8_again 38 = .ok (.getfield 47, 3) := by decide +kernel
theorem dX8_again_41 : decode cX8_again 41 = .ok (.bipush 57, 2) := by decide +kernel
theorem dX8_again_43 : decode cX8_again 43 = .ok (.iload_n 1, 1) := by decide +kernel
theorem dX8_again_44 : decode cX8_again 44 = .ok (.imul, 1) := by decide +kernel
theorem dX8_again_45 : decode cX8_again 45 = .ok (.iload_n 2, 1) := by decide +kernel
theorem dX8_again_46 : decode cX8_again 46 = .ok (.iadd, 1) := by decide +kernel
theorem dX8_again_47 : decode cX8_again 47 = .ok (.iaload, 1) := by decide +kernel
theorem dX8_again_48 : decode cX8_again 48 = .ok (.iastore, 1) := by decide +kernel
theorem dX8_again_49 : decode cX8_again 49 = .ok (.iinc 2 1, 3) := by decide +kernel
theorem dX8_again_52 : decode cX8_again 52 = .ok (.goto (-26), 3) := by decide +kernel
theorem dX8_again_55 : decode cX8_again 55 = .ok (.aload_n 0, 1) := by decide +kernel
theorem dX8_again_56 : decode cX8_again 56 = .ok (.iconst 0, 1) := by decide +kernel
theorem dX8_again_57 : decode cX8_again 57 = .ok (.putfield 92, 3) := by decide +kernel
theorem dX8_again_60 : decode cX8_again 60 = .ok (.aload_n 0, 1) := by decide +kernel
theorem dX8_again_61 : decode cX8_again 61 = .ok (.getfield 13, 3) := by decide +kernel
theorem dX8_again_64 : decode cX8_again 64 = .ok (.bipush 56, 2) := by decide +kernel
theorem dX8_again_66 : decode cX8_again 66 = .ok (.iaload, 1) := by decide +kernel
theorem dX8_again_67 : decode cX8_again 67 = .ok (.ireturn, 1) := by decide +kernel
theorem dX8_usedHouses_0 : decode cX8_usedHouses 0 = .ok (.iconst 0, 1) := by decide +kernel
theorem dX8_usedHouses_1 : decode cX8_usedHouses 1 = .ok (.istore_n 1, 1) := by decide +kernel
theorem dX8_usedHouses_2 : decode cX8_usedHouses 2 = .ok (.iconst 0, 1) := by decide +kernel
theorem dX8_usedHouses_3 : decode cX8_usedHouses 3 = .ok (.istore_n 2, 1) := by decide +kernel
theorem dX8_usedHouses_4 : decode cX8_usedHouses 4 = .ok (.iload_n 2, 1) := by decide +kernel
theorem dX8_usedHouses_5 : decode cX8_usedHouses 5 = .ok (.iconst 4, 1) := by decide +kernel
theorem dX8_usedHouses_6 : decode cX8_usedHouses 6 = .ok (.if_icmp .ge 28, 3) := by decide +kernel
theorem dX8_usedHouses_9 : decode cX8_usedHouses 9 = .ok (.iload_n 1, 1) := by decide +kernel
theorem dX8_usedHouses_10 : decode cX8_usedHouses 10 = .ok (.aload_n 0, 1) := by decide +kernel
theorem dX8_usedHouses_11 : decode cX8_usedHouses 11 = .ok (.iconst 0, 1) := by decide +kernel
theorem dX8_usedHouses_12 : decode cX8_usedHouses 12 = .ok (.iload_n 2, 1) := by decide +kernel
theorem dX8_usedHouses_13 : decode cX8_usedHouses 13 = .ok (.invokevirtual 103, 3) := by decide +kernel
theorem dX8_usedHouses_16 : decode cX8_usedHouses 16 = .ok (.ifCond .ne 7, 3) := by decide +kernel
theorem dX8_usedHouses_19 : decode cX8_usedHouses 19 = .ok (.iconst 0, 1) := by decide +kernel
theorem dX8_usedHouses_20 : decode cX8_usedHouses 20 = .ok (.goto 6, 3) := by decide +kernel
theorem dX8_usedHouses_23 : decode cX8_usedHouses 23 = .ok (.iconst 1, 1) := by decide +kernel
theorem dX8_usedHouses_24 : decode cX8_usedHouses 24 = .ok (.iload_n 2, 1) := by decide +kernel
theorem dX8_usedHouses_25 : decode cX8_usedHouses 25 = .ok (.ishl, 1) := by decide +kernel
theorem dX8_usedHouses_26 : decode cX8_usedHouses 26 = .ok (.ior, 1) := by decide +kernel
theorem dX8_usedHouses_27 : decode cX8_usedHouses 27 = .ok (.istore_n 1, 1) := by decide +kernel
theorem dX8_usedHouses_28 : decode cX8_usedHouses 28 = .ok (.iinc 2 1, 3) := by decide +kernel
theorem dX8_usedHouses_31 : decode cX8_usedHouses 31 = .ok (.goto (-27), 3) := by decide +kernel
theorem dX8_usedHouses_34 : decode cX8_usedHouses 34 = .ok (.iload_n 1, 1) := by decide +kernel
theorem dX8_usedHouses_35 : decode cX8_usedHouses 35 = .ok (.ireturn, 1) := by decide +kernel
theorem dX8_count_0 : decode cX8_count 0 = .ok (.iload_n 1, 1) := by decide +kernel
theorem dX8_count_1 : decode cX8_count 1 = .ok (.tableswitch 101 0 8 #[51, 56, 61, 67, 73, 81, 86, 91, 96], 51) := by decide +kernel
theorem dX8_count_52 : decode cX8_count 52 = .ok (.aload_n 0, 1) := by decide +kernel
theorem dX8_count_53 : decode cX8_count 53 = .ok (.getfield 56, 3) := by decide +kernel
theorem dX8_count_56 : decode cX8_count 56 = .ok (.ireturn, 1) := by decide +kernel
theorem dX8_count_57 : decode cX8_count 57 = .ok (.aload_n 0, 1) := by decide +kernel
theorem dX8_count_58 : decode cX8_count 58 = .ok (.getfield 89, 3) := by decide +kernel
theorem dX8_count_61 : decode cX8_count 61 = .ok (.ireturn, 1) := by decide +kernel
theorem dX8_count_62 : decode cX8_count 62 = .ok (.aload_n 0, 1) := by decide +kernel
theorem dX8_count_63 : decode cX8_count 63 = .ok (.iconst 0, 1) := by decide +kernel
theorem dX8_count_64 : decode cX8_count 64 = .ok (.invokevirtual 116, 3) := by decide +kernel
theorem dX8_count_67 : decode cX8_count 67 = .ok (.ireturn, 1) := by decide +kernel
theorem dX8_count_68 : decode cX8_count 68 = .ok (.aload_n 0, 1) := by decide +kernel
theorem dX8_count_69 : decode cX8_count 69 = .ok (.iconst 0, 1) := by decide +kernel
theorem dX8_count_70 : decode cX8_count 70 = .ok (.invokevirtual 253, 3) := by decide +kernel
theorem dX8_count_73 : decode cX8_count 73 = .ok (.ireturn, 1) := by decide +kernel
theorem dX8_count_74 : decode cX8_count 74 = .ok (.aload_n 0, 1) := by decide +kernel
theorem dX8_count_75 : decode cX8_count 75 = .ok (.getfield 13, 3) := by decide +kernel
theorem dX8_count_78 : decode cX8_count 78 = .ok (.bipush 56, 2) := by decide +kernel
theorem dX8_count_80 : decode cX8_count 80 = .ok (.iaload, 1) := by decide +kernel
theorem dX8_count_81 : decode cX8_count 81 = .ok (.ireturn, 1) := by decide +kernel
theorem dX8_count_82 : decode cX8_count 82 = .ok (.aload_n 0, 1) := by decide +kernel
theorem dX8_count_83 : decode cX8_count 83 = .ok (.getfield 146, 3) := by decide +kernel
theorem dX8_count_86 : decode cX8_count 86 = .ok (.ireturn, 1) := by decide +kernel
theorem dX8_count_87 : decode cX8_count 87 = .ok (.aload_n 0, 1) := by decide +kernel
theorem dX8_count_88 : decode cX8_count 88 = .ok (.invokevirtual 256, 3) := by decide +kernel
theorem dX8_count_91 : decode cX8_count 91 = .ok (.ireturn, 1) := by decide +kernel
theorem dX8_count_92 : decode cX8_count 92 = .ok (.aload_n 0, 1) := by decide +kernel
theorem dX8_count_93 : decode cX8_count 93 = .ok (.getfield 92, 3) := by decide +kernel
theorem dX8_count_96 : decode cX8_count 96 = .ok (.ireturn, 1) := by decide +kernel
theorem dX8_count_97 : decode cX8_count 97 = .ok (.aload_n 0, 1) := by decide +kernel
theorem dX8_count_98 : decode cX8_count 98 = .ok (.getfield 212, 3) := by decide +kernel
theorem dX8_count_101 : decode cX8_count 101 = .ok (.ireturn, 1) := by decide +kernel
theorem dX8_count_102 : decode cX8_count 102 = .ok (.bipush (-2), 2) := by decide +kernel
theorem dX8_count_104 : decode cX8_count 104 = .ok (.ireturn, 1) := by decide +kernel
theorem dJ6_bitCount_0f7a4_0 : decode cJ6_bitCount_0f7a4 0 = .ok (.iload_n 0, 1) := by decide +kernel
theorem dJ6_bitCount_0f7a4_1 : decode cJ6_bitCount_0f7a4 1 = .ok (.iload_n 0, 1) := by decide +kernel
theorem dJ6_bitCount_0f7a4_2 : decode cJ6_bitCount_0f7a4 2 = .ok (.iconst 1, 1) := by decide +kernel
theorem dJ6_bitCount_0f7a4_3 : decode cJ6_bitCount_0f7a4 3 = .ok (.iushr, 1) := by decide +kernel
theorem dJ6_bitCount_0f7a4_4 : decode cJ6_bitCount_0f7a4 4 = .ok (.ldc_w 265, 3) := by decide +kernel
theorem dJ6_bitCount_0f7a4_7 : decode cJ6_bitCount_0f7a4 7 = .ok (.iand, 1) := by decide +kernel
theorem dJ6_bitCount_0f7a4_8 : decode cJ6_bitCount_0f7a4 8 = .ok (.isub, 1) := by decide +kernel
theorem dJ6_bitCount_0f7a4_9 : decode cJ6_bitCount_0f7a4 9 = .ok (.istore_n 0, 1) := by decide +kernel
theorem dJ6_bitCount_0f7a4_10 : decode cJ6_bitCount_0f7a4 10 = .ok (.iload_n 0, 1) := by decide +kernel
theorem dJ6_bitCount_0f7a4_11 : decode cJ6_bitCount_0f7a4 11 = .ok (.ldc_w 266, 3) := by decide +kernel
theorem dJ6_bitCount_0f7a4_14 : decode cJ6_bitCount_0f7a4 14 = .ok (.iand, 1) := by decide +kernel
theorem dJ6_bitCount_0f7a4_15 : decode cJ6_bitCount_0f7a4 15 = .ok (.iload_n 0, 1) := by decide +kernel
theorem dJ6_bitCount_0f7a4_16 : decode cJ6_bitCount_0f7a4 16 = .ok (.iconst 2, 1) := by decide +kernel
theorem dJ6_bitCount_0f7a4_17 : decode cJ6_bitCount_0f7a4 17 = .ok (.iushr, 1) := by decide +kernel
theorem dJ6_bitCount_0f7a4_18 : decode cJ6_bitCount_0f7a4 18 = .ok (.ldc_w 266, 3) := by decide +kernel
theorem dJ6_bitCount_0f7a4_21 : decode cJ6_bitCount_0f7a4 21 = .ok (.iand, 1) := by decide +kernel
theorem dJ6_bitCount_0f7a4_22 : decode cJ6_bitCount_0f7a4 22 = .ok (.iadd, 1) := by decide +kernel
theorem dJ6_bitCount_0f7a4_23 : decode cJ6_bitCount_0f7a4 23 = .ok (.istore_n 0, 1) := by decide +kernel
theorem dJ6_bitCount_0f7a4_24 : decode cJ6_bitCount_0f7a4 24 = .ok (.iload_n 0, 1) := by decide +kernel
theorem dJ6_bitCount_0f7a4_25 : decode cJ6_bitCount_0f7a4 25 = .ok (.iload_n 0, 1) := by decide +kernel
theorem dJ6_bitCount_0f7a4_26 : decode cJ6_bitCount_0f7a4 26 = .ok (.iconst 4, 1) := by decide +kernel
theorem dJ6_bitCount_0f7a4_27 : decode cJ6_bitCount_0f7a4 27 = .ok (.iushr, 1) := by decide +kernel
theorem dJ6_bitCount_0f7a4_28 : decode cJ6_bitCount_0f7a4 28 = .ok (.iadd, 1) := by decide +kernel
theorem dJ6_bitCount_0f7a4_29 : decode cJ6_bitCount_0f7a4 29 = .ok (.ldc_w 267, 3) := by decide +kernel
theorem dJ6_bitCount_0f7a4_32 : decode cJ6_bitCount_0f7a4 32 = .ok (.iand, 1) := by decide +kernel
theorem dJ6_bitCount_0f7a4_33 : decode cJ6_bitCount_0f7a4 33 = .ok (.istore_n 0, 1) := by decide +kernel
theorem dJ6_bitCount_0f7a4_34 : decode cJ6_bitCount_0f7a4 34 = .ok (.iload_n 0, 1) := by decide +kernel
theorem dJ6_bitCount_0f7a4_35 : decode cJ6_bitCount_0f7a4 35 = .ok (.iload_n 0, 1) := by decide +kernel
theorem dJ6_bitCount_0f7a4_36 : decode cJ6_bitCount_0f7a4 36 = .ok (.bipush 8, 2) := by decide +kernel
theorem dJ6_bitCount_0f7a4_38 : decode cJ6_bitCount_0f7a4 38 = .ok (.iushr, 1) := by decide +kernel
theorem dJ6_bitCount_0f7a4_39 : decode cJ6_bitCount_0f7a4 39 = .ok (.iadd, 1) := by decide +kernel
theorem dJ6_bitCount_0f7a4_40 : decode cJ6_bitCount_0f7a4 40 = .ok (.istore_n 0, 1) := by decide +kernel
theorem dJ6_bitCount_0f7a4_41 : decode cJ6_bitCount_0f7a4 41 = .ok (.iload_n 0, 1) := by decide +kernel
theorem dJ6_bitCount_0f7a4_42 : decode cJ6_bitCount_0f7a4 42 = .ok (.iload_n 0, 1) := by decide +kernel
theorem dJ6_bitCount_0f7a4_43 : decode cJ6_bitCount_0f7a4 43 = .ok (.bipush 16, 2) := by decide +kernel
theorem dJ6_bitCount_0f7a4_45 : decode cJ6_bitCount_0f7a4 45 = .ok (.iushr, 1) := by decide +kernel
theorem dJ6_bitCount_0f7a4_46 : decode cJ6_bitCount_0f7a4 46 = .ok (.iadd, 1) := by decide +kernel
theorem dJ6_bitCount_0f7a4_47 : decode cJ6_bitCount_0f7a4 47 = .ok (.istore_n 0, 1) := by decide +kernel
theorem dJ6_bitCount_0f7a4_48 : decode cJ6_bitCount_0f7a4 48 = .ok (.iload_n 0, 1) := by decide +kernel
theorem dJ6_bitCount_0f7a4_49 : decode cJ6_bitCount_0f7a4 49 = .ok (.bipush 63, 2) := by decide +kernel
theorem dJ6_bitCount_0f7a4_51 : decode cJ6_bitCount_0f7a4 51 = .ok (.iand, 1) := by decide +kernel
theorem dJ6_bitCount_0f7a4_52 : decode cJ6_bitCount_0f7a4 52 = .ok (.ireturn, 1) := by decide +kernel
theorem dJ9_max_7cf53_0 : decode cJ9_max_7cf53 0 = .ok (.iload_n 0, 1) := by decide +kernel
theorem dJ9_max_7cf53_1 : decode cJ9_max_7cf53 1 = .ok (.iload_n 1, 1) := by decide +kernel
theorem dJ9_max_7cf53_2 : decode cJ9_max_7cf53 2 = .ok (.if_icmp .lt 7, 3) := by decide +kernel
theorem dJ9_max_7cf53_5 : decode cJ9_max_7cf53 5 = .ok (.iload_n 0, 1) := by decide +kernel
theorem dJ9_max_7cf53_6 : decode cJ9_max_7cf53 6 = .ok (.goto 4, 3) := by decide +kernel
theorem dJ9_max_7cf53_9 : decode cJ9_max_7cf53 9 = .ok (.iload_n 1, 1) := by decide +kernel
theorem dJ9_max_7cf53_10 : decode cJ9_max_7cf53 10 = .ok (.ireturn, 1) := by decide +kernel
theorem dJ9_max_f86c9_0 : decode cJ9_max_f86c9 0 = .ok (.lload_n 0, 1) := by decide +kernel
theorem dJ9_max_f86c9_1 : decode cJ9_max_f86c9 1 = .ok (.lload_n 2, 1) := by decide +kernel
theorem dJ9_max_f86c9_2 : decode cJ9_max_f86c9 2 = .ok (.lcmp, 1) := by decide +kernel
theorem dJ9_max_f86c9_3 : decode cJ9_max_f86c9 3 = .ok (.ifCond .lt 7, 3) := by decide +kernel
theorem dJ9_max_f86c9_6 : decode cJ9_max_f86c9 6 = .ok (.lload_n 0, 1) := by decide +kernel
theorem dJ9_max_f86c9_7 : decode cJ9_max_f86c9 7 = .ok (.goto 4, 3) := by decide +kernel
theorem dJ9_max_f86c9_10 : decode cJ9_max_f86c9 10 = .ok (.lload_n 2, 1) := by decide +kernel
theorem dJ9_max_f86c9_11 : decode cJ9_max_f86c9 11 = .ok (.lreturn, 1) := by decide +kernel
theorem dJ9_min_7cf53_0 : decode cJ9_min_7cf53 0 = .ok (.iload_n 0, 1) := by decide +kernel
theorem dJ9_min_7cf53_1 : decode cJ9_min_7cf53 1 = .ok (.iload_n 1, 1) := by decide +kernel
theorem dJ9_min_7cf53_2 : decode cJ9_min_7cf53 2 = .ok (.if_icmp .gt 7, 3) := by decide +kernel
theorem dJ9_min_7cf53_5 : decode cJ9_min_7cf53 5 = .ok (.iload_n 0, 1) := by decide +kernel
theorem dJ9_min_7cf53_6 : decode cJ9_min_7cf53 6 = .ok (.goto 4, 3) := by decide +kernel
theorem dJ9_min_7cf53_9 : decode cJ9_min_7cf53 9 = .ok (.iload_n 1, 1) := by decide +kernel
theorem dJ9_min_7cf53_10 : decode cJ9_min_7cf53 10 = .ok (.ireturn, 1) := by decide +kernel
theorem dL_law_0 : decode cL_law 0 = .ok (.new 7, 3) := by decide +kernel
theorem dL_law_3 : decode cL_law 3 = .ok (.dup, 1) := by decide +kernel
theorem dL_law_4 : decode cL_law 4 = .ok (.invokespecial 9, 3) := by decide +kernel
theorem dL_law_7 : decode cL_law 7 = .ok (.astore_n 1, 1) := by decide +kernel
theorem dL_law_8 : decode cL_law 8 = .ok (.new 10, 3) := by decide +kernel
theorem dL_law_11 : decode cL_law 11 = .ok (.dup, 1) := by decide +kernel
theorem dL_law_12 : decode cL_law 12 = .ok (.invokespecial 12, 3) := by decide +kernel
theorem dL_law_15 : decode cL_law 15 = .ok (.astore_n 2, 1) := by decide +kernel
theorem dL_law_16 : decode cL_law 16 = .ok (.iconst 0, 1) := by decide +kernel
theorem dL_law_17 : decode cL_law 17 = .ok (.istore_n 3, 1) := by decide +kernel
theorem dL_law_18 : decode cL_law 18 = .ok (.iload_n 3, 1) := by decide +kernel
theorem dL_law_19 : decode cL_law 19 = .ok (.aload_n 0, 1) := by decide +kernel
theorem dL_law_20 : decode cL_law 20 = .ok (.arraylength, 1) := by decide +kernel
theorem dL_law_21 : decode cL_law 21 = .ok (.iconst 4, 1) := by decide +kernel
theorem dL_law_22 : decode cL_law 22 = .ok (.isub, 1) := by decide +kernel
theorem dL_law_23 : decode cL_law 23 = .ok (.if_icmp .gt 1032, 3) := by decide +kernel
theorem dL_law_26 : decode cL_law 26 = .ok (.aload_n 0, 1) := by decide +kernel
theorem dL_law_27 : decode cL_law 27 = .ok (.iload_n 3, 1) := by decide +kernel
theorem dL_law_28 : decode cL_law 28 = .ok (.iaload, 1) := by decide +kernel
theorem dL_law_29 : decode cL_law 29 = .ok (.bipush 31, 2) := by decide +kernel
theorem dL_law_31 : decode cL_law 31 = .ok (.iand, 1) := by decide +kernel
theorem dL_law_32 : decode cL_law 32 = .ok (.tableswitch 1017 0 30 #[140, 163, 176, 189, 202, 265, 298, 322, 335, 368, 391, 414, 447, 460, 493, 516, 549, 572, 585, 598, 661, 694, 707, 730, 779, 822, 871, 925, 948, 971, 994], 140) := by decide +kernel
theorem dL_law_172 : decode cL_law 172 = .ok (.aload_n 1, 1) := by decide +kernel
theorem dL_law_173 : decode cL_law 173 = .ok (.aload_n 0, 1) := by decide +kernel
theorem dL_law_174 : decode cL_law 174 = .ok (.iload_n 3, 1) := by decide +kernel
theorem dL_law_175 : decode cL_law 175 = .ok (.iconst 1, 1) := by decide +kernel
theorem dL_law_176 : decode cL_law 176 = .ok (.iadd, 1) := by decide +kernel
theorem dL_law_177 : decode cL_law 177 = .ok (.iaload, 1) := by decide +kernel
theorem dL_law_178 : decode cL_law 178 = .ok (.invokevirtual 13, 3) := by decide +kernel
theorem dL_law_181 : decode cL_law 181 = .ok (.aload_n 2, 1) := by decide +kernel
theorem dL_law_182 : decode cL_law 182 = .ok (.aload_n 0, 1) := by decide +kernel
theorem dL_law_183 : decode cL_law 183 = .ok (.iload_n 3, 1) := by decide +kernel
theorem dL_law_184 : decode cL_law 184 = .ok (.iconst 1, 1) := by decide +kernel
theorem dL_law_185 : decode cL_law 185 = .ok (.iadd, 1) := by decide +kernel
theorem dL_law_186 : decode cL_law 186 = .ok (.iaload, 1) := by decide +kernel
theorem dL_law_187 : decode cL_law 187 = .ok (.invokevirtual 17, 3) := by decide +kernel
theorem dL_law_190 : decode cL_law 190 = .ok (.if_icmp .eq 859, 3) := by decide +kernel
theorem dL_law_193 : decode cL_law 193 = .ok (.iconst 0, 1) := by decide +kernel
theorem dL_law_194 : decode cL_law 194 = .ok (.ireturn, 1) := by decide +kernel
theorem dL_law_195 : decode cL_law 195 = .ok (.aload_n 1, 1) := by decide +kernel
theorem dL_law_196 : decode cL_law 196 = .ok (.invokevirtual 18, 3) := by decide +kernel
theorem dL_law_199 : decode cL_law 199 = .ok (.aload_n 2, 1) := by decide +kernel
theorem dL_law_200 : decode cL_law 200 = .ok (.invokevirtual 22, 3) := by decide +kernel
theorem dL_law_203 : decode cL_law 203 = .ok (.if_icmp .eq 846, 3) := by decide +kernel
theorem dL_law_206 : decode cL_law 206 = .ok (.iconst 0, 1) := by decide +kernel
theorem dL_law_207 : decode cL_law 207 = .ok (.ireturn, 1) := by decide +kernel
theorem dL_law_208 : decode cL_law 208 = .ok (.aload_n 1, 1) := by decide +kernel
theorem dL_law_209 : decode cL_law 209 = .ok (.invokevirtual 23, 3) := by decide +kernel
theorem dL_law_212 : decode cL_law 212 = .ok (.aload_n 2, 1) := by decide +kernel
theorem dL_law_213 : decode cL_law 213 = .ok (.invokevirtual 26, 3) := by decide +kernel
theorem dL_law_216 : decode cL_law 216 = .ok (.if_icmp .eq 833, 3) := by decide +kernel
theorem dL_law_219 : decode cL_law 219 = .ok (.iconst 0, 1) := by decide +kernel
theorem dL_law_220 : decode cL_law 220 = .ok (.ireturn, 1) := by decide +kernel
theorem dL_law_221 : decode cL_law 221 = .ok (.aload_n 1, 1) := by decide +kernel
theorem dL_law_222 : decode cL_law 222 = .ok (.invokevirtual 27, 3) := by decide +kernel
theorem dL_law_225 : decode cL_law 225 = .ok (.aload_n 2, 1) := by decide +kernel
theorem dL_law_226 : decode cL_law 226 = .ok (.invokevirtual 30, 3) := by decide +kernel
theorem dL_law_229 : decode cL_law 229 = .ok (.if_icmp .eq 820, 3) := by decide +kernel
theorem dL_law_232 : decode cL_law 232 = .ok (.iconst 0, 1) := by decide +kernel
theorem dL_law_233 : decode cL_law 233 = .ok (.ireturn, 1) := by decide +kernel
theorem dL_law_234 : decode cL_law 234 = .ok (.aload_n 1, 1) := by decide +kernel
theorem dL_law_235 : decode cL_law 235 = .ok (.aload_n 0, 1) := by decide +kernel
theorem dL_law_236 : decode cL_law 236 = .ok (.iload_n 3, 1) := by decide +kernel
theorem dL_law_237 : decode cL_law 237 = .ok (.iconst 1, 1) := by decide +kernel
theorem dL_law_238 : decode cL_law 238 = .ok (.iadd, 1) := by decide +kernel
theorem dL_law_239 : decode cL_law 239 = .ok (.iaload, 1) := by decide +kernel
theorem dL_law_240 : decode cL_law 240 = .ok (.aload_n 0, 1) := by decide +kernel
theorem dL_law_241 : decode cL_law 241 = .ok (.iload_n 3, 1) := by decide +kernel
theorem dL_law_242 : decode cL_law 242 = .ok (.iconst 2, 1) := by decide +kernel
theorem dL_law_243 : decode cL_law 243 = .ok (.iadd, 1) := by decide +kernel
theorem dL_law_244 : decode cL_law 244 = .ok (.iaload, 1) := by decide +kernel
theorem dL_law_245 : decode cL_law 245 = .ok (.i2l, 1) := by decide +kernel
theorem dL_law_246 : decode cL_law 246 = .ok (.bipush 32, 2) := by decide +kernel
theorem dL_law_248 : decode cL_law 248 = .ok (.lshl, 1) := by decide +kernel
theorem dL_law_249 : decode cL_law 249 = .ok (.aload_n 0, 1) := by decide +kernel
theorem dL_law_250 : decode cL_law 250 = .ok (.iload_n 3, 1) := by decide +kernel
theorem dL_law_251 : decode cL_law 251 = .ok (.iconst 3, 1) := by decide +kernel
theorem dL_law_252 : decode cL_law 252 = .ok (.iadd, 1) := by decide +kernel
theorem dL_law_253 : decode cL_law 253 = .ok (.iaload, 1) := by decide +kernel
theorem dL_law_254 : decode cL_law 254 = .ok (.i2l, 1) := by decide +kernel
theorem dL_law_255 : decode cL_law 255 = .ok (.ldc2_w 31, 3) := by decide +kernel
theorem dL_law_258 : decode cL_law 258 = .ok (.land, 1) := by decide +kernel
theorem dL_law_259 : decode cL_law 259 = .ok (.lor, 1) := by decide +kernel
theorem dL_law_260 : decode cL_law 260 = .ok (.invokevirtual 33, 3) := by decide +kernel
theorem dL_law_263 : decode cL_law 263 = .ok (.aload_n 2, 1) := by decide +kernel
theorem dL_law_264 : decode cL_law 264 = .ok (.aload_n 0, 1) := by decide +kernel
theorem dL_law_265 : decode cL_law 265 = .ok (.iload_n 3, 1) := by decide +kernel
theorem dL_law_266 : decode cL_law 266 = .ok (.iconst 1, 1) := by decide +kernel
theorem dL_law_267 : decode cL_law 267 = .ok (.iadd, 1) := by decide +kernel
theorem dL_law_268 : decode cL_law 268 = .ok (.iaload, 1) := by decide +kernel
theorem dL_law_269 : decode cL_law 269 = .ok (.aload_n 0, 1) := by decide +kernel
theorem dL_law_270 : decode cL_law 270 = .ok (.iload_n 3, 1) := by decide +kernel
theorem dL_law_271 : decode cL_law 271 = .ok (.iconst 2, 1) := by decide +kernel
theorem dL_law_272 : decode cL_law 272 = .ok (.iadd, 1) := by decide +kernel
theorem dL_law_273 : decode cL_law 273 = .ok (.iaload, 1) := by decide +kernel
theorem dL_law_274 : decode cL_law 274 = .ok (.i2l, 1) := by decide +kernel
theorem dL_law_275 : decode cL_law 275 = .ok (.bipush 32, 2) := by decide +kernel
theorem dL_law_277 : decode cL_law 277 = .ok (.lshl, 1) := by decide +kernel
theorem dL_law_278 : decode cL_law 278 = .ok (.aload_n 0, 1) := by decide +kernel
theorem dL_law_279 : decode cL_law 279 = .ok (.iload_n 3, 1) := by decide +kernel
theorem dL_law_280 : decode cL_law 280 = .ok (.iconst 3, 1) := by decide +kernel
theorem dL_law_281 : decode cL_law 281 = .ok (.iadd, 1) := by decide +kernel
theorem dL_law_282 : decode cL_law 282 = .ok (.iaload, 1) := by decide +kernel
theorem dL_law_283 : decode cL_law 283 = .ok (.i2l, 1) := by decide +kernel
theorem dL_law_284 : decode cL_law 284 = .ok (.ldc2_w 31, 3) := by decide +kernel
theorem dL_law_287 : decode cL_law 287 = .ok (.land, 1) := by decide +kernel
theorem dL_law_288 : decode cL_law 288 = .ok (.lor, 1) := by decide +kernel
theorem dL_law_289 : decode cL_law 289 = .ok (.invokevirtual 37, 3) := by decide +kernel
theorem dL_law_292 : decode cL_law 292 = .ok (.if_icmp .eq 757, 3) := by decide +kernel
theorem dL_law_295 : decode cL_law 295 = .ok (.iconst 0, 1) := by decide +kernel
theorem dL_law_296 : decode cL_law 296 = .ok (.ireturn, 1) := by decide +kernel
theorem dL_law_297 : decode cL_law 297 = .ok (.aload_n 1, 1) := by decide +kernel
theorem dL_law_298 : decode cL_law 298 = .ok (.aload_n 0, 1) := by decide +kernel
theorem dL_law_299 : decode cL_law 299 = .ok (.iload_n 3, 1) := by decide +kernel
theorem dL_law_300 : decode cL_law 300 = .ok (.iconst 1, 1) := by decide +kernel
theorem dL_law_301 : decode cL_law 301 = .ok (.iadd, 1) := by decide +kernel
theorem dL_law_302 : decode cL_law 302 = .ok (.iaload, 1) := by decide +kernel
theorem dL_law_303 : decode cL_law 303 = .ok (.aload_n 0, 1) := by decide +kernel
theorem dL_law_304 : decode cL_law 304 = .ok (.iload_n 3, 1) := by decide +kernel
theorem dL_law_305 : decode cL_law 305 = .ok (.iconst 2, 1) := by decide +kernel
theorem dL_law_306 : decode cL_law 306 = .ok (.iadd, 1) := by decide +kernel
theorem dL_law_307 : decode cL_law 307 = .ok (.iaload, 1) := by decide +kernel
theorem dL_law_308 : decode cL_law 308 = .ok (.invokevirtual 38, 3) := by decide +kernel
theorem dL_law_311 : decode cL_law 311 = .ok (.aload_n 2, 1) := by decide +kernel
theorem dL_law_312 : decode cL_law 312 = .ok (.aload_n 0, 1) := by decide +kernel
theorem dL_law_313 : decode cL_law 313 = .ok (.iload_n 3, 1) := by decide +kernel
theorem dL_law_314 : decode cL_law 314 = .ok (.iconst 1, 1) := by decide +kernel
theorem dL_law_315 : decode cL_law 315 = .ok (.iadd, 1) := by decide +kernel
theorem dL_law_316 : decode cL_law 316 = .ok (.iaload, 1) := by decide +kernel
theorem dL_law_317 : decode cL_law 317 = .ok (.aload_n 0, 1) := by decide +kernel
theorem dL_law_318 : decode cL_law 318 = .ok (.iload_n 3, 1) := by decide +kernel
theorem dL_law_319 : decode cL_law 319 = .ok (.iconst 2, 1) := by decide +kernel
theorem dL_law_320 : decode cL_law 320 = .ok (.iadd, 1) := by decide +kernel
theorem dL_law_321 : decode cL_law 321 = .ok (.iaload, 1) := by decide +kernel
theorem dL_law_322 : decode cL_law 322 = .ok (.invokevirtual 42, 3) := by decide +kernel
theorem dL_law_325 : decode cL_law 325 = .ok (.if_icmp .eq 724, 3) := by decide +kernel
theorem dL_law_328 : decode cL_law 328 = .ok (.iconst 0, 1) := by decide +kernel
theorem dL_law_329 : decode cL_law 329 = .ok (.ireturn, 1) := by decide +kernel
theorem dL_law_330 : decode cL_law 330 = .ok (.aload_n 1, 1) := by decide +kernel
theorem dL_law_331 : decode cL_law 331 = .ok (.aload_n 0, 1) := by decide +kernel
theorem dL_law_332 : decode cL_law 332 = .ok (.iload_n 3, 1) := by decide +kernel
theorem dL_law_333 : decode cL_law 333 = .ok (.iconst 1, 1) := by decide +kernel
theorem dL_law_334 : decode cL_law 334 = .ok (.iadd, 1) := by decide +kernel
theorem dL_law_335 : decode cL_law 335 = .ok (.iaload, 1) := by decide +kernel
theorem dL_law_336 : decode cL_law 336 = .ok (.invokevirtual 43, 3) := by decide +kernel
theorem dL_law_339 : decode cL_law 339 = .ok (.aload_n 2, 1) := by decide +kernel
theorem dL_law_340 : decode cL_law 340 = .ok (.aload_n 0, 1) := by decide +kernel
theorem dL_law_341 : decode cL_law 341 = .ok (.iload_n 3, 1) := by decide +kernel
theorem dL_law_342 : decode cL_law 342 = .ok (.iconst 1, 1) := by decide +kernel
theorem dL_law_343 : decode cL_law 343 = .ok (.iadd, 1) := by decide +kernel
theorem dL_law_344 : decode cL_law 344 = .ok (.iaload, 1) := by decide +kernel
theorem dL_law_345 : decode cL_law 345 = .ok (.invokevirtual 47, 3) := by decide +kernel
theorem dL_law_348 : decode cL_law 348 = .ok (.lcmp, 1) := by decide +kernel
theorem dL_law_349 : decode cL_law 349 = .ok (.ifCond .eq 700, 3) := by decide +kernel
theorem dL_law_352 : decode cL_law 352 = .ok (.iconst 0, 1) := by decide +kernel
theorem dL_law_353 : decode cL_law 353 = .ok (.ireturn, 1) := by decide +kernel
theorem dL_law_354 : decode cL_law 354 = .ok (.aload_n 1, 1) := by decide +kernel
theorem dL_law_355 : decode cL_law 355 = .ok (.invokevirtual 48, 3) := by decide +kernel
theorem dL_law_358 : decode cL_law 358 = .ok (.aload_n 2, 1) := by decide +kernel
theorem dL_law_359 : decode cL_law 359 = .ok (.invokevirtual 51, 3) := by decide +kernel
theorem dL_law_362 : decode cL_law 362 = .ok (.if_icmp .eq 687, 3) := by decide +kernel
theorem dL_law_365 : decode cL_law 365 = .ok (.iconst 0, 1) := by decide +kernel
theorem dL_law_366 : decode cL_law 366 = .ok (.ireturn, 1) := by decide +kernel
theorem dL_law_367 : decode cL_law 367 = .ok (.aload_n 1, 1) := by decide +kernel
theorem dL_law_368 : decode cL_law 368 = .ok (.aload_n 0, 1) := by decide +kernel
theorem dL_law_369 : decode cL_law 369 = .ok (.iload_n 3, 1) := by decide +kernel
theorem dL_law_370 : decode cL_law 370 = .ok (.iconst 1, 1) := by decide +kernel
theorem dL_law_371 : decode cL_law 371 = .ok (.iadd, 1) := by decide +kernel
theorem dL_law_372 : decode cL_law 372 = .ok (.iaload, 1) := by decide +kernel
theorem dL_law_373 : decode cL_law 373 = .ok (.aload_n 0, 1) := by decide +kernel
theorem dL_law_374 : decode cL_law 374 = .ok (.iload_n 3, 1) := by decide +kernel
theorem dL_law_375 : decode cL_law 375 = .ok (.iconst 2, 1) := by decide +kernel
theorem dL_law_376 : decode cL_law 376 = .ok (.iadd, 1) := by decide +kernel
theorem dL_law_377 : decode cL_law 377 = .ok (.iaload, 1) := by decide +kernel
theorem dL_law_378 : decode cL_law 378 = .ok (.invokevirtual 52, 3) := by decide +kernel
theorem dL_law_381 : decode cL_law 381 = .ok (.aload_n 2, 1) := by decide +kernel
theorem dL_law_382 : decode cL_law 382 = .ok (.aload_n 0, 1) := by decide +kernel
theorem dL_law_383 : decode cL_law 383 = .ok (.iload_n 3, 1) := by decide +kernel
theorem dL_law_384 : decode cL_law 384 = .ok (.iconst 1, 1) := by decide +kernel
theorem dL_law_385 : decode cL_law 385 = .ok (.iadd, 1) := by decide +kernel
theorem dL_law_386 : decode cL_law 386 = .ok (.iaload, 1) := by decide +kernel
theorem dL_law_387 : decode cL_law 387 = .ok (.aload_n 0, 1) := by decide +kernel
theorem dL_law_388 : decode cL_law 388 = .ok (.iload_n 3, 1) := by decide +kernel
theorem dL_law_389 : decode cL_law 389 = .ok (.iconst 2, 1) := by decide +kernel
theorem dL_law_390 : decode cL_law 390 = .ok (.iadd, 1) := by decide +kernel
theorem dL_law_391 : decode cL_law 391 = .ok (.iaload, 1) := by decide +kernel
theorem dL_law_392 : decode cL_law 392 = .ok (.invokevirtual 55, 3) := by decide +kernel
theorem dL_law_395 : decode cL_law 395 = .ok (.if_icmp .eq 654, 3) := by decide +kernel
theorem dL_law_398 : decode cL_law 398 = .ok (.iconst 0, 1) := by decide +kernel
theorem dL_law_399 : decode cL_law 399 = .ok (.ireturn, 1) := by decide +kernel
theorem dL_law_400 : decode cL_law 400 = .ok (.aload_n 1, 1) := by decide +kernel
theorem dL_law_401 : decode cL_law 401 = .ok (.aload_n 0, 1) := by decide +kernel
theorem dL_law_402 : decode cL_law 402 = .ok (.iload_n 3, 1) := by decide +kernel
theorem dL_law_403 : decode cL_law 403 = .ok (.iconst 1, 1) := by decide +kernel
theorem dL_law_404 : decode cL_law 404 = .ok (.iadd, 1) := by decide +kernel
theorem dL_law_405 : decode cL_law 405 = .ok (.iaload, 1) := by decide +kernel
theorem dL_law_406 : decode cL_law 406 = .ok (.invokevirtual 56, 3) := by decide +kernel
theorem dL_law_409 : decode cL_law 409 = .ok (.aload_n 2, 1) := by decide +kernel
theorem dL_law_410 : decode cL_law 410 = .ok (.aload_n 0, 1) := by decide +kernel
theorem dL_law_411 : decode cL_law 411 = .ok (.iload_n 3, 1) := by decide +kernel
theorem dL_law_412 : decode cL_law 412 = .ok (.iconst 1, 1) := by decide +kernel
theorem dL_law_413 : decode cL_law 413 = .ok (.iadd, 1) := by decide +kernel
theorem dL_law_414 : decode cL_law 414 = .ok (.iaload, 1) := by decide +kernel
theorem dL_law_415 : decode cL_law 415 = .ok (.invokevirtual 59, 3) := by decide +kernel
theorem dL_law_418 : decode cL_law 418 = .ok (.if_icmp .eq 631, 3) := by decide +kernel
theorem dL_law_421 : decode cL_law 421 = .ok (.iconst 0, 1) := by decide +kernel
theorem dL_law_422 : decode cL_law 422 = .ok (.ireturn, 1) := by decide +kernel
theorem dL_law_423 : decode cL_law 423 = .ok (.aload_n 1, 1) := by decide +kernel
theorem dL_law_424 : decode cL_law 424 = .ok (.aload_n 0, 1) := by decide +kernel
theorem dL_law_425 : decode cL_law 425 = .ok (.iload_n 3, 1) := by decide +kernel
theorem dL_law_426 : decode cL_law 426 = .ok (.iconst 1, 1) := by decide +kernel
theorem dL_law_427 : decode cL_law 427 = .ok (.iadd, 1) := by decide +kernel
theorem dL_law_428 : decode cL_law 428 = .ok (.iaload, 1) := by decide +kernel
theorem dL_law_429 : decode cL_law 429 = .ok (.invokevirtual 60, 3) := by decide +kernel
theorem dL_law_432 : decode cL_law 432 = .ok (.aload_n 2, 1) := by decide +kernel
theorem dL_law_433 : decode cL_law 433 = .ok (.aload_n 0, 1) := by decide +kernel
theorem dL_law_434 : decode cL_law 434 = .ok (.iload_n 3, 1) := by decide +kernel
theorem dL_law_435 : decode cL_law 435 = .ok (.iconst 1, 1) := by decide +kernel
theorem dL_law_436 : decode cL_law 436 = .ok (.iadd, 1) := by decide +kernel
theorem dL_law_437 : decode cL_law 437 = .ok (.iaload, 1) := by decide +kernel
theorem dL_law_438 : decode cL_law 438 = .ok (.invokevirtual 63, 3) := by decide +kernel
theorem dL_law_441 : decode cL_law 441 = .ok (.if_icmp .eq 608, 3) := by decide +kernel
theorem dL_law_444 : decode cL_law 444 = .ok (.iconst 0, 1) := by decide +kernel
theorem dL_law_445 : decode cL_law 445 = .ok (.ireturn, 1) := by decide +kernel
theorem dL_law_446 : decode cL_law 446 = .ok (.aload_n 1, 1) := by decide +kernel
theorem dL_law_447 : decode cL_law 447 = .ok (.aload_n 0, 1) := by decide +kernel
theorem dL_law_448 : decode cL_law 448 = .ok (.iload_n 3, 1) := by decide +kernel
theorem dL_law_449 : decode cL_law 449 = .ok (.iconst 1, 1) := by decide +kernel
theorem dL_law_450 : decode cL_law 450 = .ok (.iadd, 1) := by decide +kernel
theorem dL_law_451 : decode cL_law 451 = .ok (.iaload, 1) := by decide +kernel
theorem dL_law_452 : decode cL_law 452 = .ok (.aload_n 0, 1) := by decide +kernel
theorem dL_law_453 : decode cL_law 453 = .ok (.iload_n 3, 1) := by decide +kernel
theorem dL_law_454 : decode cL_law 454 = .ok (.iconst 2, 1) := by decide +kernel
theorem dL_law_455 : decode cL_law 455 = .ok (.iadd, 1) := by decide +kernel
theorem dL_law_456 : decode cL_law 456 = .ok (.iaload, 1) := by decide +kernel
theorem dL_law_457 : decode cL_law 457 = .ok (.invokevirtual 64, 3) := by decide +kernel
theorem dL_law_460 : decode cL_law 460 = .ok (.aload_n 2, 1) := by decide +kernel
theorem dL_law_461 : decode cL_law 461 = .ok (.aload_n 0, 1) := by decide +kernel
theorem dL_law_462 : decode cL_law 462 = .ok (.iload_n 3, 1) := by decide +kernel
theorem dL_law_463 : decode cL_law 463 = .ok (.iconst 1, 1) := by decide +kernel
theorem dL_law_464 : decode cL_law 464 = .ok (.iadd, 1) := by decide +kernel
theorem dL_law_465 : decode cL_law 465 = .ok (.iaload, 1) := by decide +kernel
theorem dL_law_466 : decode cL_law 466 = .ok (.aload_n 0, 1) := by decide +kernel
theorem dL_law_467 : decode cL_law 467 = .ok (.iload_n 3, 1) := by decide +kernel
theorem dL_law_468 : decode cL_law 468 = .ok (.iconst 2, 1) := by decide +kernel
theorem dL_law_469 : decode cL_law 469 = .ok (.iadd, 1) := by decide +kernel
theorem dL_law_470 : decode cL_law 470 = .ok (.iaload, 1) := by decide +kernel
theorem dL_law_471 : decode cL_law 471 = .ok (.invokevirtual 67, 3) := by decide +kernel
theorem dL_law_474 : decode cL_law 474 = .ok (.if_icmp .eq 575, 3) := by decide +kernel
theorem dL_law_477 : decode cL_law 477 = .ok (.iconst 0, 1) := by decide +kernel
theorem dL_law_478 : decode cL_law 478 = .ok (.ireturn, 1) := by decide +kernel
theorem dL_law_479 : decode cL_law 479 = .ok (.aload_n 1, 1) := by decide +kernel
theorem dL_law_480 : decode cL_law 480 = .ok (.invokevirtual 68, 3) := by decide +kernel
theorem dL_law_483 : decode cL_law 483 = .ok (.aload_n 2, 1) := by decide +kernel
theorem dL_law_484 : decode cL_law 484 = .ok (.invokevirtual 71, 3) := by decide +kernel
theorem dL_law_487 : decode cL_law 487 = .ok (.if_icmp .eq 562, 3) := by decide +kernel
theorem dL_law_490 : decode cL_law 490 = .ok (.iconst 0, 1) := by decide +kernel
theorem dL_law_491 : decode cL_law 491 = .ok (.ireturn, 1) := by decide +kernel
theorem dL_law_492 : decode cL_law 492 = .ok (.aload_n 1, 1) := by decide +kernel
theorem dL_law_493 : decode cL_law 493 = .ok (.aload_n 0, 1) := by decide +kernel
theorem dL_law_494 : decode cL_law 494 = .ok (.iload_n 3, 1) := by decide +kernel
theorem dL_law_495 : decode cL_law 495 = .ok (.iconst 1, 1) := by decide +kernel
theorem dL_law_496 : decode cL_law 496 = .ok (.iadd, 1) := by decide +kernel
theorem dL_law_497 : decode cL_law 497 = .ok (.iaload, 1) := by decide +kernel
theorem dL_law_498 : decode cL_law 498 = .ok (.aload_n 0, 1) := by decide +kernel
theorem dL_law_499 : decode cL_law 499 = .ok (.iload_n 3, 1) := by decide +kernel
theorem dL_law_500 : decode cL_law 500 = .ok (.iconst 2, 1) := by decide +kernel
theorem dL_law_501 : decode cL_law 501 = .ok (.iadd, 1) := by decide +kernel
theorem dL_law_502 : decode cL_law 502 = .ok (.iaload, 1) := by decide +kernel
theorem dL_law_503 : decode cL_law 503 = .ok (.invokevirtual 72, 3) := by decide +kernel
theorem dL_law_506 : decode cL_law 506 = .ok (.aload_n 2, 1) := by decide +kernel
theorem dL_law_507 : decode cL_law 507 = .ok (.aload_n 0, 1) := by decide +kernel
theorem dL_law_508 : decode cL_law 508 = .ok (.iload_n 3, 1) := by decide +kernel
theorem dL_law_509 : decode cL_law 509 = .ok (.iconst 1, 1) := by decide +kernel
theorem dL_law_510 : decode cL_law 510 = .ok (.iadd, 1) := by decide +kernel
theorem dL_law_511 : decode cL_law 511 = .ok (.iaload, 1) := by decide +kernel
theorem dL_law_512 : decode cL_law 512 = .ok (.aload_n 0, 1) := by decide +kernel
theorem dL_law_513 : decode cL_law 513 = .ok (.iload_n 3, 1) := by decide +kernel
theorem dL_law_514 : decode cL_law 514 = .ok (.iconst 2, 1) := by decide +kernel
theorem dL_law_515 : decode cL_law 515 = .ok (.iadd, 1) := by decide +kernel
theorem dL_law_516 : decode cL_law 516 = .ok (.iaload, 1) := by decide +kernel
theorem dL_law_517 : decode cL_law 517 = .ok (.invokevirtual 75, 3) := by decide +kernel
theorem dL_law_520 : decode cL_law 520 = .ok (.if_icmp .eq 529, 3) := by decide +kernel
theorem dL_law_523 : decode cL_law 523 = .ok (.iconst 0, 1) := by decide +kernel
theorem dL_law_524 : decode cL_law 524 = .ok (.ireturn, 1) := by decide +kernel
theorem dL_law_525 : decode cL_law 525 = .ok (.aload_n 1, 1) := by decide +kernel
theorem dL_law_526 : decode cL_law 526 = .ok (.aload_n 0, 1) := by decide +kernel
theorem dL_law_527 : decode cL_law 527 = .ok (.iload_n 3, 1) := by decide +kernel
theorem dL_law_528 : decode cL_law 528 = .ok (.iconst 1, 1) := by decide +kernel
theorem dL_law_529 : decode cL_law 529 = .ok (.iadd, 1) := by decide +kernel
theorem dL_law_530 : decode cL_law 530 = .ok (.iaload, 1) := by decide +kernel
theorem dL_law_531 : decode cL_law 531 = .ok (.invokevirtual 76, 3) := by decide +kernel
theorem dL_law_534 : decode cL_law 534 = .ok (.aload_n 2, 1) := by decide +kernel
theorem dL_law_535 : decode cL_law 535 = .ok (.aload_n 0, 1) := by decide +kernel
theorem dL_law_536 : decode cL_law 536 = .ok (.iload_n 3, 1) := by decide +kernel
theorem dL_law_537 : decode cL_law 537 = .ok (.iconst 1, 1) := by decide +kernel
theorem dL_law_538 : decode cL_law 538 = .ok (.iadd, 1) := by decide +kernel
theorem dL_law_539 : decode cL_law 539 = .ok (.iaload, 1) := by decide +kernel
theorem dL_law_540 : decode cL_law 540 = .ok (.invokevirtual 79, 3) := by decide +kernel
theorem dL_law_543 : decode cL_law 543 = .ok (.if_icmp .eq 506, 3) := by decide +kernel
theorem dL_law_546 : decode cL_law 546 = .ok (.iconst 0, 1) := by decide +kernel
theorem dL_law_547 : decode cL_law 547 = .ok (.ireturn, 1) := by decide +kernel
theorem dL_law_548 : decode cL_law 548 = .ok (.aload_n 1, 1) := by decide +kernel
theorem dL_law_549 : decode cL_law 549 = .ok (.aload_n 0, 1) := by decide +kernel
theorem dL_law_550 : decode cL_law 550 = .ok (.iload_n 3, 1) := by decide +kernel
theorem dL_law_551 : decode cL_law 551 = .ok (.iconst 1, 1) := by decide +kernel
theorem dL_law_552 : decode cL_law 552 = .ok (.iadd, 1) := by decide +kernel
theorem dL_law_553 : decode cL_law 553 = .ok (.iaload, 1) := by decide +kernel
theorem dL_law_554 : decode cL_law 554 = .ok (.aload_n 0, 1) := by decide +kernel
theorem dL_law_555 : decode cL_law 555 = .ok (.iload_n 3, 1) := by decide +kernel
theorem dL_law_556 : decode cL_law 556 = .ok (.iconst 2, 1) := by decide +kernel
theorem dL_law_557 : decode cL_law 557 = .ok (.iadd, 1) := by decide +kernel
theorem dL_law_558 : decode cL_law 558 = .ok (.iaload, 1) := by decide +kernel
theorem dL_law_559 : decode cL_law 559 = .ok (.invokevirtual 80, 3) := by decide +kernel
theorem dL_law_562 : decode cL_law 562 = .ok (.aload_n 2, 1) := by decide +kernel
theorem dL_law_563 : decode cL_law 563 = .ok (.aload_n 0, 1) := by decide +kernel
theorem dL_law_564 : decode cL_law 564 = .ok (.iload_n 3, 1) := by decide +kernel
theorem dL_law_565 : decode cL_law 565 = .ok (.iconst 1, 1) := by decide +kernel
theorem dL_law_566 : decode cL_law 566 = .ok (.iadd, 1) := by decide +kernel
theorem dL_law_567 : decode cL_law 567 = .ok (.iaload, 1) := by decide +kernel
theorem dL_law_568 : decode cL_law 568 = .ok (.aload_n 0, 1) := by decide +kernel
theorem dL_law_569 : decode cL_law 569 = .ok (.iload_n 3, 1) := by decide +kernel
theorem dL_law_570 : decode cL_law 570 = .ok (.iconst 2, 1) := by decide +kernel
theorem dL_law_571 : decode cL_law 571 = .ok (.iadd, 1) := by decide +kernel
theorem dL_law_572 : decode cL_law 572 = .ok (.iaload, 1) := by decide +kernel
theorem dL_law_573 : decode cL_law 573 = .ok (.invokevirtual 83, 3) := by decide +kernel
theorem dL_law_576 : decode cL_law 576 = .ok (.if_icmp .eq 473, 3) := by decide +kernel
theorem dL_law_579 : decode cL_law 579 = .ok (.iconst 0, 1) := by decide +kernel
theorem dL_law_580 : decode cL_law 580 = .ok (.ireturn, 1) := by decide +kernel
theorem dL_law_581 : decode cL_law 581 = .ok (.aload_n 1, 1) := by decide +kernel
theorem dL_law_582 : decode cL_law 582 = .ok (.aload_n 0, 1) := by decide +kernel
theorem dL_law_583 : decode cL_law 583 = .ok (.iload_n 3, 1) := by decide +kernel
theorem dL_law_584 : decode cL_law 584 = .ok (.iconst 1, 1) := by decide +kernel
theorem dL_law_585 : decode cL_law 585 = .ok (.iadd, 1) := by decide +kernel
theorem dL_law_586 : decode cL_law 586 = .ok (.iaload, 1) := by decide +kernel
theorem dL_law_587 : decode cL_law 587 = .ok (.invokevirtual 84, 3) := by decide +kernel
theorem dL_law_590 : decode cL_law 590 = .ok (.aload_n 2, 1) := by decide +kernel
theorem dL_law_591 : decode cL_law 591 = .ok (.aload_n 0, 1) := by decide +kernel
theorem dL_law_592 : decode cL_law 592 = .ok (.iload_n 3, 1) := by decide +kernel
theorem dL_law_593 : decode cL_law 593 = .ok (.iconst 1, 1) := by decide +kernel
theorem dL_law_594 : decode cL_law 594 = .ok (.iadd, 1) := by decide +kernel
theorem dL_law_595 : decode cL_law 595 = .ok (.iaload, 1) := by decide +kernel
theorem dL_law_596 : decode cL_law 596 = .ok (.invokevirtual 87, 3) := by decide +kernel
theorem dL_law_599 : decode cL_law 599 = .ok (.if_icmp .eq 450, 3) := by decide +kernel
theorem dL_law_602 : decode cL_law 602 = .ok (.iconst 0, 1) := by decide +kernel
theorem dL_law_603 : decode cL_law 603 = .ok (.ireturn, 1) := by decide +kernel
theorem dL_law_604 : decode cL_law 604 = .ok (.aload_n 1, 1) := by decide +kernel
theorem dL_law_605 : decode cL_law 605 = .ok (.invokevirtual 88, 3) := by decide +kernel
theorem dL_law_608 : decode cL_law 608 = .ok (.aload_n 2, 1) := by decide +kernel
theorem dL_law_609 : decode cL_law 609 = .ok (.invokevirtual 91, 3) := by decide +kernel
theorem dL_law_612 : decode cL_law 612 = .ok (.if_icmp .eq 437, 3) := by decide +kernel
theorem dL_law_615 : decode cL_law 615 = .ok (.iconst 0, 1) := by decide +kernel
theorem dL_law_616 : decode cL_law 616 = .ok (.ireturn, 1) := by decide +kernel
theorem dL_law_617 : decode cL_law 617 = .ok (.aload_n 1, 1) := by decide +kernel
theorem dL_law_618 : decode cL_law 618 = .ok (.invokevirtual 92, 3) := by decide +kernel
theorem dL_law_621 : decode cL_law 621 = .ok (.aload_n 2, 1) := by decide +kernel
theorem dL_law_622 : decode cL_law 622 = .ok (.invokevirtual 95, 3) := by decide +kernel
theorem dL_law_625 : decode cL_law 625 = .ok (.if_icmp .eq 424, 3) := by decide +kernel
theorem dL_law_628 : decode cL_law 628 = .ok (.iconst 0, 1) := by decide +kernel
theorem dL_law_629 : decode cL_law 629 = .ok (.ireturn, 1) := by decide +kernel
theorem dL_law_630 : decode cL_law 630 = .ok (.aload_n 1, 1) := by decide +kernel
theorem dL_law_631 : decode cL_law 631 = .ok (.aload_n 0, 1) := by decide +kernel
theorem dL_law_632 : decode cL_law 632 = .ok (.iload_n 3, 1) := by decide +kernel
theorem dL_law_633 : decode cL_law 633 = .ok (.iconst 1, 1) := by decide +kernel
theorem dL_law_634 : decode cL_law 634 = .ok (.iadd, 1) := by decide +kernel
theorem dL_law_635 : decode cL_law 635 = .ok (.iaload, 1) := by decide +kernel
theorem dL_law_636 : decode cL_law 636 = .ok (.aload_n 0, 1) := by decide +kernel
theorem dL_law_637 : decode cL_law 637 = .ok (.iload_n 3, 1) := by decide +kernel
theorem dL_law_638 : decode cL_law 638 = .ok (.iconst 2, 1) := by decide +kernel
theorem dL_law_639 : decode cL_law 639 = .ok (.iadd, 1) := by decide +kernel
theorem dL_law_640 : decode cL_law 640 = .ok (.iaload, 1) := by decide +kernel
theorem dL_law_641 : decode cL_law 641 = .ok (.i2l, 1) := by decide +kernel
theorem dL_law_642 : decode cL_law 642 = .ok (.bipush 32, 2) := by decide +kernel
theorem dL_law_644 : decode cL_law 644 = .ok (.lshl, 1) := by decide +kernel
theorem dL_law_645 : decode cL_law 645 = .ok (.aload_n 0, 1) := by decide +kernel
theorem dL_law_646 : decode cL_law 646 = .ok (.iload_n 3, 1) := by decide +kernel
theorem dL_law_647 : decode cL_law 647 = .ok (.iconst 3, 1) := by decide +kernel
theorem dL_law_648 : decode cL_law 648 = .ok (.iadd, 1) := by decide +kernel
theorem dL_law_649 : decode cL_law 649 = .ok (.iaload, 1) := by decide +kernel
theorem dL_law_650 : decode cL_law 650 = .ok (.i2l, 1) := by decide +kernel
theorem dL_law_651 : decode cL_law 651 = .ok (.ldc2_w 31, 3) := by decide +kernel
theorem dL_law_654 : decode cL_law 654 = .ok (.land, 1) := by decide +kernel
theorem dL_law_655 : decode cL_law 655 = .ok (.lor, 1) := by decide +kernel
theorem dL_law_656 : decode cL_law 656 = .ok (.invokevirtual 96, 3) := by decide +kernel
theorem dL_law_659 : decode cL_law 659 = .ok (.aload_n 2, 1) := by decide +kernel
theorem dL_law_660 : decode cL_law 660 = .ok (.aload_n 0, 1) := by decide +kernel
theorem dL_law_661 : decode cL_law 661 = .ok (.iload_n 3, 1) := by decide +kernel
theorem dL_law_662 : decode cL_law 662 = .ok (.iconst 1, 1) := by decide +kernel
theorem dL_law_663 : decode cL_law 663 = .ok (.iadd, 1) := by decide +kernel
theorem dL_law_664 : decode cL_law 664 = .ok (.iaload, 1) := by decide +kernel
theorem dL_law_665 : decode cL_law 665 = .ok (.aload_n 0, 1) := by decide +kernel
theorem dL_law_666 : decode cL_law 666 = .ok (.iload_n 3, 1) := by decide +kernel
theorem dL_law_667 : decode cL_law 667 = .ok (.iconst 2, 1) := by decide +kernel
theorem dL_law_668 : decode cL_law 668 = .ok (.iadd, 1) := by decide +kernel
theorem dL_law_669 : decode cL_law 669 = .ok (.iaload, 1) := by decide +kernel
theorem dL_law_670 : decode cL_law 670 = .ok (.i2l, 1) := by decide +kernel
theorem dL_law_671 : decode cL_law 671 = .ok (.bipush 32, 2) := by decide +kernel
theorem dL_law_673 : decode cL_law 673 = .ok (.lshl, 1) := by decide +kernel
theorem dL_law_674 : decode cL_law 674 = .ok (.aload_n 0, 1) := by decide +kernel
theorem dL_law_675 : decode cL_law 675 = .ok (.iload_n 3, 1) := by decide +kernel
theorem dL_law_676 : decode cL_law 676 = .ok (.iconst 3, 1) := by decide +kernel
theorem dL_law_677 : decode cL_law 677 = .ok (.iadd, 1) := by decide +kernel
theorem dL_law_678 : decode cL_law 678 = .ok (.iaload, 1) := by decide +kernel
theorem dL_law_679 : decode cL_law 679 = .ok (.i2l, 1) := by decide +kernel
theorem dL_law_680 : decode cL_law 680 = .ok (.ldc2_w 31, 3) := by decide +kernel
theorem dL_law_683 : decode cL_law 683 = .ok (.land, 1) := by decide +kernel
theorem dL_law_684 : decode cL_law 684 = .ok (.lor, 1) := by decide +kernel
theorem dL_law_685 : decode cL_law 685 = .ok (.invokevirtual 99, 3) := by decide +kernel
theorem dL_law_688 : decode cL_law 688 = .ok (.if_icmp .eq 361, 3) := by decide +kernel
theorem dL_law_691 : decode cL_law 691 = .ok (.iconst 0, 1) := by decide +kernel
theorem dL_law_692 : decode cL_law 692 = .ok (.ireturn, 1) := by decide +kernel
theorem dL_law_693 : decode cL_law 693 = .ok (.aload_n 1, 1) := by decide +kernel
theorem dL_law_694 : decode cL_law 694 = .ok (.aload_n 0, 1) := by decide +kernel
theorem dL_law_695 : decode cL_law 695 = .ok (.iload_n 3, 1) := by decide +kernel
theorem dL_law_696 : decode cL_law 696 = .ok (.iconst 1, 1) := by decide +kernel
theorem dL_law_697 : decode cL_law 697 = .ok (.iadd, 1) := by decide +kernel
theorem dL_law_698 : decode cL_law 698 = .ok (.iaload, 1) := by decide +kernel
theorem dL_law_699 : decode cL_law 699 = .ok (.aload_n 0, 1) := by decide +kernel
theorem dL_law_700 : decode cL_law 700 = .ok (.iload_n 3, 1) := by decide +kernel
theorem dL_law_701 : decode cL_law 701 = .ok (.iconst 2, 1) := by decide +kernel
theorem dL_law_702 : decode cL_law 702 = .ok (.iadd, 1) := by decide +kernel
theorem dL_law_703 : decode cL_law 703 = .ok (.iaload, 1) := by decide +kernel
theorem dL_law_704 : decode cL_law 704 = .ok (.invokevirtual 100, 3) := by decide +kernel
theorem dL_law_707 : decode cL_law 707 = .ok (.aload_n 2, 1) := by decide +kernel
theorem dL_law_708 : decode cL_law 708 = .ok (.aload_n 0, 1) := by decide +kernel
theorem dL_law_709 : decode cL_law 709 = .ok (.iload_n 3, 1) := by decide +kernel
theorem dL_law_710 : decode cL_law 710 = .ok (.iconst 1, 1) := by decide +kernel
theorem dL_law_711 : decode cL_law 711 = .ok (.iadd, 1) := by decide +kernel
theorem dL_law_712 : decode cL_law 712 = .ok (.iaload, 1) := by decide +kernel
theorem dL_law_713 : decode cL_law 713 = .ok (.aload_n 0, 1) := by decide +kernel
theorem dL_law_714 : decode cL_law 714 = .ok (.iload_n 3, 1) := by decide +kernel
theorem dL_law_715 : decode cL_law 715 = .ok (.iconst 2, 1) := by decide +kernel
theorem dL_law_716 : decode cL_law 716 = .ok (.iadd, 1) := by decide +kernel
theorem dL_law_717 : decode cL_law 717 = .ok (.iaload, 1) := by decide +kernel
theorem dL_law_718 : decode cL_law 718 = .ok (.invokevirtual 103, 3) := by decide +kernel
theorem dL_law_721 : decode cL_law 721 = .ok (.if_icmp .eq 328, 3) := by decide +kernel
theorem dL_law_724 : decode cL_law 724 = .ok (.iconst 0, 1) := by decide +kernel
theorem dL_law_725 : decode cL_law 725 = .ok (.ireturn, 1) := by decide +kernel
theorem dL_law_726 : decode cL_law 726 = .ok (.aload_n 1, 1) := by decide +kernel
theorem dL_law_727 : decode cL_law 727 = .ok (.invokevirtual 104, 3) := by decide +kernel
theorem dL_law_730 : decode cL_law 730 = .ok (.aload_n 2, 1) := by decide +kernel
theorem dL_law_731 : decode cL_law 731 = .ok (.invokevirtual 107, 3) := by decide +kernel
theorem dL_law_734 : decode cL_law 734 = .ok (.if_icmp .eq 315, 3) := by decide +kernel
theorem dL_law_737 : decode cL_law 737 = .ok (.iconst 0, 1) := by decide +kernel
theorem dL_law_738 : decode cL_law 738 = .ok (.ireturn, 1) := by decide +kernel
theorem dL_law_739 : decode cL_law 739 = .ok (.aload_n 1, 1) := by decide +kernel
theorem dL_law_740 : decode cL_law 740 = .ok (.aload_n 0, 1) := by decide +kernel
theorem dL_law_741 : decode cL_law 741 = .ok (.iload_n 3, 1) := by decide +kernel
theorem dL_law_742 : decode cL_law 742 = .ok (.iconst 1, 1) := by decide +kernel
theorem dL_law_743 : decode cL_law 743 = .ok (.iadd, 1) := by decide +kernel
theorem dL_law_744 : decode cL_law 744 = .ok (.iaload, 1) := by decide +kernel
theorem dL_law_745 : decode cL_law 745 = .ok (.invokevirtual 108, 3) := by decide +kernel
theorem dL_law_748 : decode cL_law 748 = .ok (.aload_n 2, 1) := by decide +kernel
theorem dL_law_749 : decode cL_law 749 = .ok (.aload_n 0, 1) := by decide +kernel
theorem dL_law_750 : decode cL_law 750 = .ok (.iload_n 3, 1) := by decide +kernel
theorem dL_law_751 : decode cL_law 751 = .ok (.iconst 1, 1) := by decide +kernel
theorem dL_law_752 : decode cL_law 752 = .ok (.iadd, 1) := by decide +kernel
theorem dL_law_753 : decode cL_law 753 = .ok (.iaload, 1) := by decide +kernel
theorem dL_law_754 : decode cL_law 754 = .ok (.invokevirtual 111, 3) := by decide +kernel
theorem dL_law_757 : decode cL_law 757 = .ok (.if_icmp .eq 292, 3) := by decide +kernel
theorem dL_law_760 : decode cL_law 760 = .ok (.iconst 0, 1) := by decide +kernel
theorem dL_law_761 : decode cL_law 761 = .ok (.ireturn, 1) := by decide +kernel
theorem dL_law_762 : decode cL_law 762 = .ok (.aload_n 1, 1) := by decide +kernel
theorem dL_law_763 : decode cL_law 763 = .ok (.aload_n 0, 1) := by decide +kernel
theorem dL_law_764 : decode cL_law 764 = .ok (.iload_n 3, 1) := by decide +kernel
theorem dL_law_765 : decode cL_law 765 = .ok (.iconst 1, 1) := by decide +kernel
theorem dL_law_766 : decode cL_law 766 = .ok (.iadd, 1) := by decide +kernel
theorem dL_law_767 : decode cL_law 767 = .ok (.iaload, 1) := by decide +kernel
theorem dL_law_768 : decode cL_law 768 = .ok (.aload_n 0, 1) := by decide +kernel
theorem dL_law_769 : decode cL_law 769 = .ok (.iload_n 3, 1) := by decide +kernel
theorem dL_law_770 : decode cL_law 770 = .ok (.iconst 2, 1) := by decide +kernel
theorem dL_law_771 : decode cL_law 771 = .ok (.iadd, 1) := by decide +kernel
theorem dL_law_772 : decode cL_law 772 = .ok (.iaload, 1) := by decide +kernel
theorem dL_law_773 : decode cL_law 773 = .ok (.ifCond .eq 7, 3) := by decide +kernel
theorem dL_law_776 : decode cL_law 776 = .ok (.iconst 1, 1) := by decide +kernel
theorem dL_law_777 : decode cL_law 777 = .ok (.goto 4, 3) := by decide +kernel
theorem dL_law_780 : decode cL_law 780 = .ok (.iconst 0, 1) := by decide +kernel
theorem dL_law_781 : decode cL_law 781 = .ok (.invokevirtual 112, 3) := by decide +kernel
theorem dL_law_784 : decode cL_law 784 = .ok (.aload_n 2, 1) := by decide +kernel
theorem dL_law_785 : decode cL_law 785 = .ok (.aload_n 0, 1) := by decide +kernel
theorem dL_law_786 : decode cL_law 786 = .ok (.iload_n 3, 1) := by decide +kernel
theorem dL_law_787 : decode cL_law 787 = .ok (.iconst 1, 1) := by decide +kernel
theorem dL_law_788 : decode cL_law 788 = .ok (.iadd, 1) := by decide +kernel
theorem dL_law_789 : decode cL_law 789 = .ok (.iaload, 1) := by decide +kernel
theorem dL_law_790 : decode cL_law 790 = .ok (.aload_n 0, 1) := by decide +kernel
theorem dL_law_791 : decode cL_law 791 = .ok (.iload_n 3, 1) := by decide +kernel
theorem dL_law_792 : decode cL_law 792 = .ok (.iconst 2, 1) := by decide +kernel
theorem dL_law_793 : decode cL_law 793 = .ok (.iadd, 1) := by decide +kernel
theorem dL_law_794 : decode cL_law 794 = .ok (.iaload, 1) := by decide +kernel
theorem dL_law_795 : decode cL_law 795 = .ok (.ifCond .eq 7, 3) := by decide +kernel
theorem dL_law_798 : decode cL_law 798 = .ok (.iconst 1, 1) := by decide +kernel
theorem dL_law_799 : decode cL_law 799 = .ok (.goto 4, 3) := by decide +kernel
theorem dL_law_802 : decode cL_law 802 = .ok (.iconst 0, 1) := by decide +kernel
theorem dL_law_803 : decode cL_law 803 = .ok (.invokevirtual 116, 3) := by decide +kernel
theorem dL_law_806 : decode cL_law 806 = .ok (.if_icmp .eq 243, 3) := by decide +kernel
theorem dL_law_809 : decode cL_law 809 = .ok (.iconst 0, 1) := by decide +kernel
theorem dL_law_810 : decode cL_law 810 = .ok (.ireturn, 1) := by decide +kernel
theorem dL_law_811 : decode cL_law 811 = .ok (.aload_n 1, 1) := by decide +kernel
theorem dL_law_812 : decode cL_law 812 = .ok (.aload_n 0, 1) := by decide +kernel
theorem dL_law_813 : decode cL_law 813 = .ok (.iload_n 3, 1) := by decide +kernel
theorem dL_law_814 : decode cL_law 814 = .ok (.iconst 1, 1) := by decide +kernel
theorem dL_law_815 : decode cL_law 815 = .ok (.iadd, 1) := by decide +kernel
theorem dL_law_816 : decode cL_law 816 = .ok (.iaload, 1) := by decide +kernel
theorem dL_law_817 : decode cL_law 817 = .ok (.aload_n 0, 1) := by decide +kernel
theorem dL_law_818 : decode cL_law 818 = .ok (.iload_n 3, 1) := by decide +kernel
theorem dL_law_819 : decode cL_law 819 = .ok (.iconst 2, 1) := by decide +kernel
theorem dL_law_820 : decode cL_law 820 = .ok (.iadd, 1) := by decide +kernel
theorem dL_law_821 : decode cL_law 821 = .ok (.iaload, 1) := by decide +kernel
theorem dL_law_822 : decode cL_law 822 = .ok (.aload_n 0, 1) := by decide +kernel
theorem dL_law_823 : decode cL_law 823 = .ok (.iload_n 3, 1) := by decide +kernel
theorem dL_law_824 : decode cL_law 824 = .ok (.iconst 3, 1) := by decide +kernel
theorem dL_law_825 : decode cL_law 825 = .ok (.iadd, 1) := by decide +kernel
theorem dL_law_826 : decode cL_law 826 = .ok (.iaload, 1) := by decide +kernel
theorem dL_law_827 : decode cL_law 827 = .ok (.invokevirtual 117, 3) := by decide +kernel
theorem dL_law_830 : decode cL_law 830 = .ok (.aload_n 2, 1) := by decide +kernel
theorem dL_law_831 : decode cL_law 831 = .ok (.aload_n 0, 1) := by decide +kernel
theorem dL_law_832 : decode cL_law 832 = .ok (.iload_n 3, 1) := by decide +kernel
theorem dL_law_833 : decode cL_law 833 = .ok (.iconst 1, 1) := by decide +kernel
theorem dL_law_834 : decode cL_law 834 = .ok (.iadd, 1) := by decide +kernel
theorem dL_law_835 : decode cL_law 835 = .ok (.iaload, 1) := by decide +kernel
theorem dL_law_836 : decode cL_law 836 = .ok (.aload_n 0, 1) := by decide +kernel
theorem dL_law_837 : decode cL_law 837 = .ok (.iload_n 3, 1) := by decide +kernel
theorem dL_law_838 : decode cL_law 838 = .ok (.iconst 2, 1) := by decide +kernel
theorem dL_law_839 : decode cL_law 839 = .ok (.iadd, 1) := by decide +kernel
theorem dL_law_840 : decode cL_law 840 = .ok (.iaload, 1) := by decide +kernel
theorem dL_law_841 : decode cL_law 841 = .ok (.aload_n 0, 1) := by decide +kernel
theorem dL_law_842 : decode cL_law 842 = .ok (.iload_n 3, 1) := by decide +kernel
theorem dL_law_843 : decode cL_law 843 = .ok (.iconst 3, 1) := by decide +kernel
theorem dL_law_844 : decode cL_law 844 = .ok (.iadd, 1) := by decide +kernel
theorem dL_law_845 : decode cL_law 845 = .ok (.iaload, 1) := by decide +kernel
theorem dL_law_846 : decode cL_law 846 = .ok (.invokevirtual 121, 3) := by decide +kernel
theorem dL_law_849 : decode cL_law 849 = .ok (.if_icmp .eq 200, 3) := by decide +kernel
theorem dL_law_852 : decode cL_law 852 = .ok (.iconst 0, 1) := by decide +kernel
theorem dL_law_853 : decode cL_law 853 = .ok (.ireturn, 1) := by decide +kernel
theorem dL_law_854 : decode cL_law 854 = .ok (.aload_n 1, 1) := by decide +kernel
theorem dL_law_855 : decode cL_law 855 = .ok (.aload_n 0, 1) := by decide +kernel
theorem dL_law_856 : decode cL_law 856 = .ok (.iload_n 3, 1) := by decide +kernel
theorem dL_law_857 : decode cL_law 857 = .ok (.iconst 1, 1) := by decide +kernel
theorem dL_law_858 : decode cL_law 858 = .ok (.iadd, 1) := by decide +kernel
theorem dL_law_859 : decode cL_law 859 = .ok (.iaload, 1) := by decide +kernel
theorem dL_law_860 : decode cL_law 860 = .ok (.aload_n 0, 1) := by decide +kernel
theorem dL_law_861 : decode cL_law 861 = .ok (.iload_n 3, 1) := by decide +kernel
theorem dL_law_862 : decode cL_law 862 = .ok (.iconst 2, 1) := by decide +kernel
theorem dL_law_863 : decode cL_law 863 = .ok (.iadd, 1) := by decide +kernel
theorem dL_law_864 : decode cL_law 864 = .ok (.iaload, 1) := by decide +kernel
theorem dL_law_865 : decode cL_law 865 = .ok (.ifCond .eq 7, 3) := by decide +kernel
theorem dL_law_868 : decode cL_law 868 = .ok (.iconst 1, 1) := by decide +kernel
theorem dL_law_869 : decode cL_law 869 = .ok (.goto 4, 3) := by decide +kernel
theorem dL_law_872 : decode cL_law 872 = .ok (.iconst 0, 1) := by decide +kernel
theorem dL_law_873 : decode cL_law 873 = .ok (.invokevirtual 122, 3) := by decide +kernel
theorem dL_law_876 : decode cL_law 876 = .ok (.aload_n 2, 1) := by decide +kernel
theorem dL_law_877 : decode cL_law 877 = .ok (.aload_n 0, 1) := by decide +kernel
theorem dL_law_878 : decode cL_law 878 = .ok (.iload_n 3, 1) := by decide +kernel
theorem dL_law_879 : decode cL_law 879 = .ok (.iconst 1, 1) := by decide +kernel
theorem dL_law_880 : decode cL_law 880 = .ok (.iadd, 1) := by decide +kernel
theorem dL_law_881 : decode cL_law 881 = .ok (.iaload, 1) := by decide +kernel
theorem dL_law_882 : decode cL_law 882 = .ok (.aload_n 0, 1) := by decide +kernel
theorem dL_law_883 : decode cL_law 883 = .ok (.iload_n 3, 1) := by decide +kernel
theorem dL_law_884 : decode cL_law 884 = .ok (.iconst 2, 1) := by decide +kernel
theorem dL_law_885 : decode cL_law 885 = .ok (.iadd, 1) := by decide +kernel
theorem dL_law_886 : decode cL_law 886 = .ok (.iaload, 1) := by decide +kernel
theorem dL_law_887 : decode cL_law 887 = .ok (.ifCond .eq 7, 3) := by decide +kernel
theorem dL_law_890 : decode cL_law 890 = .ok (.iconst 1, 1) := by decide +kernel
theorem dL_law_891 : decode cL_law 891 = .ok (.goto 4, 3) := by decide +kernel
theorem dL_law_894 : decode cL_law 894 = .ok (.iconst 0, 1) := by decide +kernel
theorem dL_law_895 : decode cL_law 895 = .ok (.invokevirtual 125, 3) := by decide +kernel
theorem dL_law_898 : decode cL_law 898 = .ok (.if_icmp .eq 151, 3) := by decide +kernel
theorem dL_law_901 : decode cL_law 901 = .ok (.iconst 0, 1) := by decide +kernel
theorem dL_law_902 : decode cL_law 902 = .ok (.ireturn, 1) := by decide +kernel
theorem dL_law_903 : decode cL_law 903 = .ok (.aload_n 1, 1) := by decide +kernel
theorem dL_law_904 : decode cL_law 904 = .ok (.aload_n 0, 1) := by decide +kernel
theorem dL_law_905 : decode cL_law 905 = .ok (.iload_n 3, 1) := by decide +kernel
theorem dL_law_906 : decode cL_law 906 = .ok (.iconst 1, 1) := by decide +kernel
theorem dL_law_907 : decode cL_law 907 = .ok (.iadd, 1) := by decide +kernel
theorem dL_law_908 : decode cL_law 908 = .ok (.iaload, 1) := by decide +kernel
theorem dL_law_909 : decode cL_law 909 = .ok (.i2l, 1) := by decide +kernel
theorem dL_law_910 : decode cL_law 910 = .ok (.bipush 32, 2) := by decide +kernel
theorem dL_law_912 : decode cL_law 912 = .ok (.lshl, 1) := by decide +kernel
theorem dL_law_913 : decode cL_law 913 = .ok (.aload_n 0, 1) := by decide +kernel
theorem dL_law_914 : decode cL_law 914 = .ok (.iload_n 3, 1) := by decide +kernel
theorem dL_law_915 : decode cL_law 915 = .ok (.iconst 2, 1) := by decide +kernel
theorem dL_law_916 : decode cL_law 916 = .ok (.iadd, 1) := by decide +kernel
theorem dL_law_917 : decode cL_law 917 = .ok (.iaload, 1) := by decide +kernel
theorem dL_law_918 : decode cL_law 918 = .ok (.i2l, 1) := by decide +kernel
theorem dL_law_919 : decode cL_law 919 = .ok (.ldc2_w 31, 3) := by decide +kernel
theorem dL_law_922 : decode cL_law 922 = .ok (.land, 1) := by decide +kernel
theorem dL_law_923 : decode cL_law 923 = .ok (.lor, 1) := by decide +kernel
theorem dL_law_924 : decode cL_law 924 = .ok (.invokevirtual 126, 3) := by decide +kernel
theorem dL_law_927 : decode cL_law 927 = .ok (.aload_n 2, 1) := by decide +kernel
theorem dL_law_928 : decode cL_law 928 = .ok (.aload_n 0, 1) := by decide +kernel
theorem dL_law_929 : decode cL_law 929 = .ok (.iload_n 3, 1) := by decide +kernel
theorem dL_law_930 : decode cL_law 930 = .ok (.iconst 1, 1) := by decide +kernel
theorem dL_law_931 : decode cL_law 931 = .ok (.iadd, 1) := by decide +kernel
theorem dL_law_932 : decode cL_law 932 = .ok (.iaload, 1) := by decide +kernel
theorem dL_law_933 : decode cL_law 933 = .ok (.i2l, 1) := by decide +kernel
theorem dL_law_934 : decode cL_law 934 = .ok (.bipush 32, 2) := by decide +kernel
theorem dL_law_936 : decode cL_law 936 = .ok (.lshl, 1) := by decide +kernel
theorem dL_law_937 : decode cL_law 937 = .ok (.aload_n 0, 1) := by decide +kernel
theorem dL_law_938 : decode cL_law 938 = .ok (.iload_n 3, 1) := by decide +kernel
theorem dL_law_939 : decode cL_law 939 = .ok (.iconst 2, 1) := by decide +kernel
theorem dL_law_940 : decode cL_law 940 = .ok (.iadd, 1) := by decide +kernel
theorem dL_law_941 : decode cL_law 941 = .ok (.iaload, 1) := by decide +kernel
theorem dL_law_942 : decode cL_law 942 = .ok (.i2l, 1) := by decide +kernel
theorem dL_law_943 : decode cL_law 943 = .ok (.ldc2_w 31, 3) := by decide +kernel
theorem dL_law_946 : decode cL_law 946 = .ok (.land, 1) := by decide +kernel
theorem dL_law_947 : decode cL_law 947 = .ok (.lor, 1) := by decide +kernel
theorem dL_law_948 : decode cL_law 948 = .ok (.invokevirtual 130, 3) := by decide +kernel
theorem dL_law_951 : decode cL_law 951 = .ok (.lcmp, 1) := by decide +kernel
theorem dL_law_952 : decode cL_law 952 = .ok (.ifCond .eq 97, 3) := by decide +kernel
theorem dL_law_955 : decode cL_law 955 = .ok (.iconst 0, 1) := by decide +kernel
theorem dL_law_956 : decode cL_law 956 = .ok (.ireturn, 1) := by decide +kernel
theorem dL_law_957 : decode cL_law 957 = .ok (.aload_n 1, 1) := by decide +kernel
theorem dL_law_958 : decode cL_law 958 = .ok (.aload_n 0, 1) := by decide +kernel
theorem dL_law_959 : decode cL_law 959 = .ok (.iload_n 3, 1) := by decide +kernel
theorem dL_law_960 : decode cL_law 960 = .ok (.iconst 1, 1) := by decide +kernel
theorem dL_law_961 : decode cL_law 961 = .ok (.iadd, 1) := by decide +kernel
theorem dL_law_962 : decode cL_law 962 = .ok (.iaload, 1) := by decide +kernel
theorem dL_law_963 : decode cL_law 963 = .ok (.invokevirtual 131, 3) := by decide +kernel
theorem dL_law_966 : decode cL_law 966 = .ok (.aload_n 2, 1) := by decide +kernel
theorem dL_law_967 : decode cL_law 967 = .ok (.aload_n 0, 1) := by decide +kernel
theorem dL_law_968 : decode cL_law 968 = .ok (.iload_n 3, 1) := by decide +kernel
theorem dL_law_969 : decode cL_law 969 = .ok (.iconst 1, 1) := by decide +kernel
theorem dL_law_970 : decode cL_law 970 = .ok (.iadd, 1) := by decide +kernel
theorem dL_law_971 : decode cL_law 971 = .ok (.iaload, 1) := by decide +kernel
theorem dL_law_972 : decode cL_law 972 = .ok (.invokevirtual 134, 3) := by decide +kernel
theorem dL_law_975 : decode cL_law 975 = .ok (.if_icmp .eq 74, 3) := by decide +kernel
theorem dL_law_978 : decode cL_law 978 = .ok (.iconst 0, 1) := by decide +kernel
theorem dL_law_979 : decode cL_law 979 = .ok (.ireturn, 1) := by decide +kernel
theorem dL_law_980 : decode cL_law 980 = .ok (.aload_n 1, 1) := by decide +kernel
theorem dL_law_981 : decode cL_law 981 = .ok (.aload_n 0, 1) := by decide +kernel
theorem dL_law_982 : decode cL_law 982 = .ok (.iload_n 3, 1) := by decide +kernel
theorem dL_law_983 : decode cL_law 983 = .ok (.iconst 1, 1) := by decide +kernel
theorem dL_law_984 : decode cL_law 984 = .ok (.iadd, 1) := by decide +kernel
theorem dL_law_985 : decode cL_law 985 = .ok (.iaload, 1) := by decide +kernel
theorem dL_law_986 : decode cL_law 986 = .ok (.invokevirtual 135, 3) := by decide +kernel
theorem dL_law_989 : decode cL_law 989 = .ok (.aload_n 2, 1) := by decide +kernel
theorem dL_law_990 : decode cL_law 990 = .ok (.aload_n 0, 1) := by decide +kernel
theorem dL_law_991 : decode cL_law 991 = .ok (.iload_n 3, 1) := by decide +kernel
theorem dL_law_992 : decode cL_law 992 = .ok (.iconst 1, 1) := by decide +kernel
theorem dL_law_993 : decode cL_law 993 = .ok (.iadd, 1) := by decide +kernel
theorem dL_law_994 : decode cL_law 994 = .ok (.iaload, 1) := by decide +kernel
theorem dL_law_995 : decode cL_law 995 = .ok (.invokevirtual 138, 3) := by decide +kernel
theorem dL_law_998 : decode cL_law 998 = .ok (.if_icmp .eq 51, 3) := by decide +kernel
theorem dL_law_1001 : decode cL_law 1001 = .ok (.iconst 0, 1) := by decide +kernel
theorem dL_law_1002 : decode cL_law 1002 = .ok (.ireturn, 1) := by decide +kernel
theorem dL_law_1003 : decode cL_law 1003 = .ok (.aload_n 1, 1) := by decide +kernel
theorem dL_law_1004 : decode cL_law 1004 = .ok (.aload_n 0, 1) := by decide +kernel
theorem dL_law_1005 : decode cL_law 1005 = .ok (.iload_n 3, 1) := by decide +kernel
theorem dL_law_1006 : decode cL_law 1006 = .ok (.iconst 1, 1) := by decide +kernel
theorem dL_law_1007 : decode cL_law 1007 = .ok (.iadd, 1) := by decide +kernel
theorem dL_law_1008 : decode cL_law 1008 = .ok (.iaload, 1) := by decide +kernel
theorem dL_law_1009 : decode cL_law 1009 = .ok (.invokevirtual 139, 3) := by decide +kernel
theorem dL_law_1012 : decode cL_law 1012 = .ok (.aload_n 2, 1) := by decide +kernel
theorem dL_law_1013 : decode cL_law 1013 = .ok (.aload_n 0, 1) := by decide +kernel
theorem dL_law_1014 : decode cL_law 1014 = .ok (.iload_n 3, 1) := by decide +kernel
theorem dL_law_1015 : decode cL_law 1015 = .ok (.iconst 1, 1) := by decide +kernel
theorem dL_law_1016 : decode cL_law 1016 = .ok (.iadd, 1) := by decide +kernel
theorem dL_law_1017 : decode cL_law 1017 = .ok (.iaload, 1) := by decide +kernel
theorem dL_law_1018 : decode cL_law 1018 = .ok (.invokevirtual 142, 3) := by decide +kernel
theorem dL_law_1021 : decode cL_law 1021 = .ok (.if_icmp .eq 28, 3) := by decide +kernel
theorem dL_law_1024 : decode cL_law 1024 = .ok (.iconst 0, 1) := by decide +kernel
theorem dL_law_1025 : decode cL_law 1025 = .ok (.ireturn, 1) := by decide +kernel
theorem dL_law_1026 : decode cL_law 1026 = .ok (.aload_n 1, 1) := by decide +kernel
theorem dL_law_1027 : decode cL_law 1027 = .ok (.aload_n 0, 1) := by decide +kernel
theorem dL_law_1028 : decode cL_law 1028 = .ok (.iload_n 3, 1) := by decide +kernel
theorem dL_law_1029 : decode cL_law 1029 = .ok (.iconst 1, 1) := by decide +kernel
theorem dL_law_1030 : decode cL_law 1030 = .ok (.iadd, 1) := by decide +kernel
theorem dL_law_1031 : decode cL_law 1031 = .ok (.iaload, 1) := by decide +kernel
theorem dL_law_1032 : decode cL_law 1032 = .ok (.invokevirtual 143, 3) := by decide +kernel
theorem dL_law_1035 : decode cL_law 1035 = .ok (.aload_n 2, 1) := by decide +kernel
theorem dL_law_1036 : decode cL_law 1036 = .ok (.aload_n 0, 1) := by decide +kernel
theorem dL_law_1037 : decode cL_law 1037 = .ok (.iload_n 3, 1) := by decide +kernel
theorem dL_law_1038 : decode cL_law 1038 = .ok (.iconst 1, 1) := by decide +kernel
theorem dL_law_1039 : decode cL_law 1039 = .ok (.iadd, 1) := by decide +kernel
theorem dL_law_1040 : decode cL_law 1040 = .ok (.iaload, 1) := by decide +kernel
theorem dL_law_1041 : decode cL_law 1041 = .ok (.invokevirtual 146, 3) := by decide +kernel
theorem dL_law_1044 : decode cL_law 1044 = .ok (.if_icmp .eq 5, 3) := by decide +kernel
theorem dL_law_1047 : decode cL_law 1047 = .ok (.iconst 0, 1) := by decide +kernel
theorem dL_law_1048 : decode cL_law 1048 = .ok (.ireturn, 1) := by decide +kernel
theorem dL_law_1049 : decode cL_law 1049 = .ok (.iinc 3 4, 3) := by decide +kernel
theorem dL_law_1052 : decode cL_law 1052 = .ok (.goto (-1034), 3) := by decide +kernel
theorem dL_law_1055 : decode cL_law 1055 = .ok (.iconst 1, 1) := by decide +kernel
theorem dL_law_1056 : decode cL_law 1056 = .ok (.ireturn, 1) := by decide +kernel
end
