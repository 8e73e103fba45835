section
-- ===== PART A: goes FIRST, ahead of the names: the tables' words, and 'selects' of the private methods out of them =====
/-- a private method of a class that the tables say can be made, by its rows of tables_1 -/
def lw_okq (q : MethodName × Nat) : Prop := (q.1.cls ≠ "java/lang/invoke/MethodHandle" ∧ q.1.cls ≠ "java/lang/invoke/VarHandle") ∧ Cond.instantiable q.1.cls q.2 ∈ tables_1 ∧ Cond.privateMethod q.1 ∈ tables_1 ∧ Cond.instanceMethod q.1 ∈ tables_1
theorem lw_p0 : lw_okq (⟨"TinselRiver$Valley", "winterOf", "(I)V"⟩, 3) := ⟨⟨by decide +kernel, by decide +kernel⟩, List.mem_of_getElem? (i := 36) (by decide +kernel), List.mem_of_getElem? (i := 335) (by decide +kernel), List.mem_of_getElem? (i := 336) (by decide +kernel)⟩
theorem lw_p1 : lw_okq (⟨"TinselRiver$Valley", "floodFrom", "(I)V"⟩, 3) := ⟨⟨by decide +kernel, by decide +kernel⟩, List.mem_of_getElem? (i := 36) (by decide +kernel), List.mem_of_getElem? (i := 339) (by decide +kernel), List.mem_of_getElem? (i := 340) (by decide +kernel)⟩
theorem lw_p2 : lw_okq (⟨"TinselRiver$Valley", "countIn", "(I)I"⟩, 3) := ⟨⟨by decide +kernel, by decide +kernel⟩, List.mem_of_getElem? (i := 36) (by decide +kernel), List.mem_of_getElem? (i := 347) (by decide +kernel), List.mem_of_getElem? (i := 348) (by decide +kernel)⟩
theorem lw_p3 : lw_okq (⟨"TinselRiver", "take", "(I)I"⟩, 13) := ⟨⟨by decide +kernel, by decide +kernel⟩, List.mem_of_getElem? (i := 13) (by decide +kernel), List.mem_of_getElem? (i := 355) (by decide +kernel), List.mem_of_getElem? (i := 356) (by decide +kernel)⟩
theorem lw_p4 : lw_okq (⟨"TinselRiver$Row", "endsAs", "(LTinselRiver$Row;I)Z"⟩, 2) := ⟨⟨by decide +kernel, by decide +kernel⟩, List.mem_of_getElem? (i := 49) (by decide +kernel), List.mem_of_getElem? (i := 404) (by decide +kernel), List.mem_of_getElem? (i := 405) (by decide +kernel)⟩
theorem lw_p5 : lw_okq (⟨"TinselRiver", "isOrder", "(II)Z"⟩, 13) := ⟨⟨by decide +kernel, by decide +kernel⟩, List.mem_of_getElem? (i := 13) (by decide +kernel), List.mem_of_getElem? (i := 441) (by decide +kernel), List.mem_of_getElem? (i := 442) (by decide +kernel)⟩
theorem lw_p6 : lw_okq (⟨"TinselRiver", "flow", "(II)I"⟩, 13) := ⟨⟨by decide +kernel, by decide +kernel⟩, List.mem_of_getElem? (i := 13) (by decide +kernel), List.mem_of_getElem? (i := 448) (by decide +kernel), List.mem_of_getElem? (i := 449) (by decide +kernel)⟩
theorem lw_p7 : lw_okq (⟨"TinselRiver", "findCovers", "()V"⟩, 13) := ⟨⟨by decide +kernel, by decide +kernel⟩, List.mem_of_getElem? (i := 13) (by decide +kernel), List.mem_of_getElem? (i := 458) (by decide +kernel), List.mem_of_getElem? (i := 459) (by decide +kernel)⟩
theorem lw_p8 : lw_okq (⟨"TinselRiver", "canBe", "(I)Z"⟩, 13) := ⟨⟨by decide +kernel, by decide +kernel⟩, List.mem_of_getElem? (i := 13) (by decide +kernel), List.mem_of_getElem? (i := 492) (by decide +kernel), List.mem_of_getElem? (i := 493) (by decide +kernel)⟩
theorem lw_p9 : lw_okq (⟨"TinselRiver", "guessRow", "(II)V"⟩, 13) := ⟨⟨by decide +kernel, by decide +kernel⟩, List.mem_of_getElem? (i := 13) (by decide +kernel), List.mem_of_getElem? (i := 516) (by decide +kernel), List.mem_of_getElem? (i := 517) (by decide +kernel)⟩
theorem lw_p10 : lw_okq (⟨"TinselRiver", "coversOn", "(I)I"⟩, 13) := ⟨⟨by decide +kernel, by decide +kernel⟩, List.mem_of_getElem? (i := 13) (by decide +kernel), List.mem_of_getElem? (i := 530) (by decide +kernel), List.mem_of_getElem? (i := 531) (by decide +kernel)⟩
theorem lw_p11 : lw_okq (⟨"TinselRiver", "findGains", "(II)V"⟩, 13) := ⟨⟨by decide +kernel, by decide +kernel⟩, List.mem_of_getElem? (i := 13) (by decide +kernel), List.mem_of_getElem? (i := 545) (by decide +kernel), List.mem_of_getElem? (i := 546) (by decide +kernel)⟩
theorem lw_p12 : lw_okq (⟨"TinselRiver", "gainOf", "(I)I"⟩, 13) := ⟨⟨by decide +kernel, by decide +kernel⟩, List.mem_of_getElem? (i := 13) (by decide +kernel), List.mem_of_getElem? (i := 549) (by decide +kernel), List.mem_of_getElem? (i := 550) (by decide +kernel)⟩
theorem lw_p13 : lw_okq (⟨"TinselRiver", "isRest", "(I)Z"⟩, 13) := ⟨⟨by decide +kernel, by decide +kernel⟩, List.mem_of_getElem? (i := 13) (by decide +kernel), List.mem_of_getElem? (i := 553) (by decide +kernel), List.mem_of_getElem? (i := 554) (by decide +kernel)⟩
theorem lw_p14 : lw_okq (⟨"TinselRiver", "coveredBy", "(I)I"⟩, 13) := ⟨⟨by decide +kernel, by decide +kernel⟩, List.mem_of_getElem? (i := 13) (by decide +kernel), List.mem_of_getElem? (i := 561) (by decide +kernel), List.mem_of_getElem? (i := 562) (by decide +kernel)⟩
theorem lw_p15 : lw_okq (⟨"TinselRiver", "wholeBed", "()I"⟩, 13) := ⟨⟨by decide +kernel, by decide +kernel⟩, List.mem_of_getElem? (i := 13) (by decide +kernel), List.mem_of_getElem? (i := 565) (by decide +kernel), List.mem_of_getElem? (i := 566) (by decide +kernel)⟩
def lw_privs_1 : List (MethodName × Nat) := [(⟨"TinselRiver$Valley", "winterOf", "(I)V"⟩, 3), (⟨"TinselRiver$Valley", "floodFrom", "(I)V"⟩, 3), (⟨"TinselRiver$Valley", "countIn", "(I)I"⟩, 3), (⟨"TinselRiver", "take", "(I)I"⟩, 13), (⟨"TinselRiver$Row", "endsAs", "(LTinselRiver$Row;I)Z"⟩, 2), (⟨"TinselRiver", "isOrder", "(II)Z"⟩, 13), (⟨"TinselRiver", "flow", "(II)I"⟩, 13), (⟨"TinselRiver", "findCovers", "()V"⟩, 13), (⟨"TinselRiver", "canBe", "(I)Z"⟩, 13), (⟨"TinselRiver", "guessRow", "(II)V"⟩, 13), (⟨"TinselRiver", "coversOn", "(I)I"⟩, 13), (⟨"TinselRiver", "findGains", "(II)V"⟩, 13), (⟨"TinselRiver", "gainOf", "(I)I"⟩, 13), (⟨"TinselRiver", "isRest", "(I)Z"⟩, 13), (⟨"TinselRiver", "coveredBy", "(I)I"⟩, 13), (⟨"TinselRiver", "wholeBed", "()I"⟩, 13)]
theorem lw_r1 : ∀ q ∈ lw_privs_1, lw_okq q := List.forall_mem_cons.mpr ⟨lw_p0, List.forall_mem_cons.mpr ⟨lw_p1, List.forall_mem_cons.mpr ⟨lw_p2, List.forall_mem_cons.mpr ⟨lw_p3, List.forall_mem_cons.mpr ⟨lw_p4, List.forall_mem_cons.mpr ⟨lw_p5, List.forall_mem_cons.mpr ⟨lw_p6, List.forall_mem_cons.mpr ⟨lw_p7, List.forall_mem_cons.mpr ⟨lw_p8, List.forall_mem_cons.mpr ⟨lw_p9, List.forall_mem_cons.mpr ⟨lw_p10, List.forall_mem_cons.mpr ⟨lw_p11, List.forall_mem_cons.mpr ⟨lw_p12, List.forall_mem_cons.mpr ⟨lw_p13, List.forall_mem_cons.mpr ⟨lw_p14, List.forall_mem_cons.mpr ⟨lw_p15, fun _ h => absurd h List.not_mem_nil⟩⟩⟩⟩⟩⟩⟩⟩⟩⟩⟩⟩⟩⟩⟩⟩
theorem lw_p16 : lw_okq (⟨"TinselRiver", "doByChance", "(I)V"⟩, 13) := ⟨⟨by decide +kernel, by decide +kernel⟩, List.mem_of_getElem? (i := 13) (by decide +kernel), List.mem_of_getElem? (i := 582) (by decide +kernel), List.mem_of_getElem? (i := 583) (by decide +kernel)⟩
theorem lw_p17 : lw_okq (⟨"TinselRiverModel", "readText", "()I"⟩, 24) := ⟨⟨by decide +kernel, by decide +kernel⟩, List.mem_of_getElem? (i := 611) (by decide +kernel), List.mem_of_getElem? (i := 706) (by decide +kernel), List.mem_of_getElem? (i := 707) (by decide +kernel)⟩
theorem lw_p18 : lw_okq (⟨"TinselRiverModel", "readPart", "(I)V"⟩, 24) := ⟨⟨by decide +kernel, by decide +kernel⟩, List.mem_of_getElem? (i := 611) (by decide +kernel), List.mem_of_getElem? (i := 710) (by decide +kernel), List.mem_of_getElem? (i := 711) (by decide +kernel)⟩
theorem lw_p19 : lw_okq (⟨"TinselRiverModel", "nextOf", "(II)I"⟩, 24) := ⟨⟨by decide +kernel, by decide +kernel⟩, List.mem_of_getElem? (i := 611) (by decide +kernel), List.mem_of_getElem? (i := 714) (by decide +kernel), List.mem_of_getElem? (i := 715) (by decide +kernel)⟩
theorem lw_p20 : lw_okq (⟨"TinselRiverModel", "isBend", "()Z"⟩, 24) := ⟨⟨by decide +kernel, by decide +kernel⟩, List.mem_of_getElem? (i := 611) (by decide +kernel), List.mem_of_getElem? (i := 718) (by decide +kernel), List.mem_of_getElem? (i := 719) (by decide +kernel)⟩
theorem lw_p21 : lw_okq (⟨"TinselRiverModel", "isThere", "(II)Z"⟩, 24) := ⟨⟨by decide +kernel, by decide +kernel⟩, List.mem_of_getElem? (i := 611) (by decide +kernel), List.mem_of_getElem? (i := 742) (by decide +kernel), List.mem_of_getElem? (i := 743) (by decide +kernel)⟩
theorem lw_p22 : lw_okq (⟨"TinselRiverModel", "firstPlace", "(II)I"⟩, 24) := ⟨⟨by decide +kernel, by decide +kernel⟩, List.mem_of_getElem? (i := 611) (by decide +kernel), List.mem_of_getElem? (i := 746) (by decide +kernel), List.mem_of_getElem? (i := 747) (by decide +kernel)⟩
theorem lw_p23 : lw_okq (⟨"TinselRiverModel", "liesAt", "(III)Z"⟩, 24) := ⟨⟨by decide +kernel, by decide +kernel⟩, List.mem_of_getElem? (i := 611) (by decide +kernel), List.mem_of_getElem? (i := 750) (by decide +kernel), List.mem_of_getElem? (i := 751) (by decide +kernel)⟩
theorem lw_p24 : lw_okq (⟨"TinselRiverModel", "bendAt", "(III)I"⟩, 24) := ⟨⟨by decide +kernel, by decide +kernel⟩, List.mem_of_getElem? (i := 611) (by decide +kernel), List.mem_of_getElem? (i := 754) (by decide +kernel), List.mem_of_getElem? (i := 755) (by decide +kernel)⟩
theorem lw_p25 : lw_okq (⟨"TinselRiverModel", "keepAct", "()V"⟩, 24) := ⟨⟨by decide +kernel, by decide +kernel⟩, List.mem_of_getElem? (i := 611) (by decide +kernel), List.mem_of_getElem? (i := 767) (by decide +kernel), List.mem_of_getElem? (i := 768) (by decide +kernel)⟩
theorem lw_p26 : lw_okq (⟨"TinselRiverModel", "passOn", "(I)I"⟩, 24) := ⟨⟨by decide +kernel, by decide +kernel⟩, List.mem_of_getElem? (i := 611) (by decide +kernel), List.mem_of_getElem? (i := 771) (by decide +kernel), List.mem_of_getElem? (i := 772) (by decide +kernel)⟩
theorem lw_p27 : lw_okq (⟨"TinselRiverModel", "whoIs", "(I)I"⟩, 24) := ⟨⟨by decide +kernel, by decide +kernel⟩, List.mem_of_getElem? (i := 611) (by decide +kernel), List.mem_of_getElem? (i := 775) (by decide +kernel), List.mem_of_getElem? (i := 776) (by decide +kernel)⟩
theorem lw_p28 : lw_okq (⟨"TinselRiverModel", "hurt", "(II)V"⟩, 24) := ⟨⟨by decide +kernel, by decide +kernel⟩, List.mem_of_getElem? (i := 611) (by decide +kernel), List.mem_of_getElem? (i := 779) (by decide +kernel), List.mem_of_getElem? (i := 780) (by decide +kernel)⟩
theorem lw_p29 : lw_okq (⟨"TinselRiverModel", "inHouse", "(II)I"⟩, 24) := ⟨⟨by decide +kernel, by decide +kernel⟩, List.mem_of_getElem? (i := 611) (by decide +kernel), List.mem_of_getElem? (i := 783) (by decide +kernel), List.mem_of_getElem? (i := 784) (by decide +kernel)⟩
theorem lw_p30 : lw_okq (⟨"TinselRiverModel", "loseFirst", "(II)V"⟩, 24) := ⟨⟨by decide +kernel, by decide +kernel⟩, List.mem_of_getElem? (i := 611) (by decide +kernel), List.mem_of_getElem? (i := 790) (by decide +kernel), List.mem_of_getElem? (i := 791) (by decide +kernel)⟩
theorem lw_p31 : lw_okq (⟨"TinselRiverModel", "loseLast", "(II)V"⟩, 24) := ⟨⟨by decide +kernel, by decide +kernel⟩, List.mem_of_getElem? (i := 611) (by decide +kernel), List.mem_of_getElem? (i := 794) (by decide +kernel), List.mem_of_getElem? (i := 795) (by decide +kernel)⟩
def lw_privs_2 : List (MethodName × Nat) := [(⟨"TinselRiver", "doByChance", "(I)V"⟩, 13), (⟨"TinselRiverModel", "readText", "()I"⟩, 24), (⟨"TinselRiverModel", "readPart", "(I)V"⟩, 24), (⟨"TinselRiverModel", "nextOf", "(II)I"⟩, 24), (⟨"TinselRiverModel", "isBend", "()Z"⟩, 24), (⟨"TinselRiverModel", "isThere", "(II)Z"⟩, 24), (⟨"TinselRiverModel", "firstPlace", "(II)I"⟩, 24), (⟨"TinselRiverModel", "liesAt", "(III)Z"⟩, 24), (⟨"TinselRiverModel", "bendAt", "(III)I"⟩, 24), (⟨"TinselRiverModel", "keepAct", "()V"⟩, 24), (⟨"TinselRiverModel", "passOn", "(I)I"⟩, 24), (⟨"TinselRiverModel", "whoIs", "(I)I"⟩, 24), (⟨"TinselRiverModel", "hurt", "(II)V"⟩, 24), (⟨"TinselRiverModel", "inHouse", "(II)I"⟩, 24), (⟨"TinselRiverModel", "loseFirst", "(II)V"⟩, 24), (⟨"TinselRiverModel", "loseLast", "(II)V"⟩, 24)]
theorem lw_r2 : ∀ q ∈ lw_privs_2, lw_okq q := List.forall_mem_cons.mpr ⟨lw_p16, List.forall_mem_cons.mpr ⟨lw_p17, List.forall_mem_cons.mpr ⟨lw_p18, List.forall_mem_cons.mpr ⟨lw_p19, List.forall_mem_cons.mpr ⟨lw_p20, List.forall_mem_cons.mpr ⟨lw_p21, List.forall_mem_cons.mpr ⟨lw_p22, List.forall_mem_cons.mpr ⟨lw_p23, List.forall_mem_cons.mpr ⟨lw_p24, List.forall_mem_cons.mpr ⟨lw_p25, List.forall_mem_cons.mpr ⟨lw_p26, List.forall_mem_cons.mpr ⟨lw_p27, List.forall_mem_cons.mpr ⟨lw_p28, List.forall_mem_cons.mpr ⟨lw_p29, List.forall_mem_cons.mpr ⟨lw_p30, List.forall_mem_cons.mpr ⟨lw_p31, fun _ h => absurd h List.not_mem_nil⟩⟩⟩⟩⟩⟩⟩⟩⟩⟩⟩⟩⟩⟩⟩⟩
theorem lw_p32 : lw_okq (⟨"TinselRiverModel", "turnOn", "(II)V"⟩, 24) := ⟨⟨by decide +kernel, by decide +kernel⟩, List.mem_of_getElem? (i := 611) (by decide +kernel), List.mem_of_getElem? (i := 810) (by decide +kernel), List.mem_of_getElem? (i := 811) (by decide +kernel)⟩
theorem lw_p33 : lw_okq (⟨"TinselRiverModel", "isOneHouse", "(III)Z"⟩, 24) := ⟨⟨by decide +kernel, by decide +kernel⟩, List.mem_of_getElem? (i := 611) (by decide +kernel), List.mem_of_getElem? (i := 822) (by decide +kernel), List.mem_of_getElem? (i := 823) (by decide +kernel)⟩
theorem lw_p34 : lw_okq (⟨"TinselRiverModel", "canJoin", "(III)Z"⟩, 24) := ⟨⟨by decide +kernel, by decide +kernel⟩, List.mem_of_getElem? (i := 611) (by decide +kernel), List.mem_of_getElem? (i := 826) (by decide +kernel), List.mem_of_getElem? (i := 827) (by decide +kernel)⟩
theorem lw_p35 : lw_okq (⟨"TinselRiverModel", "joinedMany", "(III)I"⟩, 24) := ⟨⟨by decide +kernel, by decide +kernel⟩, List.mem_of_getElem? (i := 611) (by decide +kernel), List.mem_of_getElem? (i := 830) (by decide +kernel), List.mem_of_getElem? (i := 831) (by decide +kernel)⟩
theorem lw_p36 : lw_okq (⟨"TinselRiverModel", "overlapOf", "(III)I"⟩, 24) := ⟨⟨by decide +kernel, by decide +kernel⟩, List.mem_of_getElem? (i := 611) (by decide +kernel), List.mem_of_getElem? (i := 834) (by decide +kernel), List.mem_of_getElem? (i := 835) (by decide +kernel)⟩
theorem lw_p37 : lw_okq (⟨"TinselRiverModel", "joinOn", "(III)V"⟩, 24) := ⟨⟨by decide +kernel, by decide +kernel⟩, List.mem_of_getElem? (i := 611) (by decide +kernel), List.mem_of_getElem? (i := 838) (by decide +kernel), List.mem_of_getElem? (i := 839) (by decide +kernel)⟩
theorem lw_p38 : lw_okq (⟨"TinselRiverModel", "layTrial", "()V"⟩, 24) := ⟨⟨by decide +kernel, by decide +kernel⟩, List.mem_of_getElem? (i := 611) (by decide +kernel), List.mem_of_getElem? (i := 851) (by decide +kernel), List.mem_of_getElem? (i := 852) (by decide +kernel)⟩
theorem lw_p39 : lw_okq (⟨"TinselRiverModel", "riverBy", "(II)I"⟩, 24) := ⟨⟨by decide +kernel, by decide +kernel⟩, List.mem_of_getElem? (i := 611) (by decide +kernel), List.mem_of_getElem? (i := 867) (by decide +kernel), List.mem_of_getElem? (i := 868) (by decide +kernel)⟩
theorem lw_p40 : lw_okq (⟨"TinselRiverModel", "flowOn", "(I)V"⟩, 24) := ⟨⟨by decide +kernel, by decide +kernel⟩, List.mem_of_getElem? (i := 611) (by decide +kernel), List.mem_of_getElem? (i := 871) (by decide +kernel), List.mem_of_getElem? (i := 872) (by decide +kernel)⟩
theorem lw_p41 : lw_okq (⟨"TinselRiverModel", "goesOn", "(II)Z"⟩, 24) := ⟨⟨by decide +kernel, by decide +kernel⟩, List.mem_of_getElem? (i := 611) (by decide +kernel), List.mem_of_getElem? (i := 875) (by decide +kernel), List.mem_of_getElem? (i := 876) (by decide +kernel)⟩
theorem lw_p42 : lw_okq (⟨"TinselRiverModel", "coverOf", "(I)I"⟩, 24) := ⟨⟨by decide +kernel, by decide +kernel⟩, List.mem_of_getElem? (i := 611) (by decide +kernel), List.mem_of_getElem? (i := 883) (by decide +kernel), List.mem_of_getElem? (i := 884) (by decide +kernel)⟩
theorem lw_p43 : lw_okq (⟨"TinselRiverModel", "isWay", "(I)Z"⟩, 24) := ⟨⟨by decide +kernel, by decide +kernel⟩, List.mem_of_getElem? (i := 611) (by decide +kernel), List.mem_of_getElem? (i := 891) (by decide +kernel), List.mem_of_getElem? (i := 892) (by decide +kernel)⟩
theorem lw_p44 : lw_okq (⟨"TinselRiverModel", "tryThing", "(III)Z"⟩, 24) := ⟨⟨by decide +kernel, by decide +kernel⟩, List.mem_of_getElem? (i := 611) (by decide +kernel), List.mem_of_getElem? (i := 903) (by decide +kernel), List.mem_of_getElem? (i := 904) (by decide +kernel)⟩
theorem lw_p45 : lw_okq (⟨"TinselRiverModel", "mayBeLaid", "(II)Z"⟩, 24) := ⟨⟨by decide +kernel, by decide +kernel⟩, List.mem_of_getElem? (i := 611) (by decide +kernel), List.mem_of_getElem? (i := 923) (by decide +kernel), List.mem_of_getElem? (i := 924) (by decide +kernel)⟩
theorem lw_p46 : lw_okq (⟨"TinselRiverModel", "fitsAt", "(III)Z"⟩, 24) := ⟨⟨by decide +kernel, by decide +kernel⟩, List.mem_of_getElem? (i := 611) (by decide +kernel), List.mem_of_getElem? (i := 927) (by decide +kernel), List.mem_of_getElem? (i := 928) (by decide +kernel)⟩
theorem lw_p47 : lw_okq (⟨"TinselRiverModel", "isRest", "(IIII)Z"⟩, 24) := ⟨⟨by decide +kernel, by decide +kernel⟩, List.mem_of_getElem? (i := 611) (by decide +kernel), List.mem_of_getElem? (i := 945) (by decide +kernel), List.mem_of_getElem? (i := 946) (by decide +kernel)⟩
def lw_privs_3 : List (MethodName × Nat) := [(⟨"TinselRiverModel", "turnOn", "(II)V"⟩, 24), (⟨"TinselRiverModel", "isOneHouse", "(III)Z"⟩, 24), (⟨"TinselRiverModel", "canJoin", "(III)Z"⟩, 24), (⟨"TinselRiverModel", "joinedMany", "(III)I"⟩, 24), (⟨"TinselRiverModel", "overlapOf", "(III)I"⟩, 24), (⟨"TinselRiverModel", "joinOn", "(III)V"⟩, 24), (⟨"TinselRiverModel", "layTrial", "()V"⟩, 24), (⟨"TinselRiverModel", "riverBy", "(II)I"⟩, 24), (⟨"TinselRiverModel", "flowOn", "(I)V"⟩, 24), (⟨"TinselRiverModel", "goesOn", "(II)Z"⟩, 24), (⟨"TinselRiverModel", "coverOf", "(I)I"⟩, 24), (⟨"TinselRiverModel", "isWay", "(I)Z"⟩, 24), (⟨"TinselRiverModel", "tryThing", "(III)Z"⟩, 24), (⟨"TinselRiverModel", "mayBeLaid", "(II)Z"⟩, 24), (⟨"TinselRiverModel", "fitsAt", "(III)Z"⟩, 24), (⟨"TinselRiverModel", "isRest", "(IIII)Z"⟩, 24)]
theorem lw_r3 : ∀ q ∈ lw_privs_3, lw_okq q := List.forall_mem_cons.mpr ⟨lw_p32, List.forall_mem_cons.mpr ⟨lw_p33, List.forall_mem_cons.mpr ⟨lw_p34, List.forall_mem_cons.mpr ⟨lw_p35, List.forall_mem_cons.mpr ⟨lw_p36, List.forall_mem_cons.mpr ⟨lw_p37, List.forall_mem_cons.mpr ⟨lw_p38, List.forall_mem_cons.mpr ⟨lw_p39, List.forall_mem_cons.mpr ⟨lw_p40, List.forall_mem_cons.mpr ⟨lw_p41, List.forall_mem_cons.mpr ⟨lw_p42, List.forall_mem_cons.mpr ⟨lw_p43, List.forall_mem_cons.mpr ⟨lw_p44, List.forall_mem_cons.mpr ⟨lw_p45, List.forall_mem_cons.mpr ⟨lw_p46, List.forall_mem_cons.mpr ⟨lw_p47, fun _ h => absurd h List.not_mem_nil⟩⟩⟩⟩⟩⟩⟩⟩⟩⟩⟩⟩⟩⟩⟩⟩
theorem lw_p48 : lw_okq (⟨"TinselRiverModel", "gain", "(IIIII)I"⟩, 24) := ⟨⟨by decide +kernel, by decide +kernel⟩, List.mem_of_getElem? (i := 611) (by decide +kernel), List.mem_of_getElem? (i := 949) (by decide +kernel), List.mem_of_getElem? (i := 950) (by decide +kernel)⟩
theorem lw_p49 : lw_okq (⟨"TinselRiverModel", "bendsOfAll", "(I)I"⟩, 24) := ⟨⟨by decide +kernel, by decide +kernel⟩, List.mem_of_getElem? (i := 611) (by decide +kernel), List.mem_of_getElem? (i := 972) (by decide +kernel), List.mem_of_getElem? (i := 973) (by decide +kernel)⟩
theorem lw_p50 : lw_okq (⟨"TinselRiverModel", "usedHouses", "()I"⟩, 24) := ⟨⟨by decide +kernel, by decide +kernel⟩, List.mem_of_getElem? (i := 611) (by decide +kernel), List.mem_of_getElem? (i := 988) (by decide +kernel), List.mem_of_getElem? (i := 989) (by decide +kernel)⟩
def lw_privs_4 : List (MethodName × Nat) := [(⟨"TinselRiverModel", "gain", "(IIIII)I"⟩, 24), (⟨"TinselRiverModel", "bendsOfAll", "(I)I"⟩, 24), (⟨"TinselRiverModel", "usedHouses", "()I"⟩, 24)]
theorem lw_r4 : ∀ q ∈ lw_privs_4, lw_okq q := List.forall_mem_cons.mpr ⟨lw_p48, List.forall_mem_cons.mpr ⟨lw_p49, List.forall_mem_cons.mpr ⟨lw_p50, fun _ h => absurd h List.not_mem_nil⟩⟩⟩
def lw_privs : List (MethodName × Nat) := lw_privs_1 ++ (lw_privs_2 ++ (lw_privs_3 ++ (lw_privs_4)))
def lw_tbl : List Cond := k2_sels lw_privs ++ tables_1
theorem lw_privs_ok : ∀ q ∈ lw_privs, lw_okq q := by
  show ∀ q ∈ lw_privs_1 ++ (lw_privs_2 ++ (lw_privs_3 ++ (lw_privs_4))), lw_okq q
  exact List.forall_mem_append.mpr ⟨lw_r1, List.forall_mem_append.mpr ⟨lw_r2, List.forall_mem_append.mpr ⟨lw_r3, lw_r4⟩⟩⟩
-- ===== end of PART A; then your names; then what follows =====
end
section
/-! ===== BEGIN printed: names, fields, word lists, decode rows ===== -/
def RX0 : String := "TinselRiver$Acts"
def TX0 : u_T := fun k => match k with
  | 0 => ("TinselRiver$Acts", "before", "[LTinselRiver$Valley;", true)
  | 1 => ("TinselRiver$Acts", "first", "I", false)
  | _ => ("TinselRiver$Acts", "size", "I", false)
def tyX0 : Nat → FieldType := fun k => match k with
  | 0 => .array (.object "TinselRiver$Valley")
  | 1 => .int
  | _ => .int
abbrev wsX00 : List Cond := u_ws RX0 TX0 3
theorem nmX0 : ∀ a, a < 3 → ∀ b, b < 3 → a ≠ b → (TX0 a).2.1 ≠ (TX0 b).2.1 := by decide +kernel
theorem tyX0_ok : ∀ k, k < 3 → parseFieldDescriptor (TX0 k).2.2.1 = some (tyX0 k) := by decide +kernel
abbrev cX0_init : ByteArray := prog_2_method_1_code
def yX0_init : MethodName := ⟨RX0, "<init>", "()V"⟩
abbrev cX0_clear : ByteArray := prog_2_method_2_code
def yX0_clear : MethodName := ⟨RX0, "clear", "()V"⟩
abbrev cX0_remember : ByteArray := prog_2_method_3_code
def yX0_remember : MethodName := ⟨RX0, "remember", "(LTinselRiver$Valley;)V"⟩
abbrev cX0_takeBack : ByteArray := prog_2_method_4_code
def yX0_takeBack : MethodName := ⟨RX0, "takeBack", "(LTinselRiver$Valley;)I"⟩
def RX1 : String := "TinselRiver$Laid"
def TX1 : u_T := fun k => match k with
  | 0 => ("TinselRiver$Laid", "places", "[I", true)
  | 1 => ("TinselRiver$Laid", "lay", "[Z", true)
  | _ => ("TinselRiver$Laid", "size", "I", false)
def tyX1 : Nat → FieldType := fun k => match k with
  | 0 => .array .int
  | 1 => .array .boolean
  | _ => .int
abbrev wsX10 : List Cond := u_ws RX1 TX1 3
theorem nmX1 : ∀ a, a < 3 → ∀ b, b < 3 → a ≠ b → (TX1 a).2.1 ≠ (TX1 b).2.1 := by decide +kernel
theorem tyX1_ok : ∀ k, k < 3 → parseFieldDescriptor (TX1 k).2.2.1 = some (tyX1 k) := by decide +kernel
abbrev cX1_init : ByteArray := prog_3_method_1_code
def yX1_init : MethodName := ⟨RX1, "<init>", "()V"⟩
abbrev cX1_add : ByteArray := prog_3_method_2_code
def yX1_add : MethodName := ⟨RX1, "add", "(IZ)I"⟩
abbrev cX1_clear : ByteArray := prog_3_method_3_code
def yX1_clear : MethodName := ⟨RX1, "clear", "()I"⟩
abbrev cX1_isSo : ByteArray := prog_3_method_4_code
def yX1_isSo : MethodName := ⟨RX1, "isSo", "(LTinselRiver$Row;LTinselRiver$Row;)Z"⟩
def RX2 : String := "TinselRiver$Row"
def TX2 : u_T := fun k => match k with
  | 0 => ("TinselRiver$Row", "bends", "[I", true)
  | _ => ("TinselRiver$Row", "size", "I", false)
def tyX2 : Nat → FieldType := fun k => match k with
  | 0 => .array .int
  | _ => .int
abbrev wsX20 : List Cond := u_ws RX2 TX2 2
theorem nmX2 : ∀ a, a < 2 → ∀ b, b < 2 → a ≠ b → (TX2 a).2.1 ≠ (TX2 b).2.1 := by decide +kernel
theorem tyX2_ok : ∀ k, k < 2 → parseFieldDescriptor (TX2 k).2.2.1 = some (tyX2 k) := by decide +kernel
abbrev cX2_init : ByteArray := prog_4_method_1_code
def yX2_init : MethodName := ⟨RX2, "<init>", "(I)V"⟩
abbrev cX2_clear : ByteArray := prog_4_method_2_code
def yX2_clear : MethodName := ⟨RX2, "clear", "()V"⟩
abbrev cX2_add : ByteArray := prog_4_method_3_code
def yX2_add : MethodName := ⟨RX2, "add", "(I)V"⟩
abbrev cX2_setTo : ByteArray := prog_4_method_4_code
def yX2_setTo : MethodName := ⟨RX2, "setTo", "(LTinselRiver$Row;)V"⟩
abbrev cX2_setFigures : ByteArray := prog_4_method_5_code
def yX2_setFigures : MethodName := ⟨RX2, "setFigures", "(IJ)V"⟩
abbrev cX2_figures : ByteArray := prog_4_method_6_code
def yX2_figures : MethodName := ⟨RX2, "figures", "()J"⟩
abbrev cX2_loseLast : ByteArray := prog_4_method_7_code
def yX2_loseLast : MethodName := ⟨RX2, "loseLast", "()V"⟩
abbrev cX2_loseFirst : ByteArray := prog_4_method_8_code
def yX2_loseFirst : MethodName := ⟨RX2, "loseFirst", "()V"⟩
abbrev cX2_reverse : ByteArray := prog_4_method_9_code
def yX2_reverse : MethodName := ⟨RX2, "reverse", "()V"⟩
abbrev cX2_overlapWith : ByteArray := prog_4_method_10_code
def yX2_overlapWith : MethodName := ⟨RX2, "overlapWith", "(LTinselRiver$Row;)I"⟩
abbrev cX2_endsAs : ByteArray := prog_4_method_11_code
def yX2_endsAs : MethodName := ⟨RX2, "endsAs", "(LTinselRiver$Row;I)Z"⟩
abbrev cX2_addBehind : ByteArray := prog_4_method_12_code
def yX2_addBehind : MethodName := ⟨RX2, "addBehind", "(LTinselRiver$Row;)V"⟩
abbrev cX2_bearsAt : ByteArray := prog_4_method_13_code
def yX2_bearsAt : MethodName := ⟨RX2, "bearsAt", "(ILTinselRiver$Row;)Z"⟩
abbrev cX2_firstPlaceOf : ByteArray := prog_4_method_14_code
def yX2_firstPlaceOf : MethodName := ⟨RX2, "firstPlaceOf", "(LTinselRiver$Row;)I"⟩
abbrev cX2_bitsAt : ByteArray := prog_4_method_15_code
def yX2_bitsAt : MethodName := ⟨RX2, "bitsAt", "(I)I"⟩
abbrev cX2_placesUnder : ByteArray := prog_4_method_16_code
def yX2_placesUnder : MethodName := ⟨RX2, "placesUnder", "(LTinselRiver$Row;)I"⟩
def RX3 : String := "TinselRiver$Slots"
def TX3 : u_T := fun k => match k with
  | 0 => ("TinselRiver$Slots", "kept", "[LTinselRiver$Valley;", true)
  | _ => ("TinselRiver$Slots", "filled", "I", false)
def tyX3 : Nat → FieldType := fun k => match k with
  | 0 => .array (.object "TinselRiver$Valley")
  | _ => .int
abbrev wsX30 : List Cond := u_ws RX3 TX3 2
theorem nmX3 : ∀ a, a < 2 → ∀ b, b < 2 → a ≠ b → (TX3 a).2.1 ≠ (TX3 b).2.1 := by decide +kernel
theorem tyX3_ok : ∀ k, k < 2 → parseFieldDescriptor (TX3 k).2.2.1 = some (tyX3 k) := by decide +kernel
abbrev cX3_init : ByteArray := prog_5_method_1_code
def yX3_init : MethodName := ⟨RX3, "<init>", "()V"⟩
abbrev cX3_clear : ByteArray := prog_5_method_2_code
def yX3_clear : MethodName := ⟨RX3, "clear", "()V"⟩
abbrev cX3_put : ByteArray := prog_5_method_3_code
def yX3_put : MethodName := ⟨RX3, "put", "(ILTinselRiver$Valley;)I"⟩
abbrev cX3_bringBack : ByteArray := prog_5_method_4_code
def yX3_bringBack : MethodName := ⟨RX3, "bringBack", "(ILTinselRiver$Valley;)I"⟩
def RX4 : String := "TinselRiver$Strand"
def TX4 : u_T := fun k => match k with
  | 0 => ("TinselRiver$Strand", "row", "LTinselRiver$Row;", true)
  | 1 => ("TinselRiver$Strand", "house", "I", false)
  | _ => ("TinselRiver$Strand", "kind", "I", false)
def tyX4 : Nat → FieldType := fun k => match k with
  | 0 => .object "TinselRiver$Row"
  | 1 => .int
  | _ => .int
abbrev wsX40 : List Cond := u_ws RX4 TX4 3
theorem nmX4 : ∀ a, a < 3 → ∀ b, b < 3 → a ≠ b → (TX4 a).2.1 ≠ (TX4 b).2.1 := by decide +kernel
theorem tyX4_ok : ∀ k, k < 3 → parseFieldDescriptor (TX4 k).2.2.1 = some (tyX4 k) := by decide +kernel
abbrev cX4_init : ByteArray := prog_6_method_1_code
def yX4_init : MethodName := ⟨RX4, "<init>", "()V"⟩
abbrev cX4_setTo : ByteArray := prog_6_method_2_code
def yX4_setTo : MethodName := ⟨RX4, "setTo", "(LTinselRiver$Strand;)V"⟩
def RX5 : String := "TinselRiver$Text"
def TX5 : u_T := fun k => match k with
  | 0 => ("TinselRiver$Text", "letters", "[I", true)
  | _ => ("TinselRiver$Text", "size", "I", false)
def tyX5 : Nat → FieldType := fun k => match k with
  | 0 => .array .int
  | _ => .int
abbrev wsX50 : List Cond := u_ws RX5 TX5 2
theorem nmX5 : ∀ a, a < 2 → ∀ b, b < 2 → a ≠ b → (TX5 a).2.1 ≠ (TX5 b).2.1 := by decide +kernel
theorem tyX5_ok : ∀ k, k < 2 → parseFieldDescriptor (TX5 k).2.2.1 = some (tyX5 k) := by decide +kernel
abbrev cX5_init : ByteArray := prog_7_method_1_code
def yX5_init : MethodName := ⟨RX5, "<init>", "()V"⟩
abbrev cX5_add : ByteArray := prog_7_method_2_code
def yX5_add : MethodName := ⟨RX5, "add", "(I)I"⟩
abbrev cX5_clear : ByteArray := prog_7_method_3_code
def yX5_clear : MethodName := ⟨RX5, "clear", "()I"⟩
abbrev cX5_firstFault : ByteArray := prog_7_method_4_code
def yX5_firstFault : MethodName := ⟨RX5, "firstFault", "()I"⟩
abbrev cX5_stateAfter : ByteArray := prog_7_method_5_code
def yX5_stateAfter : MethodName := ⟨RX5, "stateAfter", "(III)I"⟩
abbrev cX5_isFigure : ByteArray := prog_7_method_6_code
def yX5_isFigure : MethodName := ⟨RX5, "isFigure", "(II)Z"⟩
abbrev cX5_isBend : ByteArray := prog_7_method_7_code
def yX5_isBend : MethodName := ⟨RX5, "isBend", "(I)Z"⟩
abbrev cX5_tellTo : ByteArray := prog_7_method_8_code
def yX5_tellTo : MethodName := ⟨RX5, "tellTo", "(LTinselRiver$Valley;)V"⟩
def RX6 : String := "TinselRiver$Valley"
def TX6 : u_T := fun k => match k with
  | 0 => ("TinselRiver$Valley", "strands", "[LTinselRiver$Strand;", true)
  | 1 => ("TinselRiver$Valley", "told", "I", false)
  | _ => ("TinselRiver$Valley", "year", "I", false)
def tyX6 : Nat → FieldType := fun k => match k with
  | 0 => .array (.object "TinselRiver$Strand")
  | 1 => .int
  | _ => .int
abbrev wsX60 : List Cond := u_ws RX6 TX6 3
theorem nmX6 : ∀ a, a < 3 → ∀ b, b < 3 → a ≠ b → (TX6 a).2.1 ≠ (TX6 b).2.1 := by decide +kernel
theorem tyX6_ok : ∀ k, k < 3 → parseFieldDescriptor (TX6 k).2.2.1 = some (tyX6 k) := by decide +kernel
abbrev cX6_init : ByteArray := prog_8_method_1_code
def yX6_init : MethodName := ⟨RX6, "<init>", "()V"⟩
abbrev cX6_clear : ByteArray := prog_8_method_2_code
def yX6_clear : MethodName := ⟨RX6, "clear", "()V"⟩
abbrev cX6_setTo : ByteArray := prog_8_method_3_code
def yX6_setTo : MethodName := ⟨RX6, "setTo", "(LTinselRiver$Valley;)V"⟩
abbrev cX6_begin : ByteArray := prog_8_method_4_code
def yX6_begin : MethodName := ⟨RX6, "begin", "(II)V"⟩
abbrev cX6_bendLast : ByteArray := prog_8_method_5_code
def yX6_bendLast : MethodName := ⟨RX6, "bendLast", "(I)V"⟩
abbrev cX6_has : ByteArray := prog_8_method_6_code
def yX6_has : MethodName := ⟨RX6, "has", "(I)Z"⟩
abbrev cX6_whoIsThere : ByteArray := prog_8_method_7_code
def yX6_whoIsThere : MethodName := ⟨RX6, "whoIsThere", "()I"⟩
abbrev cX6_bendsFrom : ByteArray := prog_8_method_8_code
def yX6_bendsFrom : MethodName := ⟨RX6, "bendsFrom", "(I)I"⟩
abbrev cX6_housesInUse : ByteArray := prog_8_method_9_code
def yX6_housesInUse : MethodName := ⟨RX6, "housesInUse", "()I"⟩
abbrev cX6_countIn : ByteArray := prog_8_method_10_code
def yX6_countIn : MethodName := ⟨RX6, "countIn", "(I)I"⟩
abbrev cX6_passWinter : ByteArray := prog_8_method_11_code
def yX6_passWinter : MethodName := ⟨RX6, "passWinter", "()I"⟩
abbrev cX6_winterOf : ByteArray := prog_8_method_12_code
def yX6_winterOf : MethodName := ⟨RX6, "winterOf", "(I)V"⟩
abbrev cX6_floodFrom : ByteArray := prog_8_method_13_code
def yX6_floodFrom : MethodName := ⟨RX6, "floodFrom", "(I)V"⟩
abbrev cX6_hangIn : ByteArray := prog_8_method_14_code
def yX6_hangIn : MethodName := ⟨RX6, "hangIn", "(II)I"⟩
abbrev cX6_turnAbout : ByteArray := prog_8_method_15_code
def yX6_turnAbout : MethodName := ⟨RX6, "turnAbout", "(I)I"⟩
abbrev cX6_snipEnd : ByteArray := prog_8_method_16_code
def yX6_snipEnd : MethodName := ⟨RX6, "snipEnd", "(I)I"⟩
abbrev cX6_joinTo : ByteArray := prog_8_method_17_code
def yX6_joinTo : MethodName := ⟨RX6, "joinTo", "(II)I"⟩
def RX7 : String := "TinselRiver"
def TX7 : u_T := fun k => match k with
  | 0 => ("TinselRiver", "text", "LTinselRiver$Text;", true)
  | 1 => ("TinselRiver", "valley", "LTinselRiver$Valley;", true)
  | 2 => ("TinselRiver", "trial", "LTinselRiver$Valley;", true)
  | 3 => ("TinselRiver", "acts", "LTinselRiver$Acts;", true)
  | 4 => ("TinselRiver", "slots", "LTinselRiver$Slots;", true)
  | 5 => ("TinselRiver", "laid", "LTinselRiver$Laid;", true)
  | 6 => ("TinselRiver", "bed", "LTinselRiver$Row;", true)
  | 7 => ("TinselRiver", "stream", "LTinselRiver$Row;", true)
  | 8 => ("TinselRiver", "guess", "LTinselRiver$Row;", true)
  | 9 => ("TinselRiver", "covers", "[I", true)
  | 10 => ("TinselRiver", "gainsOfOne", "[I", true)
  | 11 => ("TinselRiver", "gainsOfOther", "[I", true)
  | _ => ("TinselRiver", "seed", "J", false)
def tyX7 : Nat → FieldType := fun k => match k with
  | 0 => .object "TinselRiver$Text"
  | 1 => .object "TinselRiver$Valley"
  | 2 => .object "TinselRiver$Valley"
  | 3 => .object "TinselRiver$Acts"
  | 4 => .object "TinselRiver$Slots"
  | 5 => .object "TinselRiver$Laid"
  | 6 => .object "TinselRiver$Row"
  | 7 => .object "TinselRiver$Row"
  | 8 => .object "TinselRiver$Row"
  | 9 => .array .int
  | 10 => .array .int
  | 11 => .array .int
  | _ => .long
abbrev wsX70 : List Cond := u_ws RX7 TX7 13
theorem nmX7 : ∀ a, a < 13 → ∀ b, b < 13 → a ≠ b → (TX7 a).2.1 ≠ (TX7 b).2.1 := by decide +kernel
theorem tyX7_ok : ∀ k, k < 13 → parseFieldDescriptor (TX7 k).2.2.1 = some (tyX7 k) := by decide +kernel
abbrev cX7_init : ByteArray := prog_1_method_1_code
def yX7_init : MethodName := ⟨RX7, "<init>", "()V"⟩
abbrev cX7_write : ByteArray := prog_1_method_2_code
def yX7_write : MethodName := ⟨RX7, "write", "(I)I"⟩
abbrev cX7_wipe : ByteArray := prog_1_method_3_code
def yX7_wipe : MethodName := ⟨RX7, "wipe", "()I"⟩
abbrev cX7_fault : ByteArray := prog_1_method_4_code
def yX7_fault : MethodName := ⟨RX7, "fault", "()I"⟩
abbrev cX7_valley : ByteArray := prog_1_method_5_code
def yX7_valley : MethodName := ⟨RX7, "valley", "()I"⟩
abbrev cX7_bed : ByteArray := prog_1_method_6_code
def yX7_bed : MethodName := ⟨RX7, "bed", "(IJ)I"⟩
abbrev cX7_strand : ByteArray := prog_1_method_7_code
def yX7_strand : MethodName := ⟨RX7, "strand", "(II)I"⟩
abbrev cX7_bends : ByteArray := prog_1_method_8_code
def yX7_bends : MethodName := ⟨RX7, "bends", "(I)J"⟩
abbrev cX7_isRowOfBends : ByteArray := prog_1_method_9_code
def yX7_isRowOfBends : MethodName := ⟨RX7, "isRowOfBends", "(IJ)Z"⟩
abbrev cX7_winter : ByteArray := prog_1_method_10_code
def yX7_winter : MethodName := ⟨RX7, "winter", "()I"⟩
abbrev cX7_hang : ByteArray := prog_1_method_11_code
def yX7_hang : MethodName := ⟨RX7, "hang", "(II)I"⟩
abbrev cX7_turn : ByteArray := prog_1_method_12_code
def yX7_turn : MethodName := ⟨RX7, "turn", "(I)I"⟩
abbrev cX7_snip : ByteArray := prog_1_method_13_code
def yX7_snip : MethodName := ⟨RX7, "snip", "(I)I"⟩
abbrev cX7_join : ByteArray := prog_1_method_14_code
def yX7_join : MethodName := ⟨RX7, "join", "(II)I"⟩
abbrev cX7_undo : ByteArray := prog_1_method_15_code
def yX7_undo : MethodName := ⟨RX7, "undo", "()I"⟩
abbrev cX7_take : ByteArray := prog_1_method_16_code
def yX7_take : MethodName := ⟨RX7, "take", "(I)I"⟩
abbrev cX7_later : ByteArray := prog_1_method_17_code
def yX7_later : MethodName := ⟨RX7, "later", "(II)I"⟩
abbrev cX7_lasts : ByteArray := prog_1_method_18_code
def yX7_lasts : MethodName := ⟨RX7, "lasts", "(I)I"⟩
abbrev cX7_overlap : ByteArray := prog_1_method_19_code
def yX7_overlap : MethodName := ⟨RX7, "overlap", "(II)I"⟩
abbrev cX7_river : ByteArray := prog_1_method_20_code
def yX7_river : MethodName := ⟨RX7, "river", "(I)I"⟩
abbrev cX7_isOrder : ByteArray := prog_1_method_21_code
def yX7_isOrder : MethodName := ⟨RX7, "isOrder", "(II)Z"⟩
abbrev cX7_flow : ByteArray := prog_1_method_22_code
def yX7_flow : MethodName := ⟨RX7, "flow", "(II)I"⟩
abbrev cX7_figureOf : ByteArray := prog_1_method_23_code
def yX7_figureOf : MethodName := ⟨RX7, "figureOf", "(III)I"⟩
abbrev cX7_covered : ByteArray := prog_1_method_24_code
def yX7_covered : MethodName := ⟨RX7, "covered", "()I"⟩
abbrev cX7_findCovers : ByteArray := prog_1_method_25_code
def yX7_findCovers : MethodName := ⟨RX7, "findCovers", "()V"⟩
abbrev cX7_wholeBed : ByteArray := prog_1_method_26_code
def yX7_wholeBed : MethodName := ⟨RX7, "wholeBed", "()I"⟩
abbrev cX7_ways : ByteArray := prog_1_method_27_code
def yX7_ways : MethodName := ⟨RX7, "ways", "()I"⟩
abbrev cX7_waysFrom : ByteArray := prog_1_method_28_code
def yX7_waysFrom : MethodName := ⟨RX7, "waysFrom", "(LTinselRiver$Valley;LTinselRiver$Row;II)I"⟩
abbrev cX7_judge : ByteArray := prog_1_method_29_code
def yX7_judge : MethodName := ⟨RX7, "judge", "(IJ)I"⟩
abbrev cX7_canBe : ByteArray := prog_1_method_30_code
def yX7_canBe : MethodName := ⟨RX7, "canBe", "(I)Z"⟩
abbrev cX7_lay : ByteArray := prog_1_method_31_code
def yX7_lay : MethodName := ⟨RX7, "lay", "(II)I"⟩
abbrev cX7_unlay : ByteArray := prog_1_method_32_code
def yX7_unlay : MethodName := ⟨RX7, "unlay", "()I"⟩
abbrev cX7_which : ByteArray := prog_1_method_33_code
def yX7_which : MethodName := ⟨RX7, "which", "(I)I"⟩
abbrev cX7_guessRow : ByteArray := prog_1_method_34_code
def yX7_guessRow : MethodName := ⟨RX7, "guessRow", "(II)V"⟩
abbrev cX7_share : ByteArray := prog_1_method_35_code
def yX7_share : MethodName := ⟨RX7, "share", "(IZ)I"⟩
abbrev cX7_coversOn : ByteArray := prog_1_method_36_code
def yX7_coversOn : MethodName := ⟨RX7, "coversOn", "(I)I"⟩
abbrev cX7_rests : ByteArray := prog_1_method_37_code
def yX7_rests : MethodName := ⟨RX7, "rests", "(III)I"⟩
abbrev cX7_findGains : ByteArray := prog_1_method_38_code
def yX7_findGains : MethodName := ⟨RX7, "findGains", "(II)V"⟩
abbrev cX7_gainOf : ByteArray := prog_1_method_39_code
def yX7_gainOf : MethodName := ⟨RX7, "gainOf", "(I)I"⟩
abbrev cX7_isRest : ByteArray := prog_1_method_40_code
def yX7_isRest : MethodName := ⟨RX7, "isRest", "(I)Z"⟩
abbrev cX7_lost : ByteArray := prog_1_method_41_code
def yX7_lost : MethodName := ⟨RX7, "lost", "(IZ)I"⟩
abbrev cX7_coveredBy : ByteArray := prog_1_method_42_code
def yX7_coveredBy : MethodName := ⟨RX7, "coveredBy", "(I)I"⟩
abbrev cX7_chanceOf : ByteArray := prog_1_method_43_code
def yX7_chanceOf : MethodName := ⟨RX7, "chanceOf", "(III)I"⟩
abbrev cX7_partOfFraction : ByteArray := prog_1_method_44_code
def yX7_partOfFraction : MethodName := ⟨RX7, "partOfFraction", "(IIZ)I"⟩
abbrev cX7_commonDivisor : ByteArray := prog_1_method_45_code
def yX7_commonDivisor : MethodName := ⟨RX7, "commonDivisor", "(II)I"⟩
abbrev cX7_seed : ByteArray := prog_1_method_46_code
def yX7_seed : MethodName := ⟨RX7, "seed", "(J)J"⟩
abbrev cX7_years : ByteArray := prog_1_method_47_code
def yX7_years : MethodName := ⟨RX7, "years", "(I)I"⟩
abbrev cX7_doByChance : ByteArray := prog_1_method_48_code
def yX7_doByChance : MethodName := ⟨RX7, "doByChance", "(I)V"⟩
abbrev cX7_keep : ByteArray := prog_1_method_49_code
def yX7_keep : MethodName := ⟨RX7, "keep", "(I)I"⟩
abbrev cX7_again : ByteArray := prog_1_method_50_code
def yX7_again : MethodName := ⟨RX7, "again", "(I)I"⟩
abbrev cX7_count : ByteArray := prog_1_method_51_code
def yX7_count : MethodName := ⟨RX7, "count", "(I)I"⟩
def RX8 : String := "TinselRiverModel"
def TX8 : u_T := fun k => match k with
  | 0 => ("TinselRiverModel", "strands", "I", false)
  | 1 => ("TinselRiverModel", "kind", "[I", true)
  | 2 => ("TinselRiverModel", "now", "[I", true)
  | 3 => ("TinselRiverModel", "readHead", "[I", true)
  | 4 => ("TinselRiverModel", "readMany", "[I", true)
  | 5 => ("TinselRiverModel", "readBend", "[I", true)
  | 6 => ("TinselRiverModel", "readStrands", "I", false)
  | 7 => ("TinselRiverModel", "text", "[I", true)
  | 8 => ("TinselRiverModel", "length", "I", false)
  | 9 => ("TinselRiverModel", "at", "I", false)
  | 10 => ("TinselRiverModel", "faultAt", "I", false)
  | 11 => ("TinselRiverModel", "bedMany", "I", false)
  | 12 => ("TinselRiverModel", "bed", "[I", true)
  | 13 => ("TinselRiverModel", "acts", "I", false)
  | 14 => ("TinselRiverModel", "next", "I", false)
  | 15 => ("TinselRiverModel", "row", "[I", true)
  | 16 => ("TinselRiverModel", "stream", "[I", true)
  | 17 => ("TinselRiverModel", "streamMany", "I", false)
  | 18 => ("TinselRiverModel", "laid", "I", false)
  | 19 => ("TinselRiverModel", "laidAt", "[I", true)
  | 20 => ("TinselRiverModel", "laidIs", "[I", true)
  | 21 => ("TinselRiverModel", "seed", "J", false)
  | 22 => ("TinselRiverModel", "isKept", "[Z", true)
  | _ => ("TinselRiverModel", "kept", "[I", true)
def tyX8 : Nat → FieldType := fun k => match k with
  | 0 => .int
  | 1 => .array .int
  | 2 => .array .int
  | 3 => .array .int
  | 4 => .array .int
  | 5 => .array .int
  | 6 => .int
  | 7 => .array .int
  | 8 => .int
  | 9 => .int
  | 10 => .int
  | 11 => .int
  | 12 => .array .int
  | 13 => .int
  | 14 => .int
  | 15 => .array .int
  | 16 => .array .int
  | 17 => .int
  | 18 => .int
  | 19 => .array .int
  | 20 => .array .int
  | 21 => .long
  | 22 => .array .boolean
  | _ => .array .int
abbrev wsX80 : List Cond := u_ws RX8 TX8 24
theorem nmX8 : ∀ a, a < 24 → ∀ b, b < 24 → a ≠ b → (TX8 a).2.1 ≠ (TX8 b).2.1 := by decide +kernel
theorem tyX8_ok : ∀ k, k < 24 → parseFieldDescriptor (TX8 k).2.2.1 = some (tyX8 k) := by decide +kernel
abbrev cX8_init : ByteArray := prog_10_method_1_code
def yX8_init : MethodName := ⟨RX8, "<init>", "()V"⟩
abbrev cX8_in : ByteArray := prog_10_method_3_code
def yX8_in : MethodName := ⟨RX8, "in", "(JJJ)Z"⟩
abbrev cX8_has : ByteArray := prog_10_method_4_code
def yX8_has : MethodName := ⟨RX8, "has", "(II)Z"⟩
abbrev cX8_ones : ByteArray := prog_10_method_5_code
def yX8_ones : MethodName := ⟨RX8, "ones", "(I)I"⟩
abbrev cX8_write : ByteArray := prog_10_method_6_code
def yX8_write : MethodName := ⟨RX8, "write", "(I)I"⟩
abbrev cX8_wipe : ByteArray := prog_10_method_7_code
def yX8_wipe : MethodName := ⟨RX8, "wipe", "()I"⟩
abbrev cX8_nextOf : ByteArray := prog_10_method_8_code
def yX8_nextOf : MethodName := ⟨RX8, "nextOf", "(II)I"⟩
abbrev cX8_isBend : ByteArray := prog_10_method_9_code
def yX8_isBend : MethodName := ⟨RX8, "isBend", "()Z"⟩
abbrev cX8_readText : ByteArray := prog_10_method_10_code
def yX8_readText : MethodName := ⟨RX8, "readText", "()I"⟩
abbrev cX8_readPart : ByteArray := prog_10_method_11_code
def yX8_readPart : MethodName := ⟨RX8, "readPart", "(I)V"⟩
abbrev cX8_fault : ByteArray := prog_10_method_12_code
def yX8_fault : MethodName := ⟨RX8, "fault", "()I"⟩
abbrev cX8_valley : ByteArray := prog_10_method_13_code
def yX8_valley : MethodName := ⟨RX8, "valley", "()I"⟩
abbrev cX8_isThere : ByteArray := prog_10_method_14_code
def yX8_isThere : MethodName := ⟨RX8, "isThere", "(II)Z"⟩
abbrev cX8_bendAt : ByteArray := prog_10_method_15_code
def yX8_bendAt : MethodName := ⟨RX8, "bendAt", "(III)I"⟩
abbrev cX8_loseLast : ByteArray := prog_10_method_16_code
def yX8_loseLast : MethodName := ⟨RX8, "loseLast", "(II)V"⟩
abbrev cX8_loseFirst : ByteArray := prog_10_method_17_code
def yX8_loseFirst : MethodName := ⟨RX8, "loseFirst", "(II)V"⟩
abbrev cX8_inHouse : ByteArray := prog_10_method_18_code
def yX8_inHouse : MethodName := ⟨RX8, "inHouse", "(II)I"⟩
abbrev cX8_hurt : ByteArray := prog_10_method_19_code
def yX8_hurt : MethodName := ⟨RX8, "hurt", "(II)V"⟩
abbrev cX8_whoIs : ByteArray := prog_10_method_20_code
def yX8_whoIs : MethodName := ⟨RX8, "whoIs", "(I)I"⟩
abbrev cX8_passOn : ByteArray := prog_10_method_21_code
def yX8_passOn : MethodName := ⟨RX8, "passOn", "(I)I"⟩
abbrev cX8_turnOn : ByteArray := prog_10_method_22_code
def yX8_turnOn : MethodName := ⟨RX8, "turnOn", "(II)V"⟩
abbrev cX8_overlapOf : ByteArray := prog_10_method_23_code
def yX8_overlapOf : MethodName := ⟨RX8, "overlapOf", "(III)I"⟩
abbrev cX8_joinedMany : ByteArray := prog_10_method_24_code
def yX8_joinedMany : MethodName := ⟨RX8, "joinedMany", "(III)I"⟩
abbrev cX8_isOneHouse : ByteArray := prog_10_method_25_code
def yX8_isOneHouse : MethodName := ⟨RX8, "isOneHouse", "(III)Z"⟩
abbrev cX8_canJoin : ByteArray := prog_10_method_26_code
def yX8_canJoin : MethodName := ⟨RX8, "canJoin", "(III)Z"⟩
abbrev cX8_joinOn : ByteArray := prog_10_method_27_code
def yX8_joinOn : MethodName := ⟨RX8, "joinOn", "(III)V"⟩
abbrev cX8_tenTo : ByteArray := prog_10_method_28_code
def yX8_tenTo : MethodName := ⟨RX8, "tenTo", "(I)J"⟩
abbrev cX8_bed : ByteArray := prog_10_method_29_code
def yX8_bed : MethodName := ⟨RX8, "bed", "(IJ)I"⟩
abbrev cX8_liesAt : ByteArray := prog_10_method_30_code
def yX8_liesAt : MethodName := ⟨RX8, "liesAt", "(III)Z"⟩
abbrev cX8_firstPlace : ByteArray := prog_10_method_31_code
def yX8_firstPlace : MethodName := ⟨RX8, "firstPlace", "(II)I"⟩
abbrev cX8_coverOf : ByteArray := prog_10_method_32_code
def yX8_coverOf : MethodName := ⟨RX8, "coverOf", "(I)I"⟩
abbrev cX8_strand : ByteArray := prog_10_method_33_code
def yX8_strand : MethodName := ⟨RX8, "strand", "(II)I"⟩
abbrev cX8_bends : ByteArray := prog_10_method_34_code
def yX8_bends : MethodName := ⟨RX8, "bends", "(I)J"⟩
abbrev cX8_keepAct : ByteArray := prog_10_method_35_code
def yX8_keepAct : MethodName := ⟨RX8, "keepAct", "()V"⟩
abbrev cX8_winter : ByteArray := prog_10_method_36_code
def yX8_winter : MethodName := ⟨RX8, "winter", "()I"⟩
abbrev cX8_hang : ByteArray := prog_10_method_37_code
def yX8_hang : MethodName := ⟨RX8, "hang", "(II)I"⟩
abbrev cX8_turn : ByteArray := prog_10_method_38_code
def yX8_turn : MethodName := ⟨RX8, "turn", "(I)I"⟩
abbrev cX8_snip : ByteArray := prog_10_method_39_code
def yX8_snip : MethodName := ⟨RX8, "snip", "(I)I"⟩
abbrev cX8_join : ByteArray := prog_10_method_40_code
def yX8_join : MethodName := ⟨RX8, "join", "(II)I"⟩
abbrev cX8_undo : ByteArray := prog_10_method_41_code
def yX8_undo : MethodName := ⟨RX8, "undo", "()I"⟩
abbrev cX8_layTrial : ByteArray := prog_10_method_42_code
def yX8_layTrial : MethodName := ⟨RX8, "layTrial", "()V"⟩
abbrev cX8_later : ByteArray := prog_10_method_43_code
def yX8_later : MethodName := ⟨RX8, "later", "(II)I"⟩
abbrev cX8_lasts : ByteArray := prog_10_method_44_code
def yX8_lasts : MethodName := ⟨RX8, "lasts", "(I)I"⟩
abbrev cX8_overlap : ByteArray := prog_10_method_45_code
def yX8_overlap : MethodName := ⟨RX8, "overlap", "(II)I"⟩
abbrev cX8_flowOn : ByteArray := prog_10_method_46_code
def yX8_flowOn : MethodName := ⟨RX8, "flowOn", "(I)V"⟩
abbrev cX8_goesOn : ByteArray := prog_10_method_47_code
def yX8_goesOn : MethodName := ⟨RX8, "goesOn", "(II)Z"⟩
abbrev cX8_riverBy : ByteArray := prog_10_method_48_code
def yX8_riverBy : MethodName := ⟨RX8, "riverBy", "(II)I"⟩
abbrev cX8_river : ByteArray := prog_10_method_49_code
def yX8_river : MethodName := ⟨RX8, "river", "(I)I"⟩
abbrev cX8_covered : ByteArray := prog_10_method_50_code
def yX8_covered : MethodName := ⟨RX8, "covered", "()I"⟩
abbrev cX8_ways : ByteArray := prog_10_method_51_code
def yX8_ways : MethodName := ⟨RX8, "ways", "()I"⟩
abbrev cX8_isWay : ByteArray := prog_10_method_52_code
def yX8_isWay : MethodName := ⟨RX8, "isWay", "(I)Z"⟩
abbrev cX8_tryThing : ByteArray := prog_10_method_53_code
def yX8_tryThing : MethodName := ⟨RX8, "tryThing", "(III)Z"⟩
abbrev cX8_thousandTo : ByteArray := prog_10_method_54_code
def yX8_thousandTo : MethodName := ⟨RX8, "thousandTo", "(I)J"⟩
abbrev cX8_judge : ByteArray := prog_10_method_55_code
def yX8_judge : MethodName := ⟨RX8, "judge", "(IJ)I"⟩
abbrev cX8_lay : ByteArray := prog_10_method_56_code
def yX8_lay : MethodName := ⟨RX8, "lay", "(II)I"⟩
abbrev cX8_unlay : ByteArray := prog_10_method_57_code
def yX8_unlay : MethodName := ⟨RX8, "unlay", "()I"⟩
abbrev cX8_fitsAt : ByteArray := prog_10_method_58_code
def yX8_fitsAt : MethodName := ⟨RX8, "fitsAt", "(III)Z"⟩
abbrev cX8_mayBeLaid : ByteArray := prog_10_method_59_code
def yX8_mayBeLaid : MethodName := ⟨RX8, "mayBeLaid", "(II)Z"⟩
abbrev cX8_areBends : ByteArray := prog_10_method_60_code
def yX8_areBends : MethodName := ⟨RX8, "areBends", "(I)Z"⟩
abbrev cX8_which : ByteArray := prog_10_method_61_code
def yX8_which : MethodName := ⟨RX8, "which", "(I)I"⟩
abbrev cX8_factorial : ByteArray := prog_10_method_62_code
def yX8_factorial : MethodName := ⟨RX8, "factorial", "(I)I"⟩
abbrev cX8_common : ByteArray := prog_10_method_63_code
def yX8_common : MethodName := ⟨RX8, "common", "(II)I"⟩
abbrev cX8_share : ByteArray := prog_10_method_64_code
def yX8_share : MethodName := ⟨RX8, "share", "(IZ)I"⟩
abbrev cX8_gain : ByteArray := prog_10_method_65_code
def yX8_gain : MethodName := ⟨RX8, "gain", "(IIIII)I"⟩
abbrev cX8_isRest : ByteArray := prog_10_method_66_code
def yX8_isRest : MethodName := ⟨RX8, "isRest", "(IIII)Z"⟩
abbrev cX8_rests : ByteArray := prog_10_method_67_code
def yX8_rests : MethodName := ⟨RX8, "rests", "(III)I"⟩
abbrev cX8_power : ByteArray := prog_10_method_68_code
def yX8_power : MethodName := ⟨RX8, "power", "(II)I"⟩
abbrev cX8_lost : ByteArray := prog_10_method_69_code
def yX8_lost : MethodName := ⟨RX8, "lost", "(IZ)I"⟩
abbrev cX8_seed : ByteArray := prog_10_method_70_code
def yX8_seed : MethodName := ⟨RX8, "seed", "(J)J"⟩
abbrev cX8_bendsOfAll : ByteArray := prog_10_method_71_code
def yX8_bendsOfAll : MethodName := ⟨RX8, "bendsOfAll", "(I)I"⟩
abbrev cX8_years : ByteArray := prog_10_method_72_code
def yX8_years : MethodName := ⟨RX8, "years", "(I)I"⟩
abbrev cX8_keep : ByteArray := prog_10_method_73_code
def yX8_keep : MethodName := ⟨RX8, "keep", "(I)I"⟩
abbrev cX8_again : ByteArray := prog_10_method_74_code
def yX8_again : MethodName := ⟨RX8, "again", "(I)I"⟩
abbrev cX8_usedHouses : ByteArray := prog_10_method_75_code
def yX8_usedHouses : MethodName := ⟨RX8, "usedHouses", "()I"⟩
abbrev cX8_count : ByteArray := prog_10_method_76_code
def yX8_count : MethodName := ⟨RX8, "count", "(I)I"⟩
def RJ6 : String := "java/lang/Integer"
def TJ6 : u_T := fun k => match k with
  | _ => ("", "", "", false)
def tyJ6 : Nat → FieldType := fun k => match k with
  | _ => .int
abbrev wsJ60 : List Cond := u_ws RJ6 TJ6 0
theorem nmJ6 : ∀ a, a < 0 → ∀ b, b < 0 → a ≠ b → (TJ6 a).2.1 ≠ (TJ6 b).2.1 := by decide +kernel
theorem tyJ6_ok : ∀ k, k < 0 → parseFieldDescriptor (TJ6 k).2.2.1 = some (tyJ6 k) := by decide +kernel
abbrev cJ6_bitCount_0f7a4 : ByteArray := prog_11_method_49_code
def yJ6_bitCount_0f7a4 : MethodName := ⟨RJ6, "bitCount", "(I)I"⟩
def RJ9 : String := "java/lang/Math"
def TJ9 : u_T := fun k => match k with
  | _ => ("", "", "", false)
def tyJ9 : Nat → FieldType := fun k => match k with
  | _ => .int
abbrev wsJ90 : List Cond := u_ws RJ9 TJ9 0
theorem nmJ9 : ∀ a, a < 0 → ∀ b, b < 0 → a ≠ b → (TJ9 a).2.1 ≠ (TJ9 b).2.1 := by decide +kernel
theorem tyJ9_ok : ∀ k, k < 0 → parseFieldDescriptor (TJ9 k).2.2.1 = some (tyJ9 k) := by decide +kernel
abbrev cJ9_max_7cf53 : ByteArray := prog_12_method_65_code
def yJ9_max_7cf53 : MethodName := ⟨RJ9, "max", "(II)I"⟩
abbrev cJ9_max_f86c9 : ByteArray := prog_12_method_66_code
def yJ9_max_f86c9 : MethodName := ⟨RJ9, "max", "(JJ)J"⟩
abbrev cJ9_min_7cf53 : ByteArray := prog_12_method_69_code
def yJ9_min_7cf53 : MethodName := ⟨RJ9, "min", "(II)I"⟩
def RL : String := "TinselRiverLaw"
abbrev cL_law : ByteArray := code
def yL_law : MethodName := ⟨RL, "law", "([I)Z"⟩
abbrev vwCl : List vw_C := [(RX0, TX0, 3), (RX1, TX1, 3), (RX2, TX2, 2), (RX3, TX3, 2), (RX4, TX4, 3), (RX5, TX5, 2), (RX6, TX6, 3), (RX7, TX7, 13), (RX8, TX8, 24)]
end
section
/-! ===== the small machine: cells by number (0 the script, the rest in the order of their making), values with such numbers as references ===== -/
abbrev mC : Type := (Nat × List Value) ⊕ (Bool × List Int32) ⊕ (Bool × List Value)
abbrev mM : Type := List mC
abbrev mE : Type := Nat × Nat
abbrev mMe : Type := MethodName × ByteArray × Nat × Option FieldType
abbrev mL : Type := List (Option Value)
def mad (E : mE) (k : Nat) : Nat := match k with
  | 0 => E.1
  | j + 1 => E.2 + j
def mtr (E : mE) (v : Value) : Value := match v with
  | .ref k => .ref (mad E k)
  | w => w
def mty (z : Bool) : FieldType := match z with
  | false => .int
  | true => .boolean
def mel (z : Bool) : String := match z with
  | false => RX4
  | true => RX6
def mAt (E : mE) (D : va_G) (U : State) (k : Nat) (c : mC) (H : Heap) : Prop := match c with
  | .inl o => ∃ r : vw_C, vwCl[o.1]? = some r ∧ o.2.length = r.2.2 ∧ t_OB (mad E k) (D.1 o.1) r.2.2 (D.2 o.1) H (vp_V (o.2.map (mtr E)))
  | .inr (.inl o) => ∃ cell : Cell, H[mad E k]? = some cell ∧ U.isArrayOf cell (mty o.1) ∧ cell.vm ≠ .unknown ∧ cell.slots.size = o.2.length ∧ ∀ j, j < o.2.length → cell.slots[j]? = some (.int (o.2.getD j 0))
  | .inr (.inr o) => ∃ cA : ClassId, H[mad E k]? = some (arrV cA o.2.length (vp_V (o.2.map (mtr E)))) ∧ ArrOfT U cA (.object (mel o.1)) ∧ va_RA U cA (.object (mel o.1))
theorem mAt.kept {E : mE} {D : va_G} {U : State} {k : Nat} {c : mC} {H H1 : Heap} (h : mAt E D U k c H) (hq : H1[mad E k]? = H[mad E k]?) : mAt E D U k c H1 := by
  rcases c with o | o | o
  · obtain ⟨r, h1, h2, h3⟩ := h
    exact ⟨r, h1, h2, h3.kept hq⟩
  · obtain ⟨cell, h1, h2⟩ := h
    exact ⟨cell, by rw [hq]; exact h1, h2⟩
  · obtain ⟨cA, h1, h2⟩ := h
    exact ⟨cA, by rw [hq]; exact h1, h2⟩
theorem mAt.moved {E : mE} {D : va_G} {u U : State} {k : Nat} {c : mC} {H : Heap} (hvm : u.vm.Alike U.vm) (h : mAt E D u k c H) : mAt E D U k c H := by
  rcases c with o | o | o
  · exact h
  · obtain ⟨cell, h1, h2, h3⟩ := h
    exact ⟨cell, h1, State.isArrayOf_alike hvm h2, h3⟩
  · obtain ⟨cA, h1, h2, h3⟩ := h
    exact ⟨cA, h1, arrOfT_moved hvm h2, h3.moved hvm⟩
theorem mAt.lt {E : mE} {D : va_G} {U : State} {k : Nat} {c : mC} {H : Heap} (h : mAt E D U k c H) : mad E k < H.size := by
  rcases c with o | o | o
  · obtain ⟨r, h1, h2, cell, h3, -⟩ := h
    exact (Array.getElem?_eq_some_iff.mp h3).1
  · obtain ⟨cell, h1, -⟩ := h
    exact (Array.getElem?_eq_some_iff.mp h1).1
  · obtain ⟨cA, h1, -⟩ := h
    exact (Array.getElem?_eq_some_iff.mp h1).1
theorem mad_inj {E : mE} (hE : E.1 < E.2) {i j : Nat} (h : mad E i = mad E j) : i = j := by
  cases i <;> cases j <;> simp only [mad] at h <;> omega
theorem mad_base {E : mE} {k : Nat} (hk : 0 < k) : E.2 ≤ mad E k := by
  cases k with
  | zero => omega
  | succ k => exact Nat.le_add_right _ _
/-- the heap holds the cells -/
def mHold (E : mE) (D : va_G) (U : State) (M : mM) (H : Heap) : Prop := (∀ (k : Nat) (c : mC), M[k]? = some c → mAt E D U k c H) ∧ H.size + 1 = E.2 + M.length ∧ E.1 < E.2 ∧ 1 ≤ M.length
theorem mHold.moved {E : mE} {D : va_G} {u U : State} {M : mM} {H : Heap} (hvm : u.vm.Alike U.vm) (h : mHold E D u M H) : mHold E D U M H := ⟨fun k c hk => (h.1 k c hk).moved hvm, h.2⟩
theorem mHold.set {E : mE} {D : va_G} {U : State} {M : mM} {H H1 : Heap} {k : Nat} {c0 c : mC} (h : mHold E D U M H) (hk : M[k]? = some c0) (hz : H1.size = H.size) (ho : ∀ q : Nat, q ≠ mad E k → H1[q]? = H[q]?) (hc : mAt E D U k c H1) : mHold E D U (M.set k c) H1 := by
  have hl := (List.getElem?_eq_some_iff.mp hk).1
  refine ⟨fun j cj hj => ?_, by rw [hz, List.length_set]; exact h.2.1, h.2.2.1, by rw [List.length_set]; exact h.2.2.2⟩
  by_cases hjk : j = k
  · subst hjk
    rw [List.getElem?_set_self hl] at hj
    cases hj
    exact hc
  · rw [List.getElem?_set_ne (Ne.symm hjk)] at hj
    exact (h.1 j cj hj).kept (ho _ (fun z => hjk (mad_inj h.2.2.1 z)))
theorem mHold.new {E : mE} {D : va_G} {U : State} {M : mM} {H : Heap} (h : mHold E D U M H) : mad E M.length = H.size := by
  have h1 := h.2.1
  have h2 := h.2.2.2
  cases hm : M.length with
  | zero => omega
  | succ n => simp only [mad]; omega
theorem mHold.push {E : mE} {D : va_G} {U : State} {M : mM} {H H1 : Heap} {c : mC} (h : mHold E D U M H) (hz : H1.size = H.size + 1) (ho : ∀ q : Nat, q < H.size → H1[q]? = H[q]?) (hc : mAt E D U M.length c H1) : mHold E D U (M ++ [c]) H1 := by
  refine ⟨fun j cj hj => ?_, by rw [hz, List.length_append, List.length_singleton]; have := h.2.1; omega, h.2.2.1, by have := h.2.2.2; rw [List.length_append]; omega⟩
  by_cases hl : j < M.length
  · rw [List.getElem?_append_left hl] at hj
    have h1 := h.1 j cj hj
    exact h1.kept (ho _ h1.lt)
  · rw [List.getElem?_append_right (by omega)] at hj
    have hz : j - M.length < 1 := (List.getElem?_eq_some_iff.mp hj).1
    have hj0 : j = M.length := by omega
    subst hj0
    rw [Nat.sub_self] at hj
    cases hj
    exact hc
/-! the words -/
def mNest : Cond → Bool
  | .fieldLinkNest _ _ _ _ _ _ => true
  | .methodLinkNest _ _ _ _ => true
  | _ => false
def mT0 : List Cond := lw_tbl.filter goodWord
def mNw : List Cond := lw_tbl.filter mNest
def mK (D : va_G) (U : State) : Prop := (∀ (c : Nat) (q : vw_C), vwCl[c]? = some q → u_Kn U q.1 q.2.1 q.2.2 (D.1 c) (D.2 c)) ∧ (∀ w ∈ mNw, va_Nw w U) ∧ va_AO RX4 U ∧ va_AO RX6 U
theorem mK.warm {D : va_G} {s U : State} (hW : s.WarmedH U.vm) (h : mK D s) : mK D U := by
  refine ⟨fun c q hq => u_Kn_moved hW.alike (h.1 c q hq), fun w hw => ?_, h.2.2.1.moved hW.alike, h.2.2.2.moved hW.alike⟩
  have h1 := h.2.1 w hw
  have h2 : mNest w = true := (List.mem_filter.mp hw).2
  cases w <;> first | exact va_Nw.warmF hW h1 | exact va_Nw.warmM hW h1 | cases h2
theorem mK.va {D : va_G} {U : State} (h : mK D U) : va_K D vwCl [] U := ⟨h.1, fun k q hk => by simp at hk⟩
def mws (me : mMe) : List Cond := Cond.code me.1 me.2.1 me.2.2.1 me.2.2.2 :: mT0
def mrm (d mc ms : Nat) : Room := { frames := d, cells := mc, slots := ms, locals := 40 * d }
theorem mT0_tbl {i : Nat} {w : Cond} (h : tables_1[i]? = some w) (hg : goodWord w = true) : w ∈ mT0 := List.mem_filter.mpr ⟨List.mem_append_right _ (List.mem_of_getElem? h), hg⟩
theorem mNw_tbl {i : Nat} {w : Cond} (h : tables_1[i]? = some w) (hg : mNest w = true) : w ∈ mNw := List.mem_filter.mpr ⟨List.mem_append_right _ (List.mem_of_getElem? h), hg⟩
theorem mT0_prv {i : Nat} {w : Cond} (h : (k2_sels lw_privs)[i]? = some w) (hg : goodWord w = true) : w ∈ mT0 := List.mem_filter.mpr ⟨List.mem_append_left _ (List.mem_of_getElem? h), hg⟩
/-! locals -/
def mloc (E : mE) : Nat → mL → List (Nat × Value)
  | _, [] => []
  | i, none :: t => mloc E (i + 1) t
  | i, some v :: t => (i, mtr E v) :: mloc E (i + 1) t
theorem mloc_mem {E : mE} {q : Nat × Value} : ∀ {i : Nat} {l : mL}, q ∈ mloc E i l ↔ ∃ (j : Nat) (v : Value), l[j]? = some (some v) ∧ q = (i + j, mtr E v)
  | i, [] => by simp [mloc]
  | i, none :: t => by
    rw [mloc, mloc_mem]
    constructor
    · rintro ⟨j, v, h1, h2⟩
      exact ⟨j + 1, v, by simpa using h1, by rw [h2]; congr 1; omega⟩
    · rintro ⟨j, v, h1, h2⟩
      cases j with
      | zero => simp at h1
      | succ j => exact ⟨j, v, by simpa using h1, by rw [h2]; congr 1; omega⟩
  | i, some w :: t => by
    rw [mloc, List.mem_cons, mloc_mem]
    constructor
    · rintro (h | ⟨j, v, h1, h2⟩)
      · exact ⟨0, w, rfl, h⟩
      · exact ⟨j + 1, v, by simpa using h1, by rw [h2]; congr 1; omega⟩
    · rintro ⟨j, v, h1, h2⟩
      cases j with
      | zero => simp at h1; subst h1; exact Or.inl h2
      | succ j => exact Or.inr ⟨j, v, by simpa using h1, by rw [h2]; congr 1; omega⟩
theorem mloc_at {E : mE} {ls : Array Slot} {nL : Nat} {loc : mL} (h : lv_has ls nL (mloc E 0 loc)) {i : Nat} {v : Value} (hi : loc[i]? = some (some v)) : ls[i]? = some (.val (mtr E v)) :=
  h.2.2 (i, mtr E v) (mloc_mem.mpr ⟨i, v, hi, by rw [Nat.zero_add]⟩)
theorem lv_has.mono {ls : Array Slot} {nL : Nat} {l l' : List (Nat × Value)} (h : lv_has ls nL l) (hs : ∀ q ∈ l', q ∈ l) : lv_has ls nL l' := ⟨h.1, h.2.1, fun q hq => h.2.2 q (hs q hq)⟩
/-- no long lies right below that place -/
def mok1 (loc : mL) (i : Nat) : Bool := match i with
  | 0 => true
  | j + 1 => match loc[j]? with
    | some (some v) => v.category == 1
    | _ => true
theorem mtr_cat (E : mE) (v : Value) : (mtr E v).category = v.category := by cases v <;> rfl
theorem mloc_set1 {E : mE} {loc : mL} {i : Nat} {v : Value} (hok : mok1 loc i = true) : ∀ q ∈ mloc E 0 (loc.set i (some v)), q ∈ (i, mtr E v) :: (mloc E 0 loc).filter (fun q => !(q.1 == i) && !(q.1 + 1 == i && q.2.category == 2)) := by
  intro q hq
  obtain ⟨j, w, h1, h2⟩ := mloc_mem.mp hq
  rw [Nat.zero_add] at h2
  by_cases hji : j = i
  · subst hji
    have hl : j < loc.length := by
      have := (List.getElem?_eq_some_iff.mp h1).1
      rwa [List.length_set] at this
    rw [List.getElem?_set_self hl] at h1
    cases h1
    rw [h2]
    exact List.mem_cons_self
  · rw [List.getElem?_set_ne (Ne.symm hji)] at h1
    refine List.mem_cons_of_mem _ (List.mem_filter.mpr ⟨mloc_mem.mpr ⟨j, w, h1, by rw [h2, Nat.zero_add]⟩, ?_⟩)
    rw [h2]
    simp only [mtr_cat, Bool.and_eq_true, Bool.not_eq_true', beq_eq_false_iff_ne, ne_eq, hji, not_false_eq_true, true_and]
    cases i with
    | zero => simp
    | succ i =>
      by_cases hjj : j = i
      · subst hjj
        simp only [mok1, h1] at hok
        have := beq_iff_eq.mp hok
        simp [this]
      · simp [hjj]
theorem mloc_set2 {E : mE} {loc : mL} {i : Nat} {v : Value} (hok : mok1 loc i = true) : ∀ q ∈ mloc E 0 ((loc.set i (some v)).set (i + 1) none), q ∈ (i, mtr E v) :: (mloc E 0 loc).filter (fun q => !(q.1 == i) && (!(q.1 == i + 1) && !(q.1 + 1 == i && q.2.category == 2))) := by
  intro q hq
  obtain ⟨j, w, h1, h2⟩ := mloc_mem.mp hq
  rw [Nat.zero_add] at h2
  have hj1 : j ≠ i + 1 := by
    rintro rfl
    by_cases hl : i + 1 < (loc.set i (some v)).length
    · rw [List.getElem?_set_self hl] at h1; cases h1
    · rw [List.getElem?_eq_none (by rw [List.length_set]; omega)] at h1; cases h1
  rw [List.getElem?_set_ne (Ne.symm hj1)] at h1
  by_cases hji : j = i
  · subst hji
    have hl : j < loc.length := by
      have := (List.getElem?_eq_some_iff.mp h1).1
      rwa [List.length_set] at this
    rw [List.getElem?_set_self hl] at h1
    cases h1
    rw [h2]
    exact List.mem_cons_self
  · rw [List.getElem?_set_ne (Ne.symm hji)] at h1
    refine List.mem_cons_of_mem _ (List.mem_filter.mpr ⟨mloc_mem.mpr ⟨j, w, h1, by rw [h2, Nat.zero_add]⟩, ?_⟩)
    rw [h2]
    simp only [mtr_cat, Bool.and_eq_true, Bool.not_eq_true', beq_eq_false_iff_ne, ne_eq, hji, hj1, not_false_eq_true, true_and]
    cases i with
    | zero => simp
    | succ i =>
      by_cases hjj : j = i
      · subst hjj
        simp only [mok1, h1] at hok
        have := beq_iff_eq.mp hok
        simp [this]
      · simp [hjj]
theorem mloc_drop {E : mE} {loc : mL} {i : Nat} : ∀ q ∈ mloc E 0 (loc.set i none), q ∈ mloc E 0 loc := by
  intro q hq
  obtain ⟨j, w, h1, h2⟩ := mloc_mem.mp hq
  refine mloc_mem.mpr ⟨j, w, ?_, h2⟩
  by_cases hji : j = i
  · subst hji
    by_cases hl : j < loc.length
    · rw [List.getElem?_set_self hl] at h1; cases h1
    · rw [List.getElem?_eq_none (by rw [List.length_set]; omega)] at h1; cases h1
  · rwa [List.getElem?_set_ne (Ne.symm hji)] at h1
/-! the judgements: from a place of a method's code, and of a method called -/
def mretI (ret : Option FieldType) (r : Option Value) (i : Instr) (st : List Value) : Prop := match r with
  | none => i = .return_ ∧ st = [] ∧ ret = none
  | some (.int v) => i = .ireturn ∧ st = [.int v] ∧ ∃ ty, ret = some ty ∧ narrow ty (.int v) = .int v
  | some (.long v) => i = .lreturn ∧ st = [.long v] ∧ ret = some .long
  | _ => False
def mCtx (me : mMe) (D : va_G) (d mc ms : Nat) (p : Program) (R : Room) (s : State) (m : MethodId) (args : Array Value) (meth : Method) (c : Code) : Prop :=
  p.tables.exec = Jvm.exec ∧ c.code = me.2.1 ∧ c.maxLocals = me.2.2.1 ∧ s.vm.findClass me.1.cls = some m.cls ∧ (∀ w ∈ mT0, w.before args s = true) ∧ mK D s ∧ meth.name = me.1.name ∧ d ≤ R.frames ∧ 40 * d ≤ R.locals ∧ mc ≤ R.cells ∧ ms ≤ R.slots
def mRet (me : mMe) (E : mE) (D : va_G) (mc ms : Nat) (r : Option Value) (Mf : mM) (p : Program) (l : Launch) (e : Env) (R : Room) (s : State) (m : MethodId) (args : Array Value) (below : List Frame) (meth : Method) (c : Code) (Z : State → Prop) : Prop :=
  ∀ (H : Heap) (locs : List Loc) (k n : Nat) (ls : Array Slot) (pc : Nat) (st : List Value) (i : Instr), mHold E D s Mf H → (∀ q ∈ locs, E.2 ≤ q.base) → k ≤ mc → n ≤ ms → mretI me.2.2.2 r i st → decode me.2.1 pc = .ok (i, 1) → W p l e R s m args below meth c H locs k n Z (F0 m pc ls st)
def Ev (me : mMe) (E : mE) (d mc ms : Nat) (r : Option Value) (Mf : mM) (pc : Nat) (loc : mL) (stk : List Value) (M : mM) (k n : Nat) : Prop :=
  ∀ (D : va_G) (p : Program) (l : Launch) (e : Env) (R : Room) (s : State) (m : MethodId) (args : Array Value) (below : List Frame) (meth : Method) (c : Code) (Z : State → Prop),
    mCtx me D d mc ms p R s m args meth c → mRet me E D mc ms r Mf p l e R s m args below meth c Z →
    ∀ (H : Heap) (locs : List Loc) (ls : Array Slot), mHold E D s M H → (∀ q ∈ locs, E.2 ≤ q.base) → k ≤ mc → n ≤ ms → lv_has ls me.2.2.1 (mloc E 0 loc) → W p l e R s m args below meth c H locs k n Z (F0 m pc ls (stk.map (mtr E)))
def mQc (E : mE) (D : va_G) (r : Option Value) (Mf : mM) : Array Value → State → Outcome → State → Prop := fun _ _ o t => o = .returned (r.map (mtr E)) ∧ mHold E D t Mf t.heap
def mPc (E : mE) (D : va_G) (vs : List Value) (M : mM) : Array Value → State → Prop := va_Pc (vs.map (mtr E)) (fun U => mHold E D U M U.heap ∧ mK D U)
def EvC (me : mMe) (E : mE) (d mc ms : Nat) (vs : List Value) (M : mM) (r : Option Value) (Mf : mM) : Prop :=
  ∀ (D : va_G) (l : Launch), Met l me.1 (mws me) (mrm d mc ms) (mPc E D vs M) (mQc E D r Mf) mc ms (fun q => E.2 ≤ q)
theorem EvC.of {me : mMe} {E : mE} {d mc ms : Nat} {vs : List Value} {M Mf : mM} {r : Option Value} (loc : mL) (hy : plainName me.1.cls = true) (hent : mloc E 0 loc = lv_args 0 (vs.map (mtr E))) (hsz : (lg_sl (vs.map (mtr E))).length ≤ me.2.2.1)
    (h : Ev me E d mc ms r Mf 0 loc [] M 0 0) : EvC me E d mc ms vs M r Mf := by
  intro D l
  refine Met.ofW (cc := me.2.1) (maxL := me.2.2.1) (ret := me.2.2.2) hy rfl ?_
  intro p e s m args below meth c s₁ B hml hv
  obtain ⟨rfl, hH, hK⟩ := hv
  have hts := atoms_spec (ws := mws me) B.pre
  have hl := lv_entry (vs.map (mtr E)) (n := me.2.2.1) hsz
  rw [lg_entry_eq]
  generalize (lg_sl (vs.map (mtr E)) ++ List.replicate (me.2.2.1 - (lg_sl (vs.map (mtr E))).length) Slot.unset).toArray = ls at hl ⊢
  have hr := B.returns
  have hlocks := B.notSynchronized
  refine h D p l e _ s m _ below meth c _ ⟨B.exec, B.bytes, hml, findClass_of_methodNamed B.named, fun w hw => hts w (List.mem_cons_of_mem _ hw), hK, (name_of_methodNamed B.named B.method).1, Nat.le_refl d, Nat.le_refl _, Nat.le_refl mc, Nat.le_refl ms⟩ ?_ s.heap [] ls hH (fun _ h => by cases h) (Nat.zero_le _) (Nat.zero_le _) (by rw [hent]; exact hl)
  intro H locs k n ls pc st i hH' hL hk hn hret hd
  refine W.widen hk hn ?_
  cases r with
  | none =>
    obtain ⟨rfl, rfl, hr2⟩ := hret
    exact W.vret B.exec B.bytes (hr.trans hr2) (fun t ht hW => ⟨rfl, by rw [ht]; exact hH'.moved hW.alike⟩) hL hd
  | some v =>
    cases v with
    | int v =>
      obtain ⟨rfl, rfl, ty, hr2, hn⟩ := hret
      exact W.zret B.exec B.bytes (hr.trans hr2) hn (fun t ht hW => ⟨rfl, by rw [ht]; exact hH'.moved hW.alike⟩) hL hd
    | long v =>
      obtain ⟨rfl, rfl, hr2⟩ := hret
      exact W.lret B.exec B.bytes (hr.trans hr2) (fun t ht hW => ⟨rfl, by rw [ht]; exact hH'.moved hW.alike⟩) hL hd
    | float _ => exact absurd hret (fun h => h)
    | double _ => exact absurd hret (fun h => h)
    | null => exact absurd hret (fun h => h)
    | ref _ => exact absurd hret (fun h => h)
    | retAddr _ => exact absurd hret (fun h => h)
end
section
/-! ===== rules of the small machine: one an instruction ===== -/
section MJ
variable {me : mMe} {E : mE} {d mc ms : Nat} {r : Option Value} {Mf : mM} {pc : Nat} {loc : mL} {stk : List Value} {M : mM} {k n : Nat}
theorem Ev_iconst {i : Int} {v : Int32} (hv : Int32.ofInt i = v) (hd : decode me.2.1 pc = .ok (.iconst i, 1)) (h : Ev me E d mc ms r Mf (pc + 1) loc (.int v :: stk) M k n) : Ev me E d mc ms r Mf pc loc (stk) M k n := by
  intro D p l e R s m args below meth c Z C Rt H locs ls hH hL hk hn hl
  exact lv_iconst C.1 C.2.1 hd hv (h D p l e R s m args below meth c Z C Rt H locs ls hH hL hk hn hl)
theorem Ev_bipush {i : Int} {v : Int32} (hv : (Int8.ofInt i).toInt32 = v) (hd : decode me.2.1 pc = .ok (.bipush i, 2)) (h : Ev me E d mc ms r Mf (pc + 2) loc (.int v :: stk) M k n) : Ev me E d mc ms r Mf pc loc (stk) M k n := by
  intro D p l e R s m args below meth c Z C Rt H locs ls hH hL hk hn hl
  exact lv_bipush C.1 C.2.1 hd hv (h D p l e R s m args below meth c Z C Rt H locs ls hH hL hk hn hl)
theorem Ev_sipush {i : Int} {v : Int32} (hv : (Int16.ofInt i).toInt32 = v) (hd : decode me.2.1 pc = .ok (.sipush i, 3)) (h : Ev me E d mc ms r Mf (pc + 3) loc (.int v :: stk) M k n) : Ev me E d mc ms r Mf pc loc (stk) M k n := by
  intro D p l e R s m args below meth c Z C Rt H locs ls hH hL hk hn hl
  exact lv_sipush C.1 C.2.1 hd hv (h D p l e R s m args below meth c Z C Rt H locs ls hH hL hk hn hl)
theorem Ev_lconst {i : Fin 2} {v : Int64} (hv : Int64.ofNat (i : Nat) = v) (hd : decode me.2.1 pc = .ok (.lconst i, 1)) (h : Ev me E d mc ms r Mf (pc + 1) loc (.long v :: stk) M k n) : Ev me E d mc ms r Mf pc loc (stk) M k n := by
  intro D p l e R s m args below meth c Z C Rt H locs ls hH hL hk hn hl
  exact lv_lconst C.1 C.2.1 hd hv (h D p l e R s m args below meth c Z C Rt H locs ls hH hL hk hn hl)
theorem Ev_iload_n {i : Fin 4} {x : Int32} (hi : loc[(i : Nat)]? = some (some (.int x))) (hd : decode me.2.1 pc = .ok (.iload_n i, 1)) (h : Ev me E d mc ms r Mf (pc + 1) loc (.int x :: stk) M k n) : Ev me E d mc ms r Mf pc loc (stk) M k n := by
  intro D p l e R s m args below meth c Z C Rt H locs ls hH hL hk hn hl
  exact lv_iload_n C.1 C.2.1 hd rfl (mloc_at hl hi) (h D p l e R s m args below meth c Z C Rt H locs ls hH hL hk hn hl)
theorem Ev_iload {i : Nat} {x : Int32} (hi : loc[i]? = some (some (.int x))) (hd : decode me.2.1 pc = .ok (.iload i, 2)) (h : Ev me E d mc ms r Mf (pc + 2) loc (.int x :: stk) M k n) : Ev me E d mc ms r Mf pc loc (stk) M k n := by
  intro D p l e R s m args below meth c Z C Rt H locs ls hH hL hk hn hl
  exact lv_iload C.1 C.2.1 hd (mloc_at hl hi) (h D p l e R s m args below meth c Z C Rt H locs ls hH hL hk hn hl)
theorem Ev_lload_n {i : Fin 4} {x : Int64} (hi : loc[(i : Nat)]? = some (some (.long x))) (hd : decode me.2.1 pc = .ok (.lload_n i, 1)) (h : Ev me E d mc ms r Mf (pc + 1) loc (.long x :: stk) M k n) : Ev me E d mc ms r Mf pc loc (stk) M k n := by
  intro D p l e R s m args below meth c Z C Rt H locs ls hH hL hk hn hl
  exact lv_lload_n C.1 C.2.1 hd rfl (mloc_at hl hi) (h D p l e R s m args below meth c Z C Rt H locs ls hH hL hk hn hl)
theorem Ev_lload {i : Nat} {x : Int64} (hi : loc[i]? = some (some (.long x))) (hd : decode me.2.1 pc = .ok (.lload i, 2)) (h : Ev me E d mc ms r Mf (pc + 2) loc (.long x :: stk) M k n) : Ev me E d mc ms r Mf pc loc (stk) M k n := by
  intro D p l e R s m args below meth c Z C Rt H locs ls hH hL hk hn hl
  exact lv_lload C.1 C.2.1 hd (mloc_at hl hi) (h D p l e R s m args below meth c Z C Rt H locs ls hH hL hk hn hl)
theorem Ev_aload_n {i : Fin 4} {x : Nat} (hi : loc[(i : Nat)]? = some (some (.ref x))) (hd : decode me.2.1 pc = .ok (.aload_n i, 1)) (h : Ev me E d mc ms r Mf (pc + 1) loc (.ref x :: stk) M k n) : Ev me E d mc ms r Mf pc loc (stk) M k n := by
  intro D p l e R s m args below meth c Z C Rt H locs ls hH hL hk hn hl
  exact lv_aload_n C.1 C.2.1 hd rfl (mloc_at hl hi) (h D p l e R s m args below meth c Z C Rt H locs ls hH hL hk hn hl)
theorem Ev_aload {i : Nat} {x : Nat} (hi : loc[i]? = some (some (.ref x))) (hd : decode me.2.1 pc = .ok (.aload i, 2)) (h : Ev me E d mc ms r Mf (pc + 2) loc (.ref x :: stk) M k n) : Ev me E d mc ms r Mf pc loc (stk) M k n := by
  intro D p l e R s m args below meth c Z C Rt H locs ls hH hL hk hn hl
  exact lv_aload C.1 C.2.1 hd (mloc_at hl hi) (h D p l e R s m args below meth c Z C Rt H locs ls hH hL hk hn hl)
theorem Ev_istore_n {i : Fin 4} {x : Int32} {loc2 : mL} (hi : (i : Nat) < me.2.2.1) (hok : mok1 loc i = true) (hl2 : loc.set ((i : Nat)) (some (.int x)) = loc2) (hd : decode me.2.1 pc = .ok (.istore_n i, 1)) (h : Ev me E d mc ms r Mf (pc + 1) loc2 stk M k n) : Ev me E d mc ms r Mf pc loc (.int x :: stk) M k n := by
  intro D p l e R s m args below meth c Z C Rt H locs ls hH hL hk hn hl
  subst hl2
  exact lv_istore_n C.1 C.2.1 hd rfl hl hi rfl (fun ls' hl' => h D p l e R s m args below meth c Z C Rt H locs ls' hH hL hk hn (hl'.mono (mloc_set1 hok)))
theorem Ev_istore {i : Nat} {x : Int32} {loc2 : mL} (hi : i < me.2.2.1) (hok : mok1 loc i = true) (hl2 : loc.set (i) (some (.int x)) = loc2) (hd : decode me.2.1 pc = .ok (.istore i, 2)) (h : Ev me E d mc ms r Mf (pc + 2) loc2 stk M k n) : Ev me E d mc ms r Mf pc loc (.int x :: stk) M k n := by
  intro D p l e R s m args below meth c Z C Rt H locs ls hH hL hk hn hl
  subst hl2
  exact lv_istore C.1 C.2.1 hd hl hi rfl (fun ls' hl' => h D p l e R s m args below meth c Z C Rt H locs ls' hH hL hk hn (hl'.mono (mloc_set1 hok)))
theorem Ev_lstore_n {i : Fin 4} {x : Int64} {loc2 : mL} (hi : (i : Nat) + 1 < me.2.2.1) (hok : mok1 loc i = true) (hl2 : (loc.set ((i : Nat)) (some (.long x))).set ((i : Nat) + 1) none = loc2) (hd : decode me.2.1 pc = .ok (.lstore_n i, 1)) (h : Ev me E d mc ms r Mf (pc + 1) loc2 stk M k n) : Ev me E d mc ms r Mf pc loc (.long x :: stk) M k n := by
  intro D p l e R s m args below meth c Z C Rt H locs ls hH hL hk hn hl
  subst hl2
  exact lv_lstore_n C.1 C.2.1 hd rfl hl hi rfl (fun ls' hl' => h D p l e R s m args below meth c Z C Rt H locs ls' hH hL hk hn (hl'.mono (mloc_set2 hok)))
theorem Ev_lstore {i : Nat} {x : Int64} {loc2 : mL} (hi : i + 1 < me.2.2.1) (hok : mok1 loc i = true) (hl2 : (loc.set (i) (some (.long x))).set (i + 1) none = loc2) (hd : decode me.2.1 pc = .ok (.lstore i, 2)) (h : Ev me E d mc ms r Mf (pc + 2) loc2 stk M k n) : Ev me E d mc ms r Mf pc loc (.long x :: stk) M k n := by
  intro D p l e R s m args below meth c Z C Rt H locs ls hH hL hk hn hl
  subst hl2
  exact lv_lstore C.1 C.2.1 hd hl hi rfl (fun ls' hl' => h D p l e R s m args below meth c Z C Rt H locs ls' hH hL hk hn (hl'.mono (mloc_set2 hok)))
theorem Ev_astore_n {i : Fin 4} {x : Nat} {loc2 : mL} (hi : (i : Nat) < me.2.2.1) (hok : mok1 loc i = true) (hl2 : loc.set ((i : Nat)) (some (.ref x)) = loc2) (hd : decode me.2.1 pc = .ok (.astore_n i, 1)) (h : Ev me E d mc ms r Mf (pc + 1) loc2 stk M k n) : Ev me E d mc ms r Mf pc loc (.ref x :: stk) M k n := by
  intro D p l e R s m args below meth c Z C Rt H locs ls hH hL hk hn hl
  subst hl2
  exact lv_astore_n C.1 C.2.1 hd rfl hl hi rfl (fun ls' hl' => h D p l e R s m args below meth c Z C Rt H locs ls' hH hL hk hn (hl'.mono (mloc_set1 hok)))
theorem Ev_astore {i : Nat} {x : Nat} {loc2 : mL} (hi : i < me.2.2.1) (hok : mok1 loc i = true) (hl2 : loc.set (i) (some (.ref x)) = loc2) (hd : decode me.2.1 pc = .ok (.astore i, 2)) (h : Ev me E d mc ms r Mf (pc + 2) loc2 stk M k n) : Ev me E d mc ms r Mf pc loc (.ref x :: stk) M k n := by
  intro D p l e R s m args below meth c Z C Rt H locs ls hH hL hk hn hl
  subst hl2
  exact lv_astore C.1 C.2.1 hd hl hi rfl (fun ls' hl' => h D p l e R s m args below meth c Z C Rt H locs ls' hH hL hk hn (hl'.mono (mloc_set1 hok)))
theorem Ev_drop (i : Nat) {loc2 : mL} (hl2 : loc.set i none = loc2) (h : Ev me E d mc ms r Mf pc loc2 stk M k n) : Ev me E d mc ms r Mf pc loc stk M k n := by
  intro D p l e R s m args below meth c Z C Rt H locs ls hH hL hk hn hl
  subst hl2
  exact h D p l e R s m args below meth c Z C Rt H locs ls hH hL hk hn (hl.mono mloc_drop)
theorem Ev_iinc {i : Nat} {j : Int} {x v : Int32} {loc2 : mL} (hx : loc[i]? = some (some (.int x))) (hv : x + Int32.ofInt j = v) (hi : i < me.2.2.1) (hok : mok1 loc i = true) (hl2 : loc.set i (some (.int v)) = loc2) (hd : decode me.2.1 pc = .ok (.iinc i j, 3)) (h : Ev me E d mc ms r Mf (pc + 3) loc2 stk M k n) : Ev me E d mc ms r Mf pc loc stk M k n := by
  intro D p l e R s m args below meth c Z C Rt H locs ls hH hL hk hn hl
  subst hl2
  obtain ⟨q, hq⟩ := List.getElem?_of_mem (mloc_mem.mpr ⟨i, _, hx, by rw [Nat.zero_add]⟩ : (i, mtr E (.int x)) ∈ mloc E 0 loc)
  exact lv_iinc C.1 C.2.1 hd hl hq hv hi rfl (fun ls' hl' => h D p l e R s m args below meth c Z C Rt H locs ls' hH hL hk hn (hl'.mono (mloc_set1 hok)))
theorem Ev_iadd {x y : Int32} (hd : decode me.2.1 pc = .ok (.iadd, 1)) (h : Ev me E d mc ms r Mf (pc + 1) loc (.int (x + y) :: stk) M k n) : Ev me E d mc ms r Mf pc loc (.int y :: .int x :: stk) M k n := by
  intro D p l e R s m args below meth c Z C Rt H locs ls hH hL hk hn hl
  exact lv_iadd C.1 C.2.1 hd (h D p l e R s m args below meth c Z C Rt H locs ls hH hL hk hn hl)
theorem Ev_isub {x y : Int32} (hd : decode me.2.1 pc = .ok (.isub, 1)) (h : Ev me E d mc ms r Mf (pc + 1) loc (.int (x - y) :: stk) M k n) : Ev me E d mc ms r Mf pc loc (.int y :: .int x :: stk) M k n := by
  intro D p l e R s m args below meth c Z C Rt H locs ls hH hL hk hn hl
  exact lv_isub C.1 C.2.1 hd (h D p l e R s m args below meth c Z C Rt H locs ls hH hL hk hn hl)
theorem Ev_imul {x y : Int32} (hd : decode me.2.1 pc = .ok (.imul, 1)) (h : Ev me E d mc ms r Mf (pc + 1) loc (.int (x * y) :: stk) M k n) : Ev me E d mc ms r Mf pc loc (.int y :: .int x :: stk) M k n := by
  intro D p l e R s m args below meth c Z C Rt H locs ls hH hL hk hn hl
  exact lv_imul C.1 C.2.1 hd (h D p l e R s m args below meth c Z C Rt H locs ls hH hL hk hn hl)
theorem Ev_iand {x y : Int32} (hd : decode me.2.1 pc = .ok (.iand, 1)) (h : Ev me E d mc ms r Mf (pc + 1) loc (.int (x &&& y) :: stk) M k n) : Ev me E d mc ms r Mf pc loc (.int y :: .int x :: stk) M k n := by
  intro D p l e R s m args below meth c Z C Rt H locs ls hH hL hk hn hl
  exact lv_iand C.1 C.2.1 hd (h D p l e R s m args below meth c Z C Rt H locs ls hH hL hk hn hl)
theorem Ev_ior {x y : Int32} (hd : decode me.2.1 pc = .ok (.ior, 1)) (h : Ev me E d mc ms r Mf (pc + 1) loc (.int (x ||| y) :: stk) M k n) : Ev me E d mc ms r Mf pc loc (.int y :: .int x :: stk) M k n := by
  intro D p l e R s m args below meth c Z C Rt H locs ls hH hL hk hn hl
  exact lv_ior C.1 C.2.1 hd (h D p l e R s m args below meth c Z C Rt H locs ls hH hL hk hn hl)
theorem Ev_ixor {x y : Int32} (hd : decode me.2.1 pc = .ok (.ixor, 1)) (h : Ev me E d mc ms r Mf (pc + 1) loc (.int (x ^^^ y) :: stk) M k n) : Ev me E d mc ms r Mf pc loc (.int y :: .int x :: stk) M k n := by
  intro D p l e R s m args below meth c Z C Rt H locs ls hH hL hk hn hl
  exact lv_ixor C.1 C.2.1 hd (h D p l e R s m args below meth c Z C Rt H locs ls hH hL hk hn hl)
theorem Ev_ishl {x y : Int32} (hd : decode me.2.1 pc = .ok (.ishl, 1)) (h : Ev me E d mc ms r Mf (pc + 1) loc (.int (x <<< (y &&& 31)) :: stk) M k n) : Ev me E d mc ms r Mf pc loc (.int y :: .int x :: stk) M k n := by
  intro D p l e R s m args below meth c Z C Rt H locs ls hH hL hk hn hl
  exact lv_ishl C.1 C.2.1 hd (h D p l e R s m args below meth c Z C Rt H locs ls hH hL hk hn hl)
theorem Ev_ishr {x y : Int32} (hd : decode me.2.1 pc = .ok (.ishr, 1)) (h : Ev me E d mc ms r Mf (pc + 1) loc (.int (x >>> (y &&& 31)) :: stk) M k n) : Ev me E d mc ms r Mf pc loc (.int y :: .int x :: stk) M k n := by
  intro D p l e R s m args below meth c Z C Rt H locs ls hH hL hk hn hl
  exact lv_ishr C.1 C.2.1 hd (h D p l e R s m args below meth c Z C Rt H locs ls hH hL hk hn hl)
theorem Ev_ineg {x : Int32} (hd : decode me.2.1 pc = .ok (.ineg, 1)) (h : Ev me E d mc ms r Mf (pc + 1) loc (.int (-x) :: stk) M k n) : Ev me E d mc ms r Mf pc loc (.int x :: stk) M k n := by
  intro D p l e R s m args below meth c Z C Rt H locs ls hH hL hk hn hl
  exact lv_ineg C.1 C.2.1 hd (h D p l e R s m args below meth c Z C Rt H locs ls hH hL hk hn hl)
theorem Ev_idiv {x y : Int32} (hne : ¬ y = 0) (hd : decode me.2.1 pc = .ok (.idiv, 1)) (h : Ev me E d mc ms r Mf (pc + 1) loc (.int (x / y) :: stk) M k n) : Ev me E d mc ms r Mf pc loc (.int y :: .int x :: stk) M k n := by
  intro D p l e R s m args below meth c Z C Rt H locs ls hH hL hk hn hl
  exact lv_idiv C.1 C.2.1 hd hne (h D p l e R s m args below meth c Z C Rt H locs ls hH hL hk hn hl)
theorem Ev_irem {x y : Int32} (hne : ¬ y = 0) (hd : decode me.2.1 pc = .ok (.irem, 1)) (h : Ev me E d mc ms r Mf (pc + 1) loc (.int (x - x / y * y) :: stk) M k n) : Ev me E d mc ms r Mf pc loc (.int y :: .int x :: stk) M k n := by
  intro D p l e R s m args below meth c Z C Rt H locs ls hH hL hk hn hl
  exact lv_irem C.1 C.2.1 hd hne (h D p l e R s m args below meth c Z C Rt H locs ls hH hL hk hn hl)
theorem Ev_ladd {x y : Int64} (hd : decode me.2.1 pc = .ok (.ladd, 1)) (h : Ev me E d mc ms r Mf (pc + 1) loc (.long (x + y) :: stk) M k n) : Ev me E d mc ms r Mf pc loc (.long y :: .long x :: stk) M k n := by
  intro D p l e R s m args below meth c Z C Rt H locs ls hH hL hk hn hl
  exact lv_ladd C.1 C.2.1 hd (h D p l e R s m args below meth c Z C Rt H locs ls hH hL hk hn hl)
theorem Ev_lsub {x y : Int64} (hd : decode me.2.1 pc = .ok (.lsub, 1)) (h : Ev me E d mc ms r Mf (pc + 1) loc (.long (x - y) :: stk) M k n) : Ev me E d mc ms r Mf pc loc (.long y :: .long x :: stk) M k n := by
  intro D p l e R s m args below meth c Z C Rt H locs ls hH hL hk hn hl
  exact lv_lsub C.1 C.2.1 hd (h D p l e R s m args below meth c Z C Rt H locs ls hH hL hk hn hl)
theorem Ev_lmul {x y : Int64} (hd : decode me.2.1 pc = .ok (.lmul, 1)) (h : Ev me E d mc ms r Mf (pc + 1) loc (.long (x * y) :: stk) M k n) : Ev me E d mc ms r Mf pc loc (.long y :: .long x :: stk) M k n := by
  intro D p l e R s m args below meth c Z C Rt H locs ls hH hL hk hn hl
  exact lv_lmul C.1 C.2.1 hd (h D p l e R s m args below meth c Z C Rt H locs ls hH hL hk hn hl)
theorem Ev_land {x y : Int64} (hd : decode me.2.1 pc = .ok (.land, 1)) (h : Ev me E d mc ms r Mf (pc + 1) loc (.long (x &&& y) :: stk) M k n) : Ev me E d mc ms r Mf pc loc (.long y :: .long x :: stk) M k n := by
  intro D p l e R s m args below meth c Z C Rt H locs ls hH hL hk hn hl
  exact lv_land C.1 C.2.1 hd (h D p l e R s m args below meth c Z C Rt H locs ls hH hL hk hn hl)
theorem Ev_lor {x y : Int64} (hd : decode me.2.1 pc = .ok (.lor, 1)) (h : Ev me E d mc ms r Mf (pc + 1) loc (.long (x ||| y) :: stk) M k n) : Ev me E d mc ms r Mf pc loc (.long y :: .long x :: stk) M k n := by
  intro D p l e R s m args below meth c Z C Rt H locs ls hH hL hk hn hl
  exact lv_lor C.1 C.2.1 hd (h D p l e R s m args below meth c Z C Rt H locs ls hH hL hk hn hl)
theorem Ev_ldiv {x y : Int64} (hne : ¬ y = 0) (hd : decode me.2.1 pc = .ok (.ldiv, 1)) (h : Ev me E d mc ms r Mf (pc + 1) loc (.long (x / y) :: stk) M k n) : Ev me E d mc ms r Mf pc loc (.long y :: .long x :: stk) M k n := by
  intro D p l e R s m args below meth c Z C Rt H locs ls hH hL hk hn hl
  exact lv_ldiv C.1 C.2.1 hd hne (h D p l e R s m args below meth c Z C Rt H locs ls hH hL hk hn hl)
theorem Ev_lrem {x y : Int64} (hne : ¬ y = 0) (hd : decode me.2.1 pc = .ok (.lrem, 1)) (h : Ev me E d mc ms r Mf (pc + 1) loc (.long (x - x / y * y) :: stk) M k n) : Ev me E d mc ms r Mf pc loc (.long y :: .long x :: stk) M k n := by
  intro D p l e R s m args below meth c Z C Rt H locs ls hH hL hk hn hl
  exact lv_lrem C.1 C.2.1 hd hne (h D p l e R s m args below meth c Z C Rt H locs ls hH hL hk hn hl)
theorem Ev_iushr {x y : Int32} (hd : decode me.2.1 pc = .ok (.iushr, 1)) (h : Ev me E d mc ms r Mf (pc + 1) loc (.int ((x.toUInt32 >>> (y.toUInt32 &&& Int32.toUInt32 31)).toInt32) :: stk) M k n) : Ev me E d mc ms r Mf pc loc (.int y :: .int x :: stk) M k n := by
  intro D p l e R s m args below meth c Z C Rt H locs ls hH hL hk hn hl
  exact lv_iushr C.1 C.2.1 hd rfl (h D p l e R s m args below meth c Z C Rt H locs ls hH hL hk hn hl)
theorem Ev_lushr {x : Int64} {y : Int32} (hd : decode me.2.1 pc = .ok (.lushr, 1)) (h : Ev me E d mc ms r Mf (pc + 1) loc (.long ((x.toUInt64 >>> (y.toInt64.toUInt64 &&& Int64.toUInt64 63)).toInt64) :: stk) M k n) : Ev me E d mc ms r Mf pc loc (.int y :: .long x :: stk) M k n := by
  intro D p l e R s m args below meth c Z C Rt H locs ls hH hL hk hn hl
  exact lv_lushr C.1 C.2.1 hd rfl (h D p l e R s m args below meth c Z C Rt H locs ls hH hL hk hn hl)
theorem Ev_lshl {x : Int64} {y : Int32} (hd : decode me.2.1 pc = .ok (.lshl, 1)) (h : Ev me E d mc ms r Mf (pc + 1) loc (.long (x <<< (y.toInt64 &&& 63)) :: stk) M k n) : Ev me E d mc ms r Mf pc loc (.int y :: .long x :: stk) M k n := by
  intro D p l e R s m args below meth c Z C Rt H locs ls hH hL hk hn hl
  exact lv_lshl C.1 C.2.1 hd rfl (h D p l e R s m args below meth c Z C Rt H locs ls hH hL hk hn hl)
theorem Ev_i2l {x : Int32} (hd : decode me.2.1 pc = .ok (.i2l, 1)) (h : Ev me E d mc ms r Mf (pc + 1) loc (.long x.toInt64 :: stk) M k n) : Ev me E d mc ms r Mf pc loc (.int x :: stk) M k n := by
  intro D p l e R s m args below meth c Z C Rt H locs ls hH hL hk hn hl
  exact lv_i2l C.1 C.2.1 hd rfl (h D p l e R s m args below meth c Z C Rt H locs ls hH hL hk hn hl)
theorem Ev_l2i {x : Int64} (hd : decode me.2.1 pc = .ok (.l2i, 1)) (h : Ev me E d mc ms r Mf (pc + 1) loc (.int x.toInt32 :: stk) M k n) : Ev me E d mc ms r Mf pc loc (.long x :: stk) M k n := by
  intro D p l e R s m args below meth c Z C Rt H locs ls hH hL hk hn hl
  exact lv_l2i C.1 C.2.1 hd rfl (h D p l e R s m args below meth c Z C Rt H locs ls hH hL hk hn hl)
theorem Ev_lcmp {x y : Int64} (hd : decode me.2.1 pc = .ok (.lcmp, 1)) (h : Ev me E d mc ms r Mf (pc + 1) loc (.int (lg_cmp x y) :: stk) M k n) : Ev me E d mc ms r Mf pc loc (.long y :: .long x :: stk) M k n := by
  intro D p l e R s m args below meth c Z C Rt H locs ls hH hL hk hn hl
  exact W.lcmp C.1 C.2.1 hd (h D p l e R s m args below meth c Z C Rt H locs ls hH hL hk hn hl)
theorem Ev_dup {v : Value} (hv : v.category = 1) (hd : decode me.2.1 pc = .ok (.dup, 1)) (h : Ev me E d mc ms r Mf (pc + 1) loc (v :: v :: stk) M k n) : Ev me E d mc ms r Mf pc loc (v :: stk) M k n := by
  intro D p l e R s m args below meth c Z C Rt H locs ls hH hL hk hn hl
  exact lv_dup C.1 C.2.1 hd (by rw [mtr_cat]; exact hv) (h D p l e R s m args below meth c Z C Rt H locs ls hH hL hk hn hl)
theorem Ev_pop {v : Value} (hv : v.category = 1) (hd : decode me.2.1 pc = .ok (.pop, 1)) (h : Ev me E d mc ms r Mf (pc + 1) loc (stk) M k n) : Ev me E d mc ms r Mf pc loc (v :: stk) M k n := by
  intro D p l e R s m args below meth c Z C Rt H locs ls hH hL hk hn hl
  exact lv_pop C.1 C.2.1 hd (by rw [mtr_cat]; exact hv) (h D p l e R s m args below meth c Z C Rt H locs ls hH hL hk hn hl)
theorem Ev_dup2 {v w : Value} (hv : v.category = 1) (hw : w.category = 1) (hd : decode me.2.1 pc = .ok (.dup2, 1)) (h : Ev me E d mc ms r Mf (pc + 1) loc (v :: w :: v :: w :: stk) M k n) : Ev me E d mc ms r Mf pc loc (v :: w :: stk) M k n := by
  intro D p l e R s m args below meth c Z C Rt H locs ls hH hL hk hn hl
  exact lv_dup2_11 C.1 C.2.1 hd (by rw [mtr_cat]; exact hv) (by rw [mtr_cat]; exact hw) (h D p l e R s m args below meth c Z C Rt H locs ls hH hL hk hn hl)
theorem Ev_if_eq {x : Int32} {off : Int} {tgt : Nat} (hd : decode me.2.1 pc = .ok (.ifCond .eq off, 3)) (ht : (pc : Int) + off = (tgt : Int)) (h1 : x = 0 → Ev me E d mc ms r Mf tgt loc stk M k n) (h2 : ¬ x = 0 → Ev me E d mc ms r Mf (pc + 3) loc stk M k n) : Ev me E d mc ms r Mf pc loc (.int x :: stk) M k n := by
  intro D p l e R s m args below meth c Z C Rt H locs ls hH hL hk hn hl
  exact lv_if_eq C.1 C.2.1 hd ht (fun q => h1 q D p l e R s m args below meth c Z C Rt H locs ls hH hL hk hn hl) (fun q => h2 q D p l e R s m args below meth c Z C Rt H locs ls hH hL hk hn hl)
theorem Ev_icmp_eq {x y : Int32} {off : Int} {tgt : Nat} (hd : decode me.2.1 pc = .ok (.if_icmp .eq off, 3)) (ht : (pc : Int) + off = (tgt : Int)) (h1 : x = y → Ev me E d mc ms r Mf tgt loc stk M k n) (h2 : ¬ x = y → Ev me E d mc ms r Mf (pc + 3) loc stk M k n) : Ev me E d mc ms r Mf pc loc (.int y :: .int x :: stk) M k n := by
  intro D p l e R s m args below meth c Z C Rt H locs ls hH hL hk hn hl
  exact lv_icmp_eq C.1 C.2.1 hd ht (fun q => h1 q D p l e R s m args below meth c Z C Rt H locs ls hH hL hk hn hl) (fun q => h2 q D p l e R s m args below meth c Z C Rt H locs ls hH hL hk hn hl)
theorem Ev_if_ne {x : Int32} {off : Int} {tgt : Nat} (hd : decode me.2.1 pc = .ok (.ifCond .ne off, 3)) (ht : (pc : Int) + off = (tgt : Int)) (h1 : ¬ x = 0 → Ev me E d mc ms r Mf tgt loc stk M k n) (h2 : x = 0 → Ev me E d mc ms r Mf (pc + 3) loc stk M k n) : Ev me E d mc ms r Mf pc loc (.int x :: stk) M k n := by
  intro D p l e R s m args below meth c Z C Rt H locs ls hH hL hk hn hl
  exact lv_if_ne C.1 C.2.1 hd ht (fun q => h1 q D p l e R s m args below meth c Z C Rt H locs ls hH hL hk hn hl) (fun q => h2 q D p l e R s m args below meth c Z C Rt H locs ls hH hL hk hn hl)
theorem Ev_icmp_ne {x y : Int32} {off : Int} {tgt : Nat} (hd : decode me.2.1 pc = .ok (.if_icmp .ne off, 3)) (ht : (pc : Int) + off = (tgt : Int)) (h1 : ¬ x = y → Ev me E d mc ms r Mf tgt loc stk M k n) (h2 : x = y → Ev me E d mc ms r Mf (pc + 3) loc stk M k n) : Ev me E d mc ms r Mf pc loc (.int y :: .int x :: stk) M k n := by
  intro D p l e R s m args below meth c Z C Rt H locs ls hH hL hk hn hl
  exact lv_icmp_ne C.1 C.2.1 hd ht (fun q => h1 q D p l e R s m args below meth c Z C Rt H locs ls hH hL hk hn hl) (fun q => h2 q D p l e R s m args below meth c Z C Rt H locs ls hH hL hk hn hl)
theorem Ev_if_lt {x : Int32} {off : Int} {tgt : Nat} (hd : decode me.2.1 pc = .ok (.ifCond .lt off, 3)) (ht : (pc : Int) + off = (tgt : Int)) (h1 : x < 0 → Ev me E d mc ms r Mf tgt loc stk M k n) (h2 : ¬ x < 0 → Ev me E d mc ms r Mf (pc + 3) loc stk M k n) : Ev me E d mc ms r Mf pc loc (.int x :: stk) M k n := by
  intro D p l e R s m args below meth c Z C Rt H locs ls hH hL hk hn hl
  exact lv_if_lt C.1 C.2.1 hd ht (fun q => h1 q D p l e R s m args below meth c Z C Rt H locs ls hH hL hk hn hl) (fun q => h2 q D p l e R s m args below meth c Z C Rt H locs ls hH hL hk hn hl)
theorem Ev_icmp_lt {x y : Int32} {off : Int} {tgt : Nat} (hd : decode me.2.1 pc = .ok (.if_icmp .lt off, 3)) (ht : (pc : Int) + off = (tgt : Int)) (h1 : x < y → Ev me E d mc ms r Mf tgt loc stk M k n) (h2 : ¬ x < y → Ev me E d mc ms r Mf (pc + 3) loc stk M k n) : Ev me E d mc ms r Mf pc loc (.int y :: .int x :: stk) M k n := by
  intro D p l e R s m args below meth c Z C Rt H locs ls hH hL hk hn hl
  exact lv_icmp_lt C.1 C.2.1 hd ht (fun q => h1 q D p l e R s m args below meth c Z C Rt H locs ls hH hL hk hn hl) (fun q => h2 q D p l e R s m args below meth c Z C Rt H locs ls hH hL hk hn hl)
theorem Ev_if_ge {x : Int32} {off : Int} {tgt : Nat} (hd : decode me.2.1 pc = .ok (.ifCond .ge off, 3)) (ht : (pc : Int) + off = (tgt : Int)) (h1 : 0 ≤ x → Ev me E d mc ms r Mf tgt loc stk M k n) (h2 : ¬ 0 ≤ x → Ev me E d mc ms r Mf (pc + 3) loc stk M k n) : Ev me E d mc ms r Mf pc loc (.int x :: stk) M k n := by
  intro D p l e R s m args below meth c Z C Rt H locs ls hH hL hk hn hl
  exact lv_if_ge C.1 C.2.1 hd ht (fun q => h1 q D p l e R s m args below meth c Z C Rt H locs ls hH hL hk hn hl) (fun q => h2 q D p l e R s m args below meth c Z C Rt H locs ls hH hL hk hn hl)
theorem Ev_icmp_ge {x y : Int32} {off : Int} {tgt : Nat} (hd : decode me.2.1 pc = .ok (.if_icmp .ge off, 3)) (ht : (pc : Int) + off = (tgt : Int)) (h1 : y ≤ x → Ev me E d mc ms r Mf tgt loc stk M k n) (h2 : ¬ y ≤ x → Ev me E d mc ms r Mf (pc + 3) loc stk M k n) : Ev me E d mc ms r Mf pc loc (.int y :: .int x :: stk) M k n := by
  intro D p l e R s m args below meth c Z C Rt H locs ls hH hL hk hn hl
  exact lv_icmp_ge C.1 C.2.1 hd ht (fun q => h1 q D p l e R s m args below meth c Z C Rt H locs ls hH hL hk hn hl) (fun q => h2 q D p l e R s m args below meth c Z C Rt H locs ls hH hL hk hn hl)
theorem Ev_if_gt {x : Int32} {off : Int} {tgt : Nat} (hd : decode me.2.1 pc = .ok (.ifCond .gt off, 3)) (ht : (pc : Int) + off = (tgt : Int)) (h1 : 0 < x → Ev me E d mc ms r Mf tgt loc stk M k n) (h2 : ¬ 0 < x → Ev me E d mc ms r Mf (pc + 3) loc stk M k n) : Ev me E d mc ms r Mf pc loc (.int x :: stk) M k n := by
  intro D p l e R s m args below meth c Z C Rt H locs ls hH hL hk hn hl
  exact lv_if_gt C.1 C.2.1 hd ht (fun q => h1 q D p l e R s m args below meth c Z C Rt H locs ls hH hL hk hn hl) (fun q => h2 q D p l e R s m args below meth c Z C Rt H locs ls hH hL hk hn hl)
theorem Ev_icmp_gt {x y : Int32} {off : Int} {tgt : Nat} (hd : decode me.2.1 pc = .ok (.if_icmp .gt off, 3)) (ht : (pc : Int) + off = (tgt : Int)) (h1 : y < x → Ev me E d mc ms r Mf tgt loc stk M k n) (h2 : ¬ y < x → Ev me E d mc ms r Mf (pc + 3) loc stk M k n) : Ev me E d mc ms r Mf pc loc (.int y :: .int x :: stk) M k n := by
  intro D p l e R s m args below meth c Z C Rt H locs ls hH hL hk hn hl
  exact lv_icmp_gt C.1 C.2.1 hd ht (fun q => h1 q D p l e R s m args below meth c Z C Rt H locs ls hH hL hk hn hl) (fun q => h2 q D p l e R s m args below meth c Z C Rt H locs ls hH hL hk hn hl)
theorem Ev_if_le {x : Int32} {off : Int} {tgt : Nat} (hd : decode me.2.1 pc = .ok (.ifCond .le off, 3)) (ht : (pc : Int) + off = (tgt : Int)) (h1 : x ≤ 0 → Ev me E d mc ms r Mf tgt loc stk M k n) (h2 : ¬ x ≤ 0 → Ev me E d mc ms r Mf (pc + 3) loc stk M k n) : Ev me E d mc ms r Mf pc loc (.int x :: stk) M k n := by
  intro D p l e R s m args below meth c Z C Rt H locs ls hH hL hk hn hl
  exact lv_if_le C.1 C.2.1 hd ht (fun q => h1 q D p l e R s m args below meth c Z C Rt H locs ls hH hL hk hn hl) (fun q => h2 q D p l e R s m args below meth c Z C Rt H locs ls hH hL hk hn hl)
theorem Ev_icmp_le {x y : Int32} {off : Int} {tgt : Nat} (hd : decode me.2.1 pc = .ok (.if_icmp .le off, 3)) (ht : (pc : Int) + off = (tgt : Int)) (h1 : x ≤ y → Ev me E d mc ms r Mf tgt loc stk M k n) (h2 : ¬ x ≤ y → Ev me E d mc ms r Mf (pc + 3) loc stk M k n) : Ev me E d mc ms r Mf pc loc (.int y :: .int x :: stk) M k n := by
  intro D p l e R s m args below meth c Z C Rt H locs ls hH hL hk hn hl
  exact lv_icmp_le C.1 C.2.1 hd ht (fun q => h1 q D p l e R s m args below meth c Z C Rt H locs ls hH hL hk hn hl) (fun q => h2 q D p l e R s m args below meth c Z C Rt H locs ls hH hL hk hn hl)
theorem Ev_goto {off : Int} {tgt : Nat} (hd : decode me.2.1 pc = .ok (.goto off, 3)) (ht : (pc : Int) + off = (tgt : Int)) (h : Ev me E d mc ms r Mf tgt loc stk M k n) : Ev me E d mc ms r Mf pc loc stk M k n := by
  intro D p l e R s m args below meth c Z C Rt H locs ls hH hL hk hn hl
  exact lv_goto C.1 C.2.1 hd ht (h D p l e R s m args below meth c Z C Rt H locs ls hH hL hk hn hl)
theorem Ev_tswIn {x : Int32} {dflt lo hi : Int} {offs : Array Int} {len : Nat} {off : Int} {tgt : Nat} (hd : decode me.2.1 pc = .ok (.tableswitch dflt lo hi offs, len)) (h1 : ¬ x.toInt < lo) (h2 : ¬ hi < x.toInt) (ho : offs[(x.toInt - lo).toNat]? = some off) (ht : (pc : Int) + off = (tgt : Int)) (h : Ev me E d mc ms r Mf tgt loc stk M k n) : Ev me E d mc ms r Mf pc loc (.int x :: stk) M k n := by
  intro D p l e R s m args below meth c Z C Rt H locs ls hH hL hk hn hl
  exact lv_tableIn C.1 C.2.1 hd h1 h2 ho ht (h D p l e R s m args below meth c Z C Rt H locs ls hH hL hk hn hl)
theorem Ev_tswOut {x : Int32} {dflt lo hi : Int} {offs : Array Int} {len : Nat} {tgt : Nat} (hd : decode me.2.1 pc = .ok (.tableswitch dflt lo hi offs, len)) (h1 : x.toInt < lo ∨ hi < x.toInt) (ht : (pc : Int) + dflt = (tgt : Int)) (h : Ev me E d mc ms r Mf tgt loc stk M k n) : Ev me E d mc ms r Mf pc loc (.int x :: stk) M k n := by
  intro D p l e R s m args below meth c Z C Rt H locs ls hH hL hk hn hl
  exact lv_tableOut C.1 C.2.1 hd h1 ht (h D p l e R s m args below meth c Z C Rt H locs ls hH hL hk hn hl)
theorem Ev_ldc2 {idx : Nat} {v : Int64} (hw : Cond.constantLong me.1.cls idx v ∈ mT0) (hd : decode me.2.1 pc = .ok (.ldc2_w idx, 3)) (h : Ev me E d mc ms r Mf (pc + 3) loc (.long v :: stk) M k n) : Ev me E d mc ms r Mf pc loc stk M k n := by
  intro D p l e R s m args below meth c Z C Rt H locs ls hH hL hk hn hl
  exact lv_ldc2 C.1 C.2.1 C.2.2.2.1 (C.2.2.2.2.1 _ hw) hd (h D p l e R s m args below meth c Z C Rt H locs ls hH hL hk hn hl)
theorem Ev_ldcw {idx : Nat} {v : Int32} (hw : Cond.constant me.1.cls idx v ∈ mT0) (hd : decode me.2.1 pc = .ok (.ldc_w idx, 3)) (h : Ev me E d mc ms r Mf (pc + 3) loc (.int v :: stk) M k n) : Ev me E d mc ms r Mf pc loc stk M k n := by
  intro D p l e R s m args below meth c Z C Rt H locs ls hH hL hk hn hl
  exact lv_ldcw C.1 C.2.1 C.2.2.2.1 (C.2.2.2.2.1 _ hw) hd (h D p l e R s m args below meth c Z C Rt H locs ls hH hL hk hn hl)
theorem Ev_iret {v : Int32} {ty : FieldType} (hr : me.2.2.2 = some ty) (hnr : narrow ty (.int v) = .int v) (hd : decode me.2.1 pc = .ok (.ireturn, 1)) (he : r = some (.int v) ∧ Mf = M) : Ev me E d mc ms r Mf pc loc [.int v] M k n := by
  obtain ⟨rfl, rfl⟩ := he
  intro D p l e R s m args below meth c Z C Rt H locs ls hH hL hk hn hl
  exact Rt H locs k n ls pc _ .ireturn hH hL hk hn ⟨rfl, rfl, ty, hr, hnr⟩ hd
theorem Ev_lret {v : Int64} (hr : me.2.2.2 = some .long) (hd : decode me.2.1 pc = .ok (.lreturn, 1)) (he : r = some (.long v) ∧ Mf = M) : Ev me E d mc ms r Mf pc loc [.long v] M k n := by
  obtain ⟨rfl, rfl⟩ := he
  intro D p l e R s m args below meth c Z C Rt H locs ls hH hL hk hn hl
  exact Rt H locs k n ls pc _ .lreturn hH hL hk hn ⟨rfl, rfl, hr⟩ hd
theorem Ev_vret (hr : me.2.2.2 = none) (hd : decode me.2.1 pc = .ok (.return_, 1)) (he : r = none ∧ Mf = M) : Ev me E d mc ms r Mf pc loc [] M k n := by
  obtain ⟨rfl, rfl⟩ := he
  intro D p l e R s m args below meth c Z C Rt H locs ls hH hL hk hn hl
  exact Rt H locs k n ls pc _ .return_ hH hL hk hn ⟨rfl, rfl, hr⟩ hd
end MJ
end
section
/-! ===== rules of the small machine: fields, arrays, new cells, calls ===== -/
def gV (M : mM) (a ci k : Nat) : Option Value := match M[a]? with
  | some (.inl o) => if o.1 = ci then o.2[k]? else none
  | _ => none
def gI (M : mM) (a ci k : Nat) : Option Int32 := match gV M a ci k with
  | some (.int x) => some x
  | _ => none
def gL (M : mM) (a ci k : Nat) : Option Int64 := match gV M a ci k with
  | some (.long x) => some x
  | _ => none
def gR (M : mM) (a ci k : Nat) : Option Nat := match gV M a ci k with
  | some (.ref x) => some x
  | _ => none
def sV (M : mM) (a ci k : Nat) (v : Value) : Option mM := match M[a]? with
  | some (.inl o) => if o.1 = ci ∧ k < o.2.length ∧ 0 < a then some (M.set a (.inl (ci, o.2.set k v))) else none
  | _ => none
def aLen (M : mM) (a : Nat) : Option Int32 := match M[a]? with
  | some (.inr (.inl o)) => some (nI o.2.length)
  | _ => none
def aI (M : mM) (z : Bool) (a : Nat) (i : Int32) : Option Int32 := match M[a]? with
  | some (.inr (.inl o)) => if o.1 = z ∧ ¬ i < 0 then o.2[i.toNatClampNeg]? else none
  | _ => none
def aS (M : mM) (z : Bool) (a : Nat) (i : Int32) (x : Int32) : Option mM := match M[a]? with
  | some (.inr (.inl o)) => if o.1 = z ∧ ¬ i < 0 ∧ i.toNatClampNeg < o.2.length ∧ 0 < a then some (M.set a (.inr (.inl (z, o.2.set i.toNatClampNeg x)))) else none
  | _ => none
def qI (M : mM) (z : Bool) (a : Nat) (i : Int32) : Option Nat := match M[a]? with
  | some (.inr (.inr o)) => if o.1 = z ∧ ¬ i < 0 then (match o.2[i.toNatClampNeg]? with
    | some (.ref q) => some q
    | _ => none) else none
  | _ => none
def mcz (z : Bool) : Nat := match z with
  | false => 4
  | true => 6
def isO (M : mM) (a ci : Nat) : Bool := match M[a]? with
  | some (.inl o) => o.1 == ci
  | _ => false
def qS (M : mM) (z : Bool) (a : Nat) (i : Int32) (v : Nat) : Option mM := match M[a]? with
  | some (.inr (.inr o)) => if o.1 = z ∧ ¬ i < 0 ∧ i.toNatClampNeg < o.2.length ∧ 0 < a ∧ isO M v (mcz z) = true then some (M.set a (.inr (.inr (z, o.2.set i.toNatClampNeg (.ref v))))) else none
  | _ => none
theorem gV_spec {M : mM} {a ci k : Nat} {v : Value} (h : gV M a ci k = some v) : ∃ fs, M[a]? = some (.inl (ci, fs)) ∧ fs[k]? = some v := by
  unfold gV at h
  split at h
  · rename_i o ho
    split at h
    · rename_i hc
      obtain ⟨c, fs⟩ := o
      cases hc
      exact ⟨fs, ho, h⟩
    · cases h
  · cases h
theorem gI_spec {M : mM} {a ci k : Nat} {x : Int32} (h : gI M a ci k = some x) : gV M a ci k = some (.int x) := by
  unfold gI at h
  split at h
  · rename_i y hy
    cases h
    exact hy
  · cases h
theorem gL_spec {M : mM} {a ci k : Nat} {x : Int64} (h : gL M a ci k = some x) : gV M a ci k = some (.long x) := by
  unfold gL at h
  split at h
  · rename_i y hy
    cases h
    exact hy
  · cases h
theorem gR_spec {M : mM} {a ci k : Nat} {x : Nat} (h : gR M a ci k = some x) : gV M a ci k = some (.ref x) := by
  unfold gR at h
  split at h
  · rename_i y hy
    cases h
    exact hy
  · cases h
theorem sV_spec {M M1 : mM} {a ci k : Nat} {v : Value} (h : sV M a ci k v = some M1) : ∃ fs, M[a]? = some (.inl (ci, fs)) ∧ k < fs.length ∧ 0 < a ∧ M1 = M.set a (.inl (ci, fs.set k v)) := by
  unfold sV at h
  split at h
  · rename_i o ho
    split at h
    · rename_i hc
      obtain ⟨c, fs⟩ := o
      obtain ⟨h1, h2, h3⟩ := hc
      cases h1
      cases h
      exact ⟨fs, ho, h2, h3, rfl⟩
    · cases h
  · cases h
theorem aLen_spec {M : mM} {a : Nat} {x : Int32} (h : aLen M a = some x) : ∃ z xs, M[a]? = some (.inr (.inl (z, xs))) ∧ x = nI xs.length := by
  unfold aLen at h
  split at h
  · rename_i o ho
    cases h
    exact ⟨o.1, o.2, ho, rfl⟩
  · cases h
theorem aI_spec {M : mM} {z : Bool} {a : Nat} {i x : Int32} (h : aI M z a i = some x) : ∃ xs, M[a]? = some (.inr (.inl (z, xs))) ∧ ¬ i < 0 ∧ xs[i.toNatClampNeg]? = some x := by
  unfold aI at h
  split at h
  · rename_i o ho
    split at h
    · rename_i hc
      obtain ⟨c, fs⟩ := o
      obtain ⟨h1, h2⟩ := hc
      cases h1
      exact ⟨fs, ho, h2, h⟩
    · cases h
  · cases h
theorem aS_spec {M M1 : mM} {z : Bool} {a : Nat} {i x : Int32} (h : aS M z a i x = some M1) : ∃ xs, M[a]? = some (.inr (.inl (z, xs))) ∧ ¬ i < 0 ∧ i.toNatClampNeg < xs.length ∧ 0 < a ∧ M1 = M.set a (.inr (.inl (z, xs.set i.toNatClampNeg x))) := by
  unfold aS at h
  split at h
  · rename_i o ho
    split at h
    · rename_i hc
      obtain ⟨c, fs⟩ := o
      obtain ⟨h1, h2, h3, h4⟩ := hc
      cases h1
      cases h
      exact ⟨fs, ho, h2, h3, h4, rfl⟩
    · cases h
  · cases h
theorem qI_spec {M : mM} {z : Bool} {a : Nat} {i : Int32} {x : Nat} (h : qI M z a i = some x) : ∃ xs, M[a]? = some (.inr (.inr (z, xs))) ∧ ¬ i < 0 ∧ xs[i.toNatClampNeg]? = some (.ref x) := by
  unfold qI at h
  split at h
  · rename_i o ho
    split at h
    · rename_i hc
      obtain ⟨c, fs⟩ := o
      obtain ⟨h1, h2⟩ := hc
      cases h1
      split at h
      · rename_i q hq
        cases h
        exact ⟨fs, ho, h2, hq⟩
      · cases h
    · cases h
  · cases h
theorem isO_spec {M : mM} {a ci : Nat} (h : isO M a ci = true) : ∃ fs, M[a]? = some (.inl (ci, fs)) := by
  unfold isO at h
  split at h
  · rename_i o ho
    obtain ⟨c, fs⟩ := o
    have : c = ci := beq_iff_eq.mp h
    subst this
    exact ⟨fs, ho⟩
  · cases h
theorem qS_spec {M M1 : mM} {z : Bool} {a : Nat} {i : Int32} {v : Nat} (h : qS M z a i v = some M1) : ∃ xs, M[a]? = some (.inr (.inr (z, xs))) ∧ ¬ i < 0 ∧ i.toNatClampNeg < xs.length ∧ 0 < a ∧ (∃ fs, M[v]? = some (.inl (mcz z, fs))) ∧ M1 = M.set a (.inr (.inr (z, xs.set i.toNatClampNeg (.ref v)))) := by
  unfold qS at h
  split at h
  · rename_i o ho
    split at h
    · rename_i hc
      obtain ⟨c, fs⟩ := o
      obtain ⟨h1, h2, h3, h4, h5⟩ := hc
      cases h1
      cases h
      exact ⟨fs, ho, h2, h3, h4, isO_spec h5, rfl⟩
    · cases h
  · cases h
/-! the classes' own facts -/
def mTy (ci : Nat) : Nat → FieldType := match ci with
  | 0 => tyX0
  | 1 => tyX1
  | 2 => tyX2
  | 3 => tyX3
  | 4 => tyX4
  | 5 => tyX5
  | 6 => tyX6
  | 7 => tyX7
  | _ => tyX8
theorem uw_X0 : ∀ w ∈ u_ws RX0 TX0 3, w ∈ tables_1 ∧ goodWord w = true := by decide +kernel
theorem uw_X1 : ∀ w ∈ u_ws RX1 TX1 3, w ∈ tables_1 ∧ goodWord w = true := by decide +kernel
theorem uw_X2 : ∀ w ∈ u_ws RX2 TX2 2, w ∈ tables_1 ∧ goodWord w = true := by decide +kernel
theorem uw_X3 : ∀ w ∈ u_ws RX3 TX3 2, w ∈ tables_1 ∧ goodWord w = true := by decide +kernel
theorem uw_X4 : ∀ w ∈ u_ws RX4 TX4 3, w ∈ tables_1 ∧ goodWord w = true := by decide +kernel
theorem uw_X5 : ∀ w ∈ u_ws RX5 TX5 2, w ∈ tables_1 ∧ goodWord w = true := by decide +kernel
theorem uw_X6 : ∀ w ∈ u_ws RX6 TX6 3, w ∈ tables_1 ∧ goodWord w = true := by decide +kernel
theorem uw_X7 : ∀ w ∈ u_ws RX7 TX7 13, w ∈ tables_1 ∧ goodWord w = true := by decide +kernel
theorem uw_X8 : ∀ w ∈ u_ws RX8 TX8 24, w ∈ tables_1 ∧ goodWord w = true := by decide +kernel
theorem mT0_of {w : Cond} (h : w ∈ tables_1 ∧ goodWord w = true) : w ∈ mT0 := List.mem_filter.mpr ⟨List.mem_append_right _ h.1, h.2⟩
theorem mCl_ok : ∀ (ci : Nat) (r : vw_C), vwCl[ci]? = some r → (∀ w ∈ u_ws r.1 r.2.1 r.2.2, w ∈ mT0) ∧ (∀ k, k < r.2.2 → parseFieldDescriptor (r.2.1 k).2.2.1 = some (mTy ci k)) ∧ (∀ a, a < r.2.2 → ∀ b, b < r.2.2 → a ≠ b → (r.2.1 a).2.1 ≠ (r.2.1 b).2.1)
  | 0, r, h => by cases h; exact ⟨fun w hw => mT0_of (uw_X0 w hw), tyX0_ok, nmX0⟩
  | 1, r, h => by cases h; exact ⟨fun w hw => mT0_of (uw_X1 w hw), tyX1_ok, nmX1⟩
  | 2, r, h => by cases h; exact ⟨fun w hw => mT0_of (uw_X2 w hw), tyX2_ok, nmX2⟩
  | 3, r, h => by cases h; exact ⟨fun w hw => mT0_of (uw_X3 w hw), tyX3_ok, nmX3⟩
  | 4, r, h => by cases h; exact ⟨fun w hw => mT0_of (uw_X4 w hw), tyX4_ok, nmX4⟩
  | 5, r, h => by cases h; exact ⟨fun w hw => mT0_of (uw_X5 w hw), tyX5_ok, nmX5⟩
  | 6, r, h => by cases h; exact ⟨fun w hw => mT0_of (uw_X6 w hw), tyX6_ok, nmX6⟩
  | 7, r, h => by cases h; exact ⟨fun w hw => mT0_of (uw_X7 w hw), tyX7_ok, nmX7⟩
  | 8, r, h => by cases h; exact ⟨fun w hw => mT0_of (uw_X8 w hw), tyX8_ok, nmX8⟩
  | n + 9, r, h => by simp [vwCl] at h
/-- a field of a class, as a pool entry of the class 'own' names it -/
def mFl (own : String) (idx ci k : Nat) : Prop := ∃ r : vw_C, vwCl[ci]? = some r ∧ k < r.2.2 ∧ (Cond.fieldLink own idx (r.2.1 k).1 (r.2.1 k).2.1 (r.2.1 k).2.2.1 ∈ mT0 ∨ ∃ host, Cond.fieldLinkNest own idx (r.2.1 k).1 (r.2.1 k).2.1 (r.2.1 k).2.2.1 host ∈ mNw)
theorem vp_V_map {E : mE} {fs : List Value} {k : Nat} {v : Value} (h : fs[k]? = some v) : vp_V (fs.map (mtr E)) k = mtr E v := by
  simp [vp_V, h]
section MJ
variable {me : mMe} {E : mE} {d mc ms : Nat} {r : Option Value} {Mf : mM} {pc : Nat} {loc : mL} {stk : List Value} {M M1 : mM} {k n : Nat}
theorem Ev_get {idx a ci i : Nat} {v : Value} (hf : mFl me.1.cls idx ci i) (hd : decode me.2.1 pc = .ok (.getfield idx, 3)) (hg : gV M a ci i = some v) (h : Ev me E d mc ms r Mf (pc + 3) loc (v :: stk) M k n) : Ev me E d mc ms r Mf pc loc (.ref a :: stk) M k n := by
  intro D p l e R s m args below meth c Z C Rt H locs ls hH hL hk hn hl
  obtain ⟨fs, hM, hv⟩ := gV_spec hg
  obtain ⟨q, hc, hkN, hlk⟩ := hf
  obtain ⟨r', h1, -, cell, q1, q2, q3, q4⟩ := hH.1 a _ hM
  cases h1.symm.trans hc
  obtain ⟨u1, u2, u3⟩ := mCl_ok ci _ hc
  obtain ⟨hS, hfc, kC, hkC, hkind⟩ := C.2.2.2.2.2.1.1 ci _ hc
  obtain ⟨cf, kf, fi, f, hi, hsl⟩ := hS i hkN
  have hslot : cell.slots[f.slot]? = some (mtr E v) := by rw [hsl, q4 i hkN, vp_V_map hv]
  have hst := (u_facts hfc hkC (u_lays C.2.2.2.2.1 u1 hkN) hi).1
  have hun : cell.vm ≠ .unknown := by rw [q3]; exact fun h => by cases h
  rcases hlk with hlk | ⟨host, hlk⟩
  · exact W.getf C.1 C.2.1 C.2.2.2.1 (C.2.2.2.2.1 _ hlk) hi hst q1 hun hslot rfl rfl hd (h D p l e R s m args below meth c Z C Rt H locs ls hH hL hk hn hl)
  · exact va_Wgetf C.1 C.2.1 C.2.2.2.1 (va_Nw.use rfl (C.2.2.2.2.2.1.2.1 _ hlk)) hi hst q1 hun hslot rfl rfl hd (h D p l e R s m args below meth c Z C Rt H locs ls hH hL hk hn hl)
theorem Ev_getI {idx a ci i : Nat} {v : Int32} (hf : mFl me.1.cls idx ci i) (hd : decode me.2.1 pc = .ok (.getfield idx, 3)) (hg : gI M a ci i = some v) (h : Ev me E d mc ms r Mf (pc + 3) loc (.int v :: stk) M k n) : Ev me E d mc ms r Mf pc loc (.ref a :: stk) M k n := Ev_get hf hd (gI_spec hg) h
theorem Ev_getL {idx a ci i : Nat} {v : Int64} (hf : mFl me.1.cls idx ci i) (hd : decode me.2.1 pc = .ok (.getfield idx, 3)) (hg : gL M a ci i = some v) (h : Ev me E d mc ms r Mf (pc + 3) loc (.long v :: stk) M k n) : Ev me E d mc ms r Mf pc loc (.ref a :: stk) M k n := Ev_get hf hd (gL_spec hg) h
theorem Ev_getR {idx a ci i : Nat} {v : Nat} (hf : mFl me.1.cls idx ci i) (hd : decode me.2.1 pc = .ok (.getfield idx, 3)) (hg : gR M a ci i = some v) (h : Ev me E d mc ms r Mf (pc + 3) loc (.ref v :: stk) M k n) : Ev me E d mc ms r Mf pc loc (.ref a :: stk) M k n := Ev_get hf hd (gR_spec hg) h
theorem lL_app {E : mE} {locs : List Loc} {a i : Nat} (h : ∀ q ∈ locs, E.2 ≤ q.base) (ha : E.2 ≤ a) : ∀ q ∈ locs ++ [(⟨a, i⟩ : Loc)], E.2 ≤ q.base := by
  intro q hq
  rcases List.mem_append.mp hq with h1 | h1
  · exact h q h1
  · rw [List.mem_singleton] at h1
    subst h1
    exact ha
/-- a field written: in a constructor of its class, or one that isn't final -/
theorem Ev_put {idx a ci i : Nat} {v : Value} (hf : mFl me.1.cls idx ci i) (hfit : narrow (mTy ci i) (mtr E v) = mtr E v ∧ fits (mTy ci i) (mtr E v) = true) (hfin : ∀ q, vwCl[ci]? = some q → (q.2.1 i).2.2.2 = false ∨ ((q.2.1 i).2.2.2 = true ∧ me.1.name = "<init>" ∧ (q.2.1 i).1 = me.1.cls ∧ ∃ w, w ∈ mT0 ∧ w = Cond.fieldLink me.1.cls idx (q.2.1 i).1 (q.2.1 i).2.1 (q.2.1 i).2.2.1)) (hd : decode me.2.1 pc = .ok (.putfield idx, 3)) (hg : sV M a ci i v = some M1) (h : Ev me E d mc ms r Mf (pc + 3) loc stk M1 k n) : Ev me E d mc ms r Mf pc loc (v :: .ref a :: stk) M k n := by
  intro D p l e R s m args below meth c Z C Rt H locs ls hH hL hk hn hl
  obtain ⟨fs, hM, hv, ha0, rfl⟩ := sV_spec hg
  obtain ⟨q, hc, hkN, hlk⟩ := hf
  obtain ⟨r', h1, hlen, cell, q1, q2, q3, q4⟩ := hH.1 a _ hM
  cases h1.symm.trans hc
  obtain ⟨u1, u2, u3⟩ := mCl_ok ci _ hc
  obtain ⟨hS, hfc, kC, hkC, hkind⟩ := C.2.2.2.2.2.1.1 ci _ hc
  obtain ⟨cf, kf, fi, f, hi, hsl⟩ := hS i hkN
  have hap := va_apart (own := me.1.cls) C.2.2.2.2.1 u1 (mTy ci) u2 u3 C.2.2.2.2.2.1.va hc
  have hst := (u_facts hfc hkC (u_lays C.2.2.2.2.1 u1 hkN) hi).1
  have key : ∀ H' : Heap, H'[mad E a]? = some (cell.setSlot f.slot (mtr E v)) → H'.size = H.size → (∀ q : Nat, q ≠ mad E a → H'[q]? = H[q]?) → mHold E D s (M.set a (.inl (ci, fs.set i v))) H' := by
    intro H' e1 e2 e3
    rw [hsl] at e1
    refine hH.set hM e2 e3 ⟨_, hc, by rw [← hlen]; exact List.length_set, ?_⟩
    have hv' : i < (fs.map (mtr E)).length := by rw [List.length_map]; exact hv
    have := t_OB.to (V := updV (vp_V (fs.map (mtr E))) i (mtr E v)) (V' := vp_V ((fs.map (mtr E)).set i (mtr E v))) (⟨_, e1, q2, q3, t_set q4 hap hkN (mtr E v)⟩ : t_OB (mad E a) (D.1 ci) _ (D.2 ci) H' _) (fun j _ => vp_updV_set hv' (mtr E v) j)
    rw [List.map_set]
    exact this
  have hlay := C.2.2.2.2.1 _ (u1 _ (u_in_lay hkN))
  unfold u_lay at hlay
  rcases hfin _ hc with hfn | ⟨hfn, hnm, hdecl, w, hw, rfl⟩
  · rw [if_neg (by rw [hfn]; decide)] at hlay
    have h6 := u_store hfc hkC hkind hlay hi (u2 i hkN) hfit.1 hfit.2
    rcases hlk with hlk | ⟨host, hlk⟩
    · exact W.putK C.1 C.2.1 (f := f) ⟨C.2.2.2.1, C.2.2.2.2.1 _ hlk, ⟨_, _, _, hi⟩, hst⟩ (by rw [q2]; exact h6) q1 q3 (by rw [hsl]; exact k2_hasslot (q4 i hkN)) rfl rfl hd fun H' e1 e2 e3 => h D p l e R s m args below meth c Z C Rt H' _ ls (key H' e1 e2 e3) (lL_app hL (mad_base ha0)) hk hn hl
    · exact va_WputK C.1 C.2.1 (f := f) C.2.2.2.1 (va_Nw.use rfl (C.2.2.2.2.2.1.2.1 _ hlk)) hi hst (by rw [q2]; exact h6) q1 q3 (by rw [hsl]; exact k2_hasslot (q4 i hkN)) rfl rfl hd fun H' e1 e2 e3 => h D p l e R s m args below meth c Z C Rt H' _ ls (key H' e1 e2 e3) (lL_app hL (mad_base ha0)) hk hn hl
  · rw [if_pos hfn] at hlay
    have hcf : m.cls = cf := by
      obtain ⟨_, _, c', _, _, _, -, -, hf', -, -, -, hown2, -⟩ := Cond.laysFinal_spec hlay
      have e1 : c' = cf := by have := hi.symm.trans hf'; simp at this; exact this.1.symm
      rw [hdecl] at hown2
      rw [← e1]; exact Option.some.inj (C.2.2.2.1.symm.trans hown2)
    have h6 := u_fits hfc hkC hkind (Or.inr hlay) hi (u2 i hkN) hfit.1 hfit.2
    exact W.putFinK C.1 C.2.1 C.2.2.2.1 (C.2.2.2.2.1 _ hw) hi hst hcf (C.2.2.2.2.2.2.1.trans hnm) (by rw [q2]; exact h6) q1 q3 (by rw [hsl]; exact k2_hasslot (q4 i hkN)) rfl rfl hd fun H' e1 e2 e3 => h D p l e R s m args below meth c Z C Rt H' _ ls (key H' e1 e2 e3) (lL_app hL (mad_base ha0)) hk hn hl
theorem Ev_alen {a : Nat} {v : Int32} (hd : decode me.2.1 pc = .ok (.arraylength, 1)) (hg : aLen M a = some v) (h : Ev me E d mc ms r Mf (pc + 1) loc (.int v :: stk) M k n) : Ev me E d mc ms r Mf pc loc (.ref a :: stk) M k n := by
  intro D p l e R s m args below meth c Z C Rt H locs ls hH hL hk hn hl
  obtain ⟨z, xs, hM, rfl⟩ := aLen_spec hg
  obtain ⟨cell, h1, h2, h3, h4, h5⟩ := hH.1 a _ hM
  exact W.alen C.1 C.2.1 h1 h2 (by rw [h4]; rfl) rfl rfl hd (h D p l e R s m args below meth c Z C Rt H locs ls hH hL hk hn hl)
theorem mclamp {i : Int32} {N : Nat} (h0 : ¬ i < 0) (h1 : i.toNatClampNeg < N) : ¬ (i < 0 ∨ N ≤ i.toNatClampNeg) := by
  rintro (h | h)
  · exact h0 h
  · omega
theorem Ev_iald {a : Nat} {i v : Int32} (hd : decode me.2.1 pc = .ok (.iaload, 1)) (hg : aI M false a i = some v) (h : Ev me E d mc ms r Mf (pc + 1) loc (.int v :: stk) M k n) : Ev me E d mc ms r Mf pc loc (.int i :: .ref a :: stk) M k n := by
  intro D p l e R s m args below meth c Z C Rt H locs ls hH hL hk hn hl
  obtain ⟨xs, hM, h0, hv⟩ := aI_spec hg
  obtain ⟨cell, h1, h2, h3, h4, h5⟩ := hH.1 a _ hM
  have hlt := (List.getElem?_eq_some_iff.mp hv).1
  exact W.iald C.1 C.2.1 h1 h2 h3 (by rw [h4]; exact mclamp h0 hlt) (v := .int v) (by rw [h5 _ hlt]; simp [hv]) rfl rfl hd (h D p l e R s m args below meth c Z C Rt H locs ls hH hL hk hn hl)
theorem Ev_zald {a : Nat} {i v : Int32} (hd : decode me.2.1 pc = .ok (.baload, 1)) (hg : aI M true a i = some v) (h : Ev me E d mc ms r Mf (pc + 1) loc (.int v :: stk) M k n) : Ev me E d mc ms r Mf pc loc (.int i :: .ref a :: stk) M k n := by
  intro D p l e R s m args below meth c Z C Rt H locs ls hH hL hk hn hl
  obtain ⟨xs, hM, h0, hv⟩ := aI_spec hg
  obtain ⟨cell, h1, h2, h3, h4, h5⟩ := hH.1 a _ hM
  have hlt := (List.getElem?_eq_some_iff.mp hv).1
  exact W.zald C.1 C.2.1 h1 h2 h3 (by rw [h4]; exact mclamp h0 hlt) (v := .int v) (by rw [h5 _ hlt]; simp [hv]) rfl rfl hd (h D p l e R s m args below meth c Z C Rt H locs ls hH hL hk hn hl)
theorem mAt_ast {E : mE} {D : va_G} {s : State} {z : Bool} {a j : Nat} {xs : List Int32} {x : Int32} {cell : Cell} {H' : Heap} (h2 : s.isArrayOf cell (mty z)) (h3 : cell.vm ≠ .unknown) (h4 : cell.slots.size = xs.length) (h5 : ∀ j, j < xs.length → cell.slots[j]? = some (.int (xs.getD j 0))) (hj : j < xs.length) (e1 : H'[mad E a]? = some (cell.setSlot j (.int x))) : mAt E D s a (.inr (.inl (z, xs.set j x))) H' := by
  refine ⟨_, e1, h2, h3, by rw [List.length_set, ← h4]; simp [Cell.setSlot], fun q hq => ?_⟩
  rw [List.length_set] at hq
  by_cases hqj : q = j
  · subst hqj
    rw [Cell.slots_setSlot_self _ (by rw [h4]; exact hq)]
    simp [hq]
  · rw [slot_ne _ _ (Ne.symm hqj), h5 q hq]
    simp [List.getElem?_set_ne (Ne.symm hqj)]
theorem Ev_iast {a : Nat} {i v : Int32} (hd : decode me.2.1 pc = .ok (.iastore, 1)) (hg : aS M false a i v = some M1) (h : Ev me E d mc ms r Mf (pc + 1) loc stk M1 k n) : Ev me E d mc ms r Mf pc loc (.int v :: .int i :: .ref a :: stk) M k n := by
  intro D p l e R s m args below meth c Z C Rt H locs ls hH hL hk hn hl
  obtain ⟨xs, hM, h0, hlt, ha0, rfl⟩ := aS_spec hg
  obtain ⟨cell, h1, h2, h3, h4, h5⟩ := hH.1 a _ hM
  exact W.iast C.1 C.2.1 h1 h2 h3 (by rw [h4]; exact mclamp h0 hlt) rfl rfl hd fun H' e1 e2 e3 => h D p l e R s m args below meth c Z C Rt H' _ ls (hH.set hM e2 e3 (mAt_ast h2 h3 h4 h5 hlt e1)) (lL_app hL (mad_base ha0)) hk hn hl
theorem Ev_zast {a : Nat} {i v w : Int32} (hw : narrow .boolean (.int v) = .int w) (hd : decode me.2.1 pc = .ok (.bastore, 1)) (hg : aS M true a i w = some M1) (h : Ev me E d mc ms r Mf (pc + 1) loc stk M1 k n) : Ev me E d mc ms r Mf pc loc (.int v :: .int i :: .ref a :: stk) M k n := by
  intro D p l e R s m args below meth c Z C Rt H locs ls hH hL hk hn hl
  obtain ⟨xs, hM, h0, hlt, ha0, rfl⟩ := aS_spec hg
  obtain ⟨cell, h1, h2, h3, h4, h5⟩ := hH.1 a _ hM
  exact W.zast C.1 C.2.1 h1 h2 h3 (by rw [h4]; exact mclamp h0 hlt) rfl rfl hd fun H' e1 e2 e3 => h D p l e R s m args below meth c Z C Rt H' _ ls (hH.set hM e2 e3 (mAt_ast h2 h3 h4 h5 hlt (by rw [e1, hw]))) (lL_app hL (mad_base ha0)) hk hn hl
theorem Ev_aald {z : Bool} {a : Nat} {i : Int32} {v : Nat} (hd : decode me.2.1 pc = .ok (.aaload, 1)) (hg : qI M z a i = some v) (h : Ev me E d mc ms r Mf (pc + 1) loc (.ref v :: stk) M k n) : Ev me E d mc ms r Mf pc loc (.int i :: .ref a :: stk) M k n := by
  intro D p l e R s m args below meth c Z C Rt H locs ls hH hL hk hn hl
  obtain ⟨xs, hM, h0, hv⟩ := qI_spec hg
  obtain ⟨cA, h1, h2, h3⟩ := hH.1 a _ hM
  have hlt := (List.getElem?_eq_some_iff.mp hv).1
  exact W.aald (v := mtr E (.ref v)) (ty := .object (mel z)) C.1 C.2.1 h1 (h2 _ _) rfl (fun q => by cases q) (by rw [arrV_size]; exact mclamp h0 hlt) (by rw [arrV_read _ _ hlt, vp_V_map hv]) rfl rfl hd (h D p l e R s m args below meth c Z C Rt H locs ls hH hL hk hn hl)
theorem mel_cl (z : Bool) : ∃ q : vw_C, vwCl[mcz z]? = some q ∧ q.1 = mel z := by cases z <;> exact ⟨_, rfl, rfl⟩
theorem Ev_aast {z : Bool} {a : Nat} {i : Int32} {v : Nat} (hd : decode me.2.1 pc = .ok (.aastore, 1)) (hg : qS M z a i v = some M1) (h : Ev me E d mc ms r Mf (pc + 1) loc stk M1 k n) : Ev me E d mc ms r Mf pc loc (.ref v :: .int i :: .ref a :: stk) M k n := by
  intro D p l e R s m args below meth c Z C Rt H locs ls hH hL hk hn hl
  obtain ⟨xs, hM, h0, hlt, ha0, ⟨fs, hMv⟩, rfl⟩ := qS_spec hg
  obtain ⟨cA, h1, h2, h3⟩ := hH.1 a _ hM
  obtain ⟨r', hr', -, cellV, g1, g2, g3, -⟩ := hH.1 v _ hMv
  obtain ⟨q, hq, hqe⟩ := mel_cl z
  cases hr'.symm.trans hq
  have hcls := (C.2.2.2.2.2.1.1 _ _ hq).2
  rw [hqe] at hcls
  have h3' := h3
  obtain ⟨kA, comp, k1, k2, k3, -⟩ := h3
  have hcomp : comp = D.1 (mcz z) := Option.some.inj (k3.symm.trans hcls.1)
  subst hcomp
  obtain ⟨kC, hkC, -⟩ := hcls.2
  refine W.aast C.1 C.2.1 h1 (fun q h => by cases h) (fun h => by cases h) k1 k2 rfl hkC ⟨h0, by rw [arrV_size]; exact hlt⟩ g1 (fun q h => by rw [g3] at h; cases h) (by rw [g2]; exact hkC) (by rw [g2]; exact va_assign hcls) rfl rfl hd fun H' e1 e2 e3 => ?_
  refine h D p l e R s m args below meth c Z C Rt H' _ ls (hH.set hM e2 e3 ⟨cA, ?_, h2, h3'⟩) (lL_app hL (mad_base ha0)) hk hn hl
  rw [e1, arrV_store]
  simp only [List.length_set]
  congr 2
  funext j
  rw [List.map_set]
  exact vp_updV_set (by rw [List.length_map]; exact hlt) _ j
end MJ
end
section
/-! ===== rules of the small machine: new cells, calls ===== -/
section MJ
variable {me : mMe} {E : mE} {d mc ms : Nat} {r : Option Value} {Mf : mM} {pc : Nat} {loc : mL} {stk : List Value} {M M1 : mM} {k n : Nat}
theorem Ev_new {idx ci : Nat} {q : vw_C} {fs : List Value} (hc : vwCl[ci]? = some q) (hw1 : Cond.classLink me.1.cls idx q.1 ∈ mT0) (hw2 : Cond.instantiable q.1 q.2.2 ∈ mT0) (hw3 : Cond.initialized q.1 ∈ mT0) (hlen : fs.length = q.2.2) (hfs : ∀ j, j < q.2.2 → defaultValue (mTy ci j) = vp_V fs j) (hno : fs.map (mtr E) = fs) (hkc : k + 1 ≤ mc) (hns : n + q.2.2 ≤ ms) (hd : decode me.2.1 pc = .ok (.new idx, 3)) (h : Ev me E d mc ms r Mf (pc + 3) loc (.ref M.length :: stk) (M ++ [.inl (ci, fs)]) (k + 1) (n + q.2.2)) : Ev me E d mc ms r Mf pc loc stk M k n := by
  intro D p l e R s m args below meth c Z C Rt H locs ls hH hL hk hn hl
  obtain ⟨u1, u2, u3⟩ := mCl_ok ci _ hc
  have hKn := C.2.2.2.2.2.1.1 ci _ hc
  have hRc := C.2.2.2.2.2.2.2.2.2.1
  have hRs := C.2.2.2.2.2.2.2.2.2.2
  refine W.newcK C.1 C.2.1 C.2.2.2.1 (C.2.2.2.2.1 _ hw1) (C.2.2.2.2.1 _ hw2) (C.2.2.2.2.1 _ hw3) rfl hd (by omega) (by omega) hKn.2.1 rfl fun H1 kC hkC e1 z1 o1 => ?_
  have hP : mHold E D s (M ++ [.inl (ci, fs)]) H1 := hH.push z1 o1 ⟨q, hc, hlen, by
    rw [hH.new, hno]
    exact (u_born (mTy ci) C.2.2.2.2.1 u1 hKn hkC e1 u2).to hfs⟩
  have := h D p l e R s m args below meth c Z C Rt H1 locs ls hP hL hkc hns hl
  rw [List.map_cons, show mtr E (.ref M.length) = .ref H.size from by show Value.ref (mad E M.length) = _; rw [hH.new]] at this
  exact this
theorem Ev_newa {z : Bool} {aty : ArrayType} (hz : newarray.typeOf aty = mty z) (hw : Cond.arrayClass (mty z) ∈ mT0) {v : Int32} {N : Nat} (hv : ¬ v < 0) (hN : v.toNatClampNeg = N) (hb : N * componentBytes (mty z) ≤ 536870912) (hkc : k + 1 ≤ mc) (hns : n + N ≤ ms) (hd : decode me.2.1 pc = .ok (.newarray aty, 2)) (h : Ev me E d mc ms r Mf (pc + 2) loc (.ref M.length :: stk) (M ++ [.inr (.inl (z, List.replicate N 0))]) (k + 1) (n + N)) : Ev me E d mc ms r Mf pc loc (.int v :: stk) M k n := by
  intro D p l e R s m args below meth c Z C Rt H locs ls hH hL hk hn hl
  have hRc := C.2.2.2.2.2.2.2.2.2.1
  have hRs := C.2.2.2.2.2.2.2.2.2.2
  refine va_newaK C.1 C.2.1 (by rw [hz]; exact C.2.2.2.2.1 _ hw) rfl hd rfl hv hN (by rw [hz]; exact hb) (by omega) (by omega) rfl fun H1 cA e1 z1 o1 hAr hNm => ?_
  rw [hz] at e1 hAr
  have hP : mHold E D s (M ++ [.inr (.inl (z, List.replicate N 0))]) H1 := hH.push z1 o1 ⟨_, by rw [hH.new]; exact e1, hAr _ _, (fun q => by cases q), by rw [arrV_size, List.length_replicate], fun j hj => by
    rw [List.length_replicate] at hj
    rw [arrV_read _ _ hj]
    cases z <;> simp [mty, defaultValue, hj]⟩
  have := h D p l e R s m args below meth c Z C Rt H1 locs ls hP hL hkc hns hl
  rw [List.map_cons, show mtr E (.ref M.length) = .ref H.size from by show Value.ref (mad E M.length) = _; rw [hH.new]] at this
  exact this
theorem Ev_anew {z : Bool} {idx : Nat} (hw : Cond.classLink me.1.cls idx (mel z) ∈ mT0) {v : Int32} {N : Nat} (hv : ¬ v < 0) (hN : v.toNatClampNeg = N) (hb : N * 4 ≤ 536870912) (hkc : k + 1 ≤ mc) (hns : n + N ≤ ms) (hd : decode me.2.1 pc = .ok (.anewarray idx, 3)) (h : Ev me E d mc ms r Mf (pc + 3) loc (.ref M.length :: stk) (M ++ [.inr (.inr (z, List.replicate N .null))]) (k + 1) (n + N)) : Ev me E d mc ms r Mf pc loc (.int v :: stk) M k n := by
  intro D p l e R s m args below meth c Z C Rt H locs ls hH hL hk hn hl
  have hRc := C.2.2.2.2.2.2.2.2.2.1
  have hRs := C.2.2.2.2.2.2.2.2.2.2
  have hAO : va_AO (mel z) s := by
    cases z
    · exact C.2.2.2.2.2.1.2.2.1
    · exact C.2.2.2.2.2.1.2.2.2
  subst hN
  refine W.anew C.1 C.2.1 C.2.2.2.1 (C.2.2.2.2.1 _ hw) (va_AO.use hAO) rfl hd rfl hv hb (by omega) (by omega) fun cA kA comp f1 f2 f3 f4 => ?_
  generalize hH1 : H.push ({ cls := cA, slots := Array.replicate v.toNatClampNeg .null, vm := .none } : Cell) = H1
  have z1 : H1.size = H.size + 1 := by rw [← hH1, Array.size_push]
  have e1 : H1[H.size]? = some (arrV cA v.toNatClampNeg (fun _ => .null)) := by rw [← hH1, Array.getElem?_push_size, ← arrV_new]
  have o1 : ∀ q : Nat, q < H.size → H1[q]? = H[q]? := fun q hq => by rw [← hH1, Array.getElem?_push, if_neg (Nat.ne_of_lt hq)]
  have hP : mHold E D s (M ++ [.inr (.inr (z, List.replicate v.toNatClampNeg .null))]) H1 := hH.push z1 o1 ⟨cA, by
    rw [hH.new, e1]
    simp only [List.length_replicate]
    congr 2
    funext j
    simp only [vp_V, List.map_replicate, mtr]
    rw [List.getD_eq_getElem?_getD, List.getElem?_replicate]
    split <;> rfl, fun N z => ⟨(fun k h => by cases h), kA, f2, comp, f3⟩, ⟨kA, comp, f2, f3, f4, f1⟩⟩
  have := h D p l e R s m args below meth c Z C Rt H1 locs ls hP hL hkc hns hl
  rw [List.map_cons, show mtr E (.ref M.length) = .ref H.size from by show Value.ref (mad E M.length) = _; rw [hH.new]] at this
  exact this
theorem Ev_objInit {idx a : Nat} (hw1 : Cond.methodLink me.1.cls idx Lib.objectInit ∈ mT0) (hw2 : Cond.instanceMethod Lib.objectInit ∈ mT0) (hw3 : Cond.code Lib.objectInit ⟨#[0xb1]⟩ 1 none ∈ mT0) (h1 : 1 ≤ d) (hrest : (stk.map fun v => v.category).sum ≤ 8) (hd : decode me.2.1 pc = .ok (.invokespecial idx, 3)) (h : Ev me E d mc ms r Mf (pc + 3) loc stk M k n) : Ev me E d mc ms r Mf pc loc (.ref a :: stk) M k n := by
  intro D p l e R s m args below meth c Z C Rt H locs ls hH hL hk hn hl
  have hRf := C.2.2.2.2.2.2.2.1
  have hRl := C.2.2.2.2.2.2.2.2.1
  have hcat : ((stk.map (mtr E)).map fun v => v.category).sum ≤ 8 := by
    rw [List.map_map, show ((fun v : Value => v.category) ∘ mtr E) = (fun v : Value => v.category) from funext (mtr_cat E)]
    exact hrest
  refine W.objInit C.1 C.2.1 C.2.2.2.1 (C.2.2.2.2.1 _ hw1) (C.2.2.2.2.1 _ hw2) (C.2.2.2.2.1 _ hw3) rfl (by rw [C.2.2.1]; exact hl.1) rfl hd (by omega) ?_ (h D p l e R s m args below meth c Z C Rt H locs ls hH hL hk hn hl)
  have := lv_room (m := m) (pc := pc) (ls := ls) (rest := .ref (mad E a) :: stk.map (mtr E)) hcat
  exact Nat.le_trans (Nat.add_le_add_right this 12) (by omega)
/-! calls -/
theorem mK.same {D : va_G} {u U : State} (hvm : u.vm = U.vm) (h : mK D u) : mK D U := by
  have hal : u.vm.Alike U.vm := by rw [hvm]; exact Vm.Alike.refl _
  refine ⟨fun c q hq => u_Kn_moved hal (h.1 c q hq), fun w hw => ?_, h.2.2.1.moved hal, h.2.2.2.moved hal⟩
  have h1 := h.2.1 w hw
  have h2 : mNest w = true := (List.mem_filter.mp hw).2
  cases w <;> first | exact va_Nw.same rfl hvm h1 | cases h2
theorem mPc.blind {E : mE} {D : va_G} {vs : List Value} {M : mM} : FrameBlind (mPc E D vs M) := fun a U g mk q => ⟨q.1, mHold.moved (u := U) (U := U.calling g mk a) (Vm.Alike.refl U.vm) q.2.1, q.2.2.same (u := U) (U := U.calling g mk a) rfl⟩
theorem mPc.at {E : mE} {D : va_G} {vs : List Value} {M : mM} {s : State} {H : Heap} (hH : mHold E D s M H) (hK : mK D s) : ∀ U : State, U.heap = H → s.WarmedH U.vm → mPc E D vs M (vs.map (mtr E)).toArray U := fun U hU hW => ⟨rfl, by rw [hU]; exact hH.moved hW.alike, hK.warm hW⟩
theorem mcont {p : Program} {l : Launch} {e : Env} {R : Room} {s : State} {m : MethodId} {args : Array Value} {below : List Frame} {meth : Method} {c : Code} {H : Heap} {locs : List Loc} {cells slots mc2 ms2 : Nat} {Q : State → Prop} {ls : Array Slot} {st0 rest : List Value} {pc : Nat} {E : mE} {D : va_G} {r1 : Option Value} {M1 : mM} {a : Array Value}
    (hr : va_Run p l e R s m args below meth c H locs cells slots mc2 ms2 (F0 m pc ls st0) rest (mQc E D r1 M1 a) (fun q => E.2 ≤ q)) (hL : ∀ q ∈ locs, E.2 ≤ q.base)
    (kk : ∀ (H1 : Heap) (locs1 : List Loc), mHold E D s M1 H1 → (∀ q ∈ locs1, E.2 ≤ q.base) → W p l e R s m args below meth c H1 locs1 (cells + mc2) (slots + ms2) Q (F0 m (pc + 3) ls ((r1.map (mtr E)).toList ++ rest))) : W p l e R s m args below meth c H locs cells slots Q (F0 m pc ls st0) := by
  intro T hT X
  obtain ⟨v, st₀, t, T', L, h0, X', hL', e1, e2, ⟨hv, hH1⟩, st⟩ := hr T hT X
  cases hv
  have hal : s.vm.Alike t.vm := by rw [← e2]; exact X'.warmed.alike
  obtain ⟨t2, a1, b1⟩ := kk T'.heap (locs ++ L) (by rw [e1]; exact hH1.moved hal.symm) (fun q hq => by
      rcases List.mem_append.mp hq with h | h
      · exact hL q h
      · exact hL' q h) T' rfl X'
  exact ⟨t2, st t2 a1, b1⟩
theorem mstk (E : mE) (r1 : Option Value) (stk : List Value) : (r1.map (mtr E)).toList ++ stk.map (mtr E) = (r1.toList ++ stk).map (mtr E) := by cases r1 <;> rfl
theorem mcat (E : mE) {stk : List Value} (h : (stk.map fun v => v.category).sum ≤ 8) : ((stk.map (mtr E)).map fun v => v.category).sum ≤ 8 := by
  rw [List.map_map, show ((fun v : Value => v.category) ∘ mtr E) = (fun v : Value => v.category) from funext (mtr_cat E)]
  exact h
/-- what the tables say of a method, whoever calls it; n: its parameters -/
def mMd (me : mMe) (n : Nat) : Prop := Cond.code me.1 me.2.1 me.2.2.1 me.2.2.2 ∈ mT0 ∧ Cond.initialized me.1.cls ∈ mT0 ∧ (me.1.cls ≠ "java/lang/invoke/MethodHandle" ∧ me.1.cls ≠ "java/lang/invoke/VarHandle" ∧ (parseMethodDescriptor me.1.desc).map (fun d => d.parameters.length) = some n) ∧ me.2.2.1 ≤ 21
def mMv (me : mMe) (n : Nat) : Prop := mMd me n ∧ Cond.instanceMethod me.1 ∈ mT0 ∧ Cond.selects me.1.cls me.1 me.1 ∈ mT0
def mMs (me : mMe) (n : Nat) : Prop := mMd me n ∧ Cond.static me.1 ∈ mT0
def mMi (me : mMe) (n : Nat) : Prop := mMd me n ∧ Cond.instanceMethod me.1 ∈ mT0 ∧ me.1.name = "<init>" ∧ me.2.2.2 = none
theorem mgood {me : mMe} (h : Cond.code me.1 me.2.1 me.2.2.1 me.2.2.2 ∈ mT0) : GoodIn mT0 (mws me) := by
  intro w hw
  rcases List.mem_cons.mp hw with rfl | hw
  · exact ⟨h, good_of_word (List.mem_filter.mp h).2⟩
  · exact ⟨hw, good_of_word (List.mem_filter.mp hw).2⟩
theorem mCallB {me2 : mMe} {p : Program} {R : Room} {s : State} {m : MethodId} {args : Array Value} {meth : Method} {c : Code} {D : va_G} {d2 mc2 ms2 np idx : Nat} (C : mCtx me D d mc ms p R s m args meth c) (hM : mMd me2 np) (hlk : Cond.methodLink me.1.cls idx me2.1 ∈ mT0) (hdd : d2 + 1 ≤ d) : CallB R s args me.1.cls idx me2.1 me2.2.1 me2.2.2.1 me2.2.2.2 (mws me2) (mrm d2 mc2 ms2) mc2 ms2 np := by
  have hRf := C.2.2.2.2.2.2.2.1
  have hRl := C.2.2.2.2.2.2.2.2.1
  have hm := hM.2.2.2
  exact callB_of np C.2.2.2.2.1 (mgood hM.1) rfl rfl rfl (C.2.2.2.2.1 _ hM.2.1) (C.2.2.2.2.1 _ hlk) hM.2.2.1 ⟨by show d2 + 1 ≤ _; omega, by show 8 + (me2.2.2.1 + 11) + 40 * d2 ≤ _; omega⟩
theorem Ev_callV {me2 : mMe} {idx a ci np d2 : Nat} {vs rest : List Value} {r1 : Option Value} (hM : mMv me2 np) (hlk : Cond.methodLink me.1.cls idx me2.1 ∈ mT0) (hq : ∃ q : vw_C, vwCl[ci]? = some q ∧ q.1 = me2.1.cls) (hO : isO M a ci = true) (hC : EvC me2 E d2 0 0 (.ref a :: vs) M r1 M1) (hst : stk = vs.reverse ++ .ref a :: rest) (hnp : vs.length = np) (hdd : d2 + 1 ≤ d) (hrest : (rest.map fun v => v.category).sum ≤ 8) (hd : decode me.2.1 pc = .ok (.invokevirtual idx, 3)) (h : Ev me E d mc ms r Mf (pc + 3) loc (r1.toList ++ rest) M1 k n) : Ev me E d mc ms r Mf pc loc stk M k n := by
  intro D p l e R s m args below meth c Z C Rt H locs ls hH hL hk hn hl
  subst hst
  have hRc := C.2.2.2.2.2.2.2.2.2.1
  have hRs := C.2.2.2.2.2.2.2.2.2.2
  obtain ⟨q, hq1, hq2⟩ := hq
  obtain ⟨fs, hMa⟩ := isO_spec hO
  obtain ⟨r', h1, -, cell, q1, q2, q3, -⟩ := hH.1 a _ hMa
  cases h1.symm.trans hq1
  have hcl := (C.2.2.2.2.2.1.1 ci _ hq1).2.1
  rw [hq2] at hcl
  refine mcont (r1 := r1) (M1 := M1) (D := D) (E := E) (rest := rest.map (mtr E)) (va_runV (As := vs.map (mtr E)) (b := mad E a) (Ts := mT0) (nL := me.2.2.1) ⟨C.1, C.2.1, C.2.2.1, C.2.2.2.1, C.2.2.2.2.1⟩ (hC D l) ⟨mCallB C hM.1 hlk hdd, C.2.2.2.2.1 _ hM.2.1, C.2.2.2.2.1 _ hM.2.2⟩ ⟨mPc.blind, ⟨cell, q1, by rw [q3]; rfl, by rw [q2]; exact hcl⟩, mPc.at (vs := .ref a :: vs) hH C.2.2.2.2.2.1⟩ rfl (by rw [List.length_map]; exact hnp) hl.1 (by simp [mtr]) (lv_room (mcat E hrest)) hd ⟨by omega, by omega⟩) hL fun H1 locs1 hH1 hL1 => ?_
  have := h D p l e R s m args below meth c Z C Rt H1 locs1 ls hH1 hL1 hk hn hl
  rw [mstk]
  exact this
theorem Ev_callS {me2 : mMe} {idx np d2 : Nat} {vs rest : List Value} {r1 : Option Value} (hM : mMs me2 np) (hlk : Cond.methodLink me.1.cls idx me2.1 ∈ mT0) (hC : EvC me2 E d2 0 0 vs M r1 M1) (hst : stk = vs.reverse ++ rest) (hnp : vs.length = np) (hdd : d2 + 1 ≤ d) (hrest : (rest.map fun v => v.category).sum ≤ 8) (hd : decode me.2.1 pc = .ok (.invokestatic idx, 3)) (h : Ev me E d mc ms r Mf (pc + 3) loc (r1.toList ++ rest) M1 k n) : Ev me E d mc ms r Mf pc loc stk M k n := by
  intro D p l e R s m args below meth c Z C Rt H locs ls hH hL hk hn hl
  subst hst
  have hRc := C.2.2.2.2.2.2.2.2.2.1
  have hRs := C.2.2.2.2.2.2.2.2.2.2
  refine mcont (r1 := r1) (M1 := M1) (D := D) (E := E) (rest := rest.map (mtr E)) (va_runS (As := vs.map (mtr E)) (Ts := mT0) (nL := me.2.2.1) ⟨C.1, C.2.1, C.2.2.1, C.2.2.2.1, C.2.2.2.2.1⟩ (hC D l) ⟨mCallB C hM.1 hlk hdd, C.2.2.2.2.1 _ hM.2⟩ ⟨mPc.blind, mPc.at hH C.2.2.2.2.2.1⟩ rfl (by rw [List.length_map]; exact hnp) hl.1 (by simp) (lv_room (mcat E hrest)) hd ⟨by omega, by omega⟩) hL fun H1 locs1 hH1 hL1 => ?_
  have := h D p l e R s m args below meth c Z C Rt H1 locs1 ls hH1 hL1 hk hn hl
  rw [mstk]
  exact this
theorem Ev_callI {me2 : mMe} {idx a np d2 mc2 ms2 : Nat} {vs rest : List Value} (hM : mMi me2 np) (hlk : Cond.methodLink me.1.cls idx me2.1 ∈ mT0 ∨ ∃ host, Cond.methodLinkNest me.1.cls idx me2.1 host ∈ mNw) (hC : EvC me2 E d2 mc2 ms2 (.ref a :: vs) M none M1) (hst : stk = vs.reverse ++ .ref a :: rest) (hnp : vs.length = np) (hdd : d2 + 1 ≤ d) (hkc : k + mc2 ≤ mc) (hns : n + ms2 ≤ ms) (hrest : (rest.map fun v => v.category).sum ≤ 8) (hd : decode me.2.1 pc = .ok (.invokespecial idx, 3)) (h : Ev me E d mc ms r Mf (pc + 3) loc rest M1 (k + mc2) (n + ms2)) : Ev me E d mc ms r Mf pc loc stk M k n := by
  intro D p l e R s m args below meth c Z C Rt H locs ls hH hL hk hn hl
  subst hst
  have hRc := C.2.2.2.2.2.2.2.2.2.1
  have hRs := C.2.2.2.2.2.2.2.2.2.2
  have hRf := C.2.2.2.2.2.2.2.1
  have hRl := C.2.2.2.2.2.2.2.2.1
  have hm := hM.1.2.2.2
  obtain ⟨y2, cc2, L2, ret2⟩ := me2
  obtain ⟨hMd, hin, hini, hrt⟩ := hM
  dsimp only at hrt hini
  subst hrt
  rcases hlk with hlk | ⟨host, hlk⟩
  · refine mcont (r1 := none) (M1 := M1) (D := D) (E := E) (rest := rest.map (mtr E)) (va_runI (As := vs.map (mtr E)) (b := mad E a) (Ts := mT0) (nL := me.2.2.1) ⟨C.1, C.2.1, C.2.2.1, C.2.2.2.1, C.2.2.2.2.1⟩ (hC D l) ⟨mCallB C hMd hlk hdd, hini, C.2.2.2.2.1 _ hin⟩ ⟨mPc.blind, mPc.at (vs := .ref a :: vs) hH C.2.2.2.2.2.1⟩ rfl (by rw [List.length_map]; exact hnp) hl.1 (by simp [mtr]) (lv_room (mcat E hrest)) hd ⟨by omega, by omega⟩) hL fun H1 locs1 hH1 hL1 => ?_
    exact h D p l e R s m args below meth c Z C Rt H1 locs1 ls hH1 hL1 hkc hns hl
  · refine mcont (r1 := none) (M1 := M1) (D := D) (E := E) (rest := rest.map (mtr E)) (va_runIN (As := vs.map (mtr E)) (b := mad E a) (Ts := mT0) (nL := me.2.2.1) (host := host) ⟨C.1, C.2.1, C.2.2.1, C.2.2.2.1, C.2.2.2.2.1⟩ (hC D l) ⟨va_cnB np C.2.2.2.2.1 (mgood hMd.1) rfl rfl rfl (C.2.2.2.2.2.1.2.1 _ hlk) (C.2.2.2.2.1 _ hMd.2.1) hMd.2.2.1 ⟨by show d2 + 1 ≤ _; omega, by show 8 + (L2 + 11) + 40 * d2 ≤ _; dsimp only at hm; omega⟩, hini, C.2.2.2.2.1 _ hin⟩ ⟨mPc.blind, mPc.at (vs := .ref a :: vs) hH C.2.2.2.2.2.1⟩ rfl (by rw [List.length_map]; exact hnp) hl.1 (by simp [mtr]) (lv_room (mcat E hrest)) hd ⟨by omega, by omega⟩) hL fun H1 locs1 hH1 hL1 => ?_
    exact h D p l e R s m args below meth c Z C Rt H1 locs1 ls hH1 hL1 hkc hns hl
end MJ
end
