-- ===== PART A: goes FIRST, ahead of the names: the tables' words, and 'selects' of the private methods out of them =====
/-- a private method of a class that the tables say can be made, by its rows of tables_1 -/
def lw_okq (q : MethodName × Nat) : Prop := (q.1.cls ≠ "java/lang/invoke/MethodHandle" ∧ q.1.cls ≠ "java/lang/invoke/VarHandle") ∧ Cond.instantiable q.1.cls q.2 ∈ tables_1 ∧ Cond.privateMethod q.1 ∈ tables_1 ∧ Cond.instanceMethod q.1 ∈ tables_1
theorem lw_p0 : lw_okq (⟨"HumpYard$Tape", "firstLetterFrom", "(I)I"⟩, 2) := ⟨⟨by decide +kernel, by decide +kernel⟩, List.mem_of_getElem? (i := 106) (by decide +kernel), List.mem_of_getElem? (i := 269) (by decide +kernel), List.mem_of_getElem? (i := 270) (by decide +kernel)⟩
theorem lw_p1 : lw_okq (⟨"HumpYard$Yard", "addWanted", "(II)V"⟩, 12) := ⟨⟨by decide +kernel, by decide +kernel⟩, List.mem_of_getElem? (i := 23) (by decide +kernel), List.mem_of_getElem? (i := 277) (by decide +kernel), List.mem_of_getElem? (i := 278) (by decide +kernel)⟩
theorem lw_p2 : lw_okq (⟨"HumpYard$Yard", "isCut", "(II[I)Z"⟩, 12) := ⟨⟨by decide +kernel, by decide +kernel⟩, List.mem_of_getElem? (i := 23) (by decide +kernel), List.mem_of_getElem? (i := 331) (by decide +kernel), List.mem_of_getElem? (i := 332) (by decide +kernel)⟩
theorem lw_p3 : lw_okq (⟨"HumpYard", "whereIs", "(I)I"⟩, 10) := ⟨⟨by decide +kernel, by decide +kernel⟩, List.mem_of_getElem? (i := 15) (by decide +kernel), List.mem_of_getElem? (i := 339) (by decide +kernel), List.mem_of_getElem? (i := 340) (by decide +kernel)⟩
theorem lw_p4 : lw_okq (⟨"HumpYard", "fewestNow", "()I"⟩, 10) := ⟨⟨by decide +kernel, by decide +kernel⟩, List.mem_of_getElem? (i := 15) (by decide +kernel), List.mem_of_getElem? (i := 348) (by decide +kernel), List.mem_of_getElem? (i := 349) (by decide +kernel)⟩
theorem lw_p5 : lw_okq (⟨"HumpYard", "presortedCode", "(I)I"⟩, 10) := ⟨⟨by decide +kernel, by decide +kernel⟩, List.mem_of_getElem? (i := 15) (by decide +kernel), List.mem_of_getElem? (i := 377) (by decide +kernel), List.mem_of_getElem? (i := 378) (by decide +kernel)⟩
theorem lw_p6 : lw_okq (⟨"HumpYard$Binder", "allowBelow", "(II)V"⟩, 8) := ⟨⟨by decide +kernel, by decide +kernel⟩, List.mem_of_getElem? (i := 153) (by decide +kernel), List.mem_of_getElem? (i := 457) (by decide +kernel), List.mem_of_getElem? (i := 458) (by decide +kernel)⟩
theorem lw_p7 : lw_okq (⟨"HumpYard$Binder", "foresee", "(LHumpYard$Yard;)V"⟩, 8) := ⟨⟨by decide +kernel, by decide +kernel⟩, List.mem_of_getElem? (i := 153) (by decide +kernel), List.mem_of_getElem? (i := 462) (by decide +kernel), List.mem_of_getElem? (i := 463) (by decide +kernel)⟩
theorem lw_p8 : lw_okq (⟨"HumpYard$Binder", "highest", "(LHumpYard$Yard;I)I"⟩, 8) := ⟨⟨by decide +kernel, by decide +kernel⟩, List.mem_of_getElem? (i := 153) (by decide +kernel), List.mem_of_getElem? (i := 466) (by decide +kernel), List.mem_of_getElem? (i := 467) (by decide +kernel)⟩
theorem lw_p9 : lw_okq (⟨"HumpYard$Binder", "choose", "(LHumpYard$Yard;II)V"⟩, 8) := ⟨⟨by decide +kernel, by decide +kernel⟩, List.mem_of_getElem? (i := 153) (by decide +kernel), List.mem_of_getElem? (i := 475) (by decide +kernel), List.mem_of_getElem? (i := 476) (by decide +kernel)⟩
theorem lw_p10 : lw_okq (⟨"HumpYard$Binder", "highFor", "(LHumpYard$Yard;I)I"⟩, 8) := ⟨⟨by decide +kernel, by decide +kernel⟩, List.mem_of_getElem? (i := 153) (by decide +kernel), List.mem_of_getElem? (i := 479) (by decide +kernel), List.mem_of_getElem? (i := 480) (by decide +kernel)⟩
theorem lw_p11 : lw_okq (⟨"HumpYard$Binder", "lowFor", "(LHumpYard$Yard;I)I"⟩, 8) := ⟨⟨by decide +kernel, by decide +kernel⟩, List.mem_of_getElem? (i := 153) (by decide +kernel), List.mem_of_getElem? (i := 483) (by decide +kernel), List.mem_of_getElem? (i := 484) (by decide +kernel)⟩
theorem lw_p12 : lw_okq (⟨"HumpYard$Binder", "addLoad", "(II)V"⟩, 8) := ⟨⟨by decide +kernel, by decide +kernel⟩, List.mem_of_getElem? (i := 153) (by decide +kernel), List.mem_of_getElem? (i := 487) (by decide +kernel), List.mem_of_getElem? (i := 488) (by decide +kernel)⟩
theorem lw_p13 : lw_okq (⟨"HumpYard$Binder", "loadsFit", "([I)Z"⟩, 8) := ⟨⟨by decide +kernel, by decide +kernel⟩, List.mem_of_getElem? (i := 153) (by decide +kernel), List.mem_of_getElem? (i := 491) (by decide +kernel), List.mem_of_getElem? (i := 492) (by decide +kernel)⟩
theorem lw_p14 : lw_okq (⟨"HumpYard", "replayed", "(I)I"⟩, 10) := ⟨⟨by decide +kernel, by decide +kernel⟩, List.mem_of_getElem? (i := 15) (by decide +kernel), List.mem_of_getElem? (i := 574) (by decide +kernel), List.mem_of_getElem? (i := 575) (by decide +kernel)⟩
theorem lw_p15 : lw_okq (⟨"HumpYard", "wrongInThought", "(I)I"⟩, 10) := ⟨⟨by decide +kernel, by decide +kernel⟩, List.mem_of_getElem? (i := 15) (by decide +kernel), List.mem_of_getElem? (i := 582) (by decide +kernel), List.mem_of_getElem? (i := 583) (by decide +kernel)⟩
def lw_privs_1 : List (MethodName × Nat) := [(⟨"HumpYard$Tape", "firstLetterFrom", "(I)I"⟩, 2), (⟨"HumpYard$Yard", "addWanted", "(II)V"⟩, 12), (⟨"HumpYard$Yard", "isCut", "(II[I)Z"⟩, 12), (⟨"HumpYard", "whereIs", "(I)I"⟩, 10), (⟨"HumpYard", "fewestNow", "()I"⟩, 10), (⟨"HumpYard", "presortedCode", "(I)I"⟩, 10), (⟨"HumpYard$Binder", "allowBelow", "(II)V"⟩, 8), (⟨"HumpYard$Binder", "foresee", "(LHumpYard$Yard;)V"⟩, 8), (⟨"HumpYard$Binder", "highest", "(LHumpYard$Yard;I)I"⟩, 8), (⟨"HumpYard$Binder", "choose", "(LHumpYard$Yard;II)V"⟩, 8), (⟨"HumpYard$Binder", "highFor", "(LHumpYard$Yard;I)I"⟩, 8), (⟨"HumpYard$Binder", "lowFor", "(LHumpYard$Yard;I)I"⟩, 8), (⟨"HumpYard$Binder", "addLoad", "(II)V"⟩, 8), (⟨"HumpYard$Binder", "loadsFit", "([I)Z"⟩, 8), (⟨"HumpYard", "replayed", "(I)I"⟩, 10), (⟨"HumpYard", "wrongInThought", "(I)I"⟩, 10)]
theorem lw_r1 : ∀ q ∈ lw_privs_1, lw_okq q := List.forall_mem_cons.mpr ⟨lw_p0, List.forall_mem_cons.mpr ⟨lw_p1, List.forall_mem_cons.mpr ⟨lw_p2, List.forall_mem_cons.mpr ⟨lw_p3, List.forall_mem_cons.mpr ⟨lw_p4, List.forall_mem_cons.mpr ⟨lw_p5, List.forall_mem_cons.mpr ⟨lw_p6, List.forall_mem_cons.mpr ⟨lw_p7, List.forall_mem_cons.mpr ⟨lw_p8, List.forall_mem_cons.mpr ⟨lw_p9, List.forall_mem_cons.mpr ⟨lw_p10, List.forall_mem_cons.mpr ⟨lw_p11, List.forall_mem_cons.mpr ⟨lw_p12, List.forall_mem_cons.mpr ⟨lw_p13, List.forall_mem_cons.mpr ⟨lw_p14, List.forall_mem_cons.mpr ⟨lw_p15, fun _ h => absurd h List.not_mem_nil⟩⟩⟩⟩⟩⟩⟩⟩⟩⟩⟩⟩⟩⟩⟩⟩
theorem lw_p16 : lw_okq (⟨"HumpYard", "spellPull", "(I)V"⟩, 10) := ⟨⟨by decide +kernel, by decide +kernel⟩, List.mem_of_getElem? (i := 15) (by decide +kernel), List.mem_of_getElem? (i := 601) (by decide +kernel), List.mem_of_getElem? (i := 602) (by decide +kernel)⟩
theorem lw_p17 : lw_okq (⟨"HumpYard$Renumbering", "moveTo", "(III)V"⟩, 5) := ⟨⟨by decide +kernel, by decide +kernel⟩, List.mem_of_getElem? (i := 185) (by decide +kernel), List.mem_of_getElem? (i := 619) (by decide +kernel), List.mem_of_getElem? (i := 620) (by decide +kernel)⟩
theorem lw_p18 : lw_okq (⟨"HumpYard", "tellsOut", "(II)Z"⟩, 10) := ⟨⟨by decide +kernel, by decide +kernel⟩, List.mem_of_getElem? (i := 15) (by decide +kernel), List.mem_of_getElem? (i := 654) (by decide +kernel), List.mem_of_getElem? (i := 655) (by decide +kernel)⟩
theorem lw_p19 : lw_okq (⟨"HumpYardModel", "yardFault", "()I"⟩, 20) := ⟨⟨by decide +kernel, by decide +kernel⟩, List.mem_of_getElem? (i := 714) (by decide +kernel), List.mem_of_getElem? (i := 794) (by decide +kernel), List.mem_of_getElem? (i := 795) (by decide +kernel)⟩
theorem lw_p20 : lw_okq (⟨"HumpYardModel", "clears", "()V"⟩, 20) := ⟨⟨by decide +kernel, by decide +kernel⟩, List.mem_of_getElem? (i := 714) (by decide +kernel), List.mem_of_getElem? (i := 805) (by decide +kernel), List.mem_of_getElem? (i := 806) (by decide +kernel)⟩
theorem lw_p21 : lw_okq (⟨"HumpYardModel", "isWagon", "(I)Z"⟩, 20) := ⟨⟨by decide +kernel, by decide +kernel⟩, List.mem_of_getElem? (i := 714) (by decide +kernel), List.mem_of_getElem? (i := 819) (by decide +kernel), List.mem_of_getElem? (i := 820) (by decide +kernel)⟩
theorem lw_p22 : lw_okq (⟨"HumpYardModel", "placeOf", "(I)I"⟩, 20) := ⟨⟨by decide +kernel, by decide +kernel⟩, List.mem_of_getElem? (i := 714) (by decide +kernel), List.mem_of_getElem? (i := 841) (by decide +kernel), List.mem_of_getElem? (i := 842) (by decide +kernel)⟩
theorem lw_p23 : lw_okq (⟨"HumpYardModel", "wantedAt", "(II)I"⟩, 20) := ⟨⟨by decide +kernel, by decide +kernel⟩, List.mem_of_getElem? (i := 714) (by decide +kernel), List.mem_of_getElem? (i := 845) (by decide +kernel), List.mem_of_getElem? (i := 846) (by decide +kernel)⟩
theorem lw_p24 : lw_okq (⟨"HumpYardModel", "chainOf", "(I)I"⟩, 20) := ⟨⟨by decide +kernel, by decide +kernel⟩, List.mem_of_getElem? (i := 714) (by decide +kernel), List.mem_of_getElem? (i := 849) (by decide +kernel), List.mem_of_getElem? (i := 850) (by decide +kernel)⟩
theorem lw_p25 : lw_okq (⟨"HumpYardModel", "whereIs", "(I)I"⟩, 20) := ⟨⟨by decide +kernel, by decide +kernel⟩, List.mem_of_getElem? (i := 714) (by decide +kernel), List.mem_of_getElem? (i := 853) (by decide +kernel), List.mem_of_getElem? (i := 854) (by decide +kernel)⟩
theorem lw_p26 : lw_okq (⟨"HumpYardModel", "fewestNow", "()I"⟩, 20) := ⟨⟨by decide +kernel, by decide +kernel⟩, List.mem_of_getElem? (i := 714) (by decide +kernel), List.mem_of_getElem? (i := 857) (by decide +kernel), List.mem_of_getElem? (i := 858) (by decide +kernel)⟩
theorem lw_p27 : lw_okq (⟨"HumpYardModel", "asTheyAre", "()V"⟩, 20) := ⟨⟨by decide +kernel, by decide +kernel⟩, List.mem_of_getElem? (i := 714) (by decide +kernel), List.mem_of_getElem? (i := 861) (by decide +kernel), List.mem_of_getElem? (i := 862) (by decide +kernel)⟩
theorem lw_p28 : lw_okq (⟨"HumpYardModel", "need", "()I"⟩, 20) := ⟨⟨by decide +kernel, by decide +kernel⟩, List.mem_of_getElem? (i := 714) (by decide +kernel), List.mem_of_getElem? (i := 865) (by decide +kernel), List.mem_of_getElem? (i := 866) (by decide +kernel)⟩
theorem lw_p29 : lw_okq (⟨"HumpYardModel", "chainsOf", "(I)I"⟩, 20) := ⟨⟨by decide +kernel, by decide +kernel⟩, List.mem_of_getElem? (i := 714) (by decide +kernel), List.mem_of_getElem? (i := 869) (by decide +kernel), List.mem_of_getElem? (i := 870) (by decide +kernel)⟩
theorem lw_p30 : lw_okq (⟨"HumpYardModel", "fewestFor", "(I)I"⟩, 20) := ⟨⟨by decide +kernel, by decide +kernel⟩, List.mem_of_getElem? (i := 714) (by decide +kernel), List.mem_of_getElem? (i := 873) (by decide +kernel), List.mem_of_getElem? (i := 874) (by decide +kernel)⟩
theorem lw_p31 : lw_okq (⟨"HumpYardModel", "codeOf", "(I)I"⟩, 20) := ⟨⟨by decide +kernel, by decide +kernel⟩, List.mem_of_getElem? (i := 714) (by decide +kernel), List.mem_of_getElem? (i := 880) (by decide +kernel), List.mem_of_getElem? (i := 881) (by decide +kernel)⟩
def lw_privs_2 : List (MethodName × Nat) := [(⟨"HumpYard", "spellPull", "(I)V"⟩, 10), (⟨"HumpYard$Renumbering", "moveTo", "(III)V"⟩, 5), (⟨"HumpYard", "tellsOut", "(II)Z"⟩, 10), (⟨"HumpYardModel", "yardFault", "()I"⟩, 20), (⟨"HumpYardModel", "clears", "()V"⟩, 20), (⟨"HumpYardModel", "isWagon", "(I)Z"⟩, 20), (⟨"HumpYardModel", "placeOf", "(I)I"⟩, 20), (⟨"HumpYardModel", "wantedAt", "(II)I"⟩, 20), (⟨"HumpYardModel", "chainOf", "(I)I"⟩, 20), (⟨"HumpYardModel", "whereIs", "(I)I"⟩, 20), (⟨"HumpYardModel", "fewestNow", "()I"⟩, 20), (⟨"HumpYardModel", "asTheyAre", "()V"⟩, 20), (⟨"HumpYardModel", "need", "()I"⟩, 20), (⟨"HumpYardModel", "chainsOf", "(I)I"⟩, 20), (⟨"HumpYardModel", "fewestFor", "(I)I"⟩, 20), (⟨"HumpYardModel", "codeOf", "(I)I"⟩, 20)]
theorem lw_r2 : ∀ q ∈ lw_privs_2, lw_okq q := List.forall_mem_cons.mpr ⟨lw_p16, List.forall_mem_cons.mpr ⟨lw_p17, List.forall_mem_cons.mpr ⟨lw_p18, List.forall_mem_cons.mpr ⟨lw_p19, List.forall_mem_cons.mpr ⟨lw_p20, List.forall_mem_cons.mpr ⟨lw_p21, List.forall_mem_cons.mpr ⟨lw_p22, List.forall_mem_cons.mpr ⟨lw_p23, List.forall_mem_cons.mpr ⟨lw_p24, List.forall_mem_cons.mpr ⟨lw_p25, List.forall_mem_cons.mpr ⟨lw_p26, List.forall_mem_cons.mpr ⟨lw_p27, List.forall_mem_cons.mpr ⟨lw_p28, List.forall_mem_cons.mpr ⟨lw_p29, List.forall_mem_cons.mpr ⟨lw_p30, List.forall_mem_cons.mpr ⟨lw_p31, fun _ h => absurd h List.not_mem_nil⟩⟩⟩⟩⟩⟩⟩⟩⟩⟩⟩⟩⟩⟩⟩⟩
theorem lw_p32 : lw_okq (⟨"HumpYardModel", "lengthsOn", "(I)I"⟩, 20) := ⟨⟨by decide +kernel, by decide +kernel⟩, List.mem_of_getElem? (i := 714) (by decide +kernel), List.mem_of_getElem? (i := 896) (by decide +kernel), List.mem_of_getElem? (i := 897) (by decide +kernel)⟩
theorem lw_p33 : lw_okq (⟨"HumpYardModel", "loadOf", "(I)I"⟩, 20) := ⟨⟨by decide +kernel, by decide +kernel⟩, List.mem_of_getElem? (i := 714) (by decide +kernel), List.mem_of_getElem? (i := 900) (by decide +kernel), List.mem_of_getElem? (i := 901) (by decide +kernel)⟩
theorem lw_p34 : lw_okq (⟨"HumpYardModel", "mayAll", "()I"⟩, 20) := ⟨⟨by decide +kernel, by decide +kernel⟩, List.mem_of_getElem? (i := 714) (by decide +kernel), List.mem_of_getElem? (i := 913) (by decide +kernel), List.mem_of_getElem? (i := 914) (by decide +kernel)⟩
theorem lw_p35 : lw_okq (⟨"HumpYardModel", "stepsNow", "()I"⟩, 20) := ⟨⟨by decide +kernel, by decide +kernel⟩, List.mem_of_getElem? (i := 714) (by decide +kernel), List.mem_of_getElem? (i := 922) (by decide +kernel), List.mem_of_getElem? (i := 923) (by decide +kernel)⟩
theorem lw_p36 : lw_okq (⟨"HumpYardModel", "notRight", "()I"⟩, 20) := ⟨⟨by decide +kernel, by decide +kernel⟩, List.mem_of_getElem? (i := 714) (by decide +kernel), List.mem_of_getElem? (i := 933) (by decide +kernel), List.mem_of_getElem? (i := 934) (by decide +kernel)⟩
theorem lw_p37 : lw_okq (⟨"HumpYardModel", "mayAllCodes", "()Z"⟩, 20) := ⟨⟨by decide +kernel, by decide +kernel⟩, List.mem_of_getElem? (i := 714) (by decide +kernel), List.mem_of_getElem? (i := 937) (by decide +kernel), List.mem_of_getElem? (i := 938) (by decide +kernel)⟩
theorem lw_p38 : lw_okq (⟨"HumpYardModel", "tooLoaded", "()I"⟩, 20) := ⟨⟨by decide +kernel, by decide +kernel⟩, List.mem_of_getElem? (i := 714) (by decide +kernel), List.mem_of_getElem? (i := 941) (by decide +kernel), List.mem_of_getElem? (i := 942) (by decide +kernel)⟩
theorem lw_p39 : lw_okq (⟨"HumpYardModel", "rollsNow", "()I"⟩, 20) := ⟨⟨by decide +kernel, by decide +kernel⟩, List.mem_of_getElem? (i := 714) (by decide +kernel), List.mem_of_getElem? (i := 945) (by decide +kernel), List.mem_of_getElem? (i := 946) (by decide +kernel)⟩
theorem lw_p40 : lw_okq (⟨"HumpYardModel", "findBounded", "()V"⟩, 20) := ⟨⟨by decide +kernel, by decide +kernel⟩, List.mem_of_getElem? (i := 714) (by decide +kernel), List.mem_of_getElem? (i := 953) (by decide +kernel), List.mem_of_getElem? (i := 954) (by decide +kernel)⟩
theorem lw_p41 : lw_okq (⟨"HumpYardModel", "orders", "()V"⟩, 20) := ⟨⟨by decide +kernel, by decide +kernel⟩, List.mem_of_getElem? (i := 714) (by decide +kernel), List.mem_of_getElem? (i := 957) (by decide +kernel), List.mem_of_getElem? (i := 958) (by decide +kernel)⟩
theorem lw_p42 : lw_okq (⟨"HumpYardModel", "isBest", "()V"⟩, 20) := ⟨⟨by decide +kernel, by decide +kernel⟩, List.mem_of_getElem? (i := 714) (by decide +kernel), List.mem_of_getElem? (i := 961) (by decide +kernel), List.mem_of_getElem? (i := 962) (by decide +kernel)⟩
theorem lw_p43 : lw_okq (⟨"HumpYardModel", "goesOn", "(I)Z"⟩, 20) := ⟨⟨by decide +kernel, by decide +kernel⟩, List.mem_of_getElem? (i := 714) (by decide +kernel), List.mem_of_getElem? (i := 965) (by decide +kernel), List.mem_of_getElem? (i := 966) (by decide +kernel)⟩
theorem lw_p44 : lw_okq (⟨"HumpYardModel", "loads", "(II)V"⟩, 20) := ⟨⟨by decide +kernel, by decide +kernel⟩, List.mem_of_getElem? (i := 714) (by decide +kernel), List.mem_of_getElem? (i := 969) (by decide +kernel), List.mem_of_getElem? (i := 970) (by decide +kernel)⟩
theorem lw_p45 : lw_okq (⟨"HumpYardModel", "isRoomy", "()Z"⟩, 20) := ⟨⟨by decide +kernel, by decide +kernel⟩, List.mem_of_getElem? (i := 714) (by decide +kernel), List.mem_of_getElem? (i := 973) (by decide +kernel), List.mem_of_getElem? (i := 974) (by decide +kernel)⟩
theorem lw_p46 : lw_okq (⟨"HumpYardModel", "isHopeless", "(I)Z"⟩, 20) := ⟨⟨by decide +kernel, by decide +kernel⟩, List.mem_of_getElem? (i := 714) (by decide +kernel), List.mem_of_getElem? (i := 977) (by decide +kernel), List.mem_of_getElem? (i := 978) (by decide +kernel)⟩
theorem lw_p47 : lw_okq (⟨"HumpYardModel", "lowAt", "(I)I"⟩, 20) := ⟨⟨by decide +kernel, by decide +kernel⟩, List.mem_of_getElem? (i := 714) (by decide +kernel), List.mem_of_getElem? (i := 981) (by decide +kernel), List.mem_of_getElem? (i := 982) (by decide +kernel)⟩
def lw_privs_3 : List (MethodName × Nat) := [(⟨"HumpYardModel", "lengthsOn", "(I)I"⟩, 20), (⟨"HumpYardModel", "loadOf", "(I)I"⟩, 20), (⟨"HumpYardModel", "mayAll", "()I"⟩, 20), (⟨"HumpYardModel", "stepsNow", "()I"⟩, 20), (⟨"HumpYardModel", "notRight", "()I"⟩, 20), (⟨"HumpYardModel", "mayAllCodes", "()Z"⟩, 20), (⟨"HumpYardModel", "tooLoaded", "()I"⟩, 20), (⟨"HumpYardModel", "rollsNow", "()I"⟩, 20), (⟨"HumpYardModel", "findBounded", "()V"⟩, 20), (⟨"HumpYardModel", "orders", "()V"⟩, 20), (⟨"HumpYardModel", "isBest", "()V"⟩, 20), (⟨"HumpYardModel", "goesOn", "(I)Z"⟩, 20), (⟨"HumpYardModel", "loads", "(II)V"⟩, 20), (⟨"HumpYardModel", "isRoomy", "()Z"⟩, 20), (⟨"HumpYardModel", "isHopeless", "(I)Z"⟩, 20), (⟨"HumpYardModel", "lowAt", "(I)I"⟩, 20)]
theorem lw_r3 : ∀ q ∈ lw_privs_3, lw_okq q := List.forall_mem_cons.mpr ⟨lw_p32, List.forall_mem_cons.mpr ⟨lw_p33, List.forall_mem_cons.mpr ⟨lw_p34, List.forall_mem_cons.mpr ⟨lw_p35, List.forall_mem_cons.mpr ⟨lw_p36, List.forall_mem_cons.mpr ⟨lw_p37, List.forall_mem_cons.mpr ⟨lw_p38, List.forall_mem_cons.mpr ⟨lw_p39, List.forall_mem_cons.mpr ⟨lw_p40, List.forall_mem_cons.mpr ⟨lw_p41, List.forall_mem_cons.mpr ⟨lw_p42, List.forall_mem_cons.mpr ⟨lw_p43, List.forall_mem_cons.mpr ⟨lw_p44, List.forall_mem_cons.mpr ⟨lw_p45, List.forall_mem_cons.mpr ⟨lw_p46, List.forall_mem_cons.mpr ⟨lw_p47, fun _ h => absurd h List.not_mem_nil⟩⟩⟩⟩⟩⟩⟩⟩⟩⟩⟩⟩⟩⟩⟩⟩
theorem lw_p48 : lw_okq (⟨"HumpYardModel", "isBetter", "()Z"⟩, 20) := ⟨⟨by decide +kernel, by decide +kernel⟩, List.mem_of_getElem? (i := 714) (by decide +kernel), List.mem_of_getElem? (i := 985) (by decide +kernel), List.mem_of_getElem? (i := 986) (by decide +kernel)⟩
theorem lw_p49 : lw_okq (⟨"HumpYardModel", "copies", "([I[I)V"⟩, 20) := ⟨⟨by decide +kernel, by decide +kernel⟩, List.mem_of_getElem? (i := 714) (by decide +kernel), List.mem_of_getElem? (i := 1008) (by decide +kernel), List.mem_of_getElem? (i := 1009) (by decide +kernel)⟩
theorem lw_p50 : lw_okq (⟨"HumpYardModel", "humps", "()V"⟩, 20) := ⟨⟨by decide +kernel, by decide +kernel⟩, List.mem_of_getElem? (i := 714) (by decide +kernel), List.mem_of_getElem? (i := 1012) (by decide +kernel), List.mem_of_getElem? (i := 1013) (by decide +kernel)⟩
theorem lw_p51 : lw_okq (⟨"HumpYardModel", "rolls", "(II)V"⟩, 20) := ⟨⟨by decide +kernel, by decide +kernel⟩, List.mem_of_getElem? (i := 714) (by decide +kernel), List.mem_of_getElem? (i := 1016) (by decide +kernel), List.mem_of_getElem? (i := 1017) (by decide +kernel)⟩
theorem lw_p52 : lw_okq (⟨"HumpYardModel", "says", "(I)V"⟩, 20) := ⟨⟨by decide +kernel, by decide +kernel⟩, List.mem_of_getElem? (i := 714) (by decide +kernel), List.mem_of_getElem? (i := 1020) (by decide +kernel), List.mem_of_getElem? (i := 1021) (by decide +kernel)⟩
theorem lw_p53 : lw_okq (⟨"HumpYardModel", "isOver", "()Z"⟩, 20) := ⟨⟨by decide +kernel, by decide +kernel⟩, List.mem_of_getElem? (i := 714) (by decide +kernel), List.mem_of_getElem? (i := 1024) (by decide +kernel), List.mem_of_getElem? (i := 1025) (by decide +kernel)⟩
theorem lw_p54 : lw_okq (⟨"HumpYardModel", "outs", "()I"⟩, 20) := ⟨⟨by decide +kernel, by decide +kernel⟩, List.mem_of_getElem? (i := 714) (by decide +kernel), List.mem_of_getElem? (i := 1028) (by decide +kernel), List.mem_of_getElem? (i := 1029) (by decide +kernel)⟩
theorem lw_p55 : lw_okq (⟨"HumpYardModel", "pulls", "(I)V"⟩, 20) := ⟨⟨by decide +kernel, by decide +kernel⟩, List.mem_of_getElem? (i := 714) (by decide +kernel), List.mem_of_getElem? (i := 1036) (by decide +kernel), List.mem_of_getElem? (i := 1037) (by decide +kernel)⟩
theorem lw_p56 : lw_okq (⟨"HumpYardModel", "wrongOf", "(I)I"⟩, 20) := ⟨⟨by decide +kernel, by decide +kernel⟩, List.mem_of_getElem? (i := 714) (by decide +kernel), List.mem_of_getElem? (i := 1052) (by decide +kernel), List.mem_of_getElem? (i := 1053) (by decide +kernel)⟩
theorem lw_p57 : lw_okq (⟨"HumpYardModel", "pullsFault", "()I"⟩, 20) := ⟨⟨by decide +kernel, by decide +kernel⟩, List.mem_of_getElem? (i := 714) (by decide +kernel), List.mem_of_getElem? (i := 1061) (by decide +kernel), List.mem_of_getElem? (i := 1062) (by decide +kernel)⟩
theorem lw_p58 : lw_okq (⟨"HumpYardModel", "replayed", "(II)I"⟩, 20) := ⟨⟨by decide +kernel, by decide +kernel⟩, List.mem_of_getElem? (i := 714) (by decide +kernel), List.mem_of_getElem? (i := 1066) (by decide +kernel), List.mem_of_getElem? (i := 1067) (by decide +kernel)⟩
theorem lw_p59 : lw_okq (⟨"HumpYardModel", "wholeRun", "()V"⟩, 20) := ⟨⟨by decide +kernel, by decide +kernel⟩, List.mem_of_getElem? (i := 714) (by decide +kernel), List.mem_of_getElem? (i := 1074) (by decide +kernel), List.mem_of_getElem? (i := 1075) (by decide +kernel)⟩
theorem lw_p60 : lw_okq (⟨"HumpYardModel", "moves", "(II)V"⟩, 20) := ⟨⟨by decide +kernel, by decide +kernel⟩, List.mem_of_getElem? (i := 714) (by decide +kernel), List.mem_of_getElem? (i := 1086) (by decide +kernel), List.mem_of_getElem? (i := 1087) (by decide +kernel)⟩
theorem lw_p61 : lw_okq (⟨"HumpYardModel", "draws", "(I)V"⟩, 20) := ⟨⟨by decide +kernel, by decide +kernel⟩, List.mem_of_getElem? (i := 714) (by decide +kernel), List.mem_of_getElem? (i := 1094) (by decide +kernel), List.mem_of_getElem? (i := 1095) (by decide +kernel)⟩
theorem lw_p62 : lw_okq (⟨"HumpYardModel", "isSeen", "(II)Z"⟩, 20) := ⟨⟨by decide +kernel, by decide +kernel⟩, List.mem_of_getElem? (i := 714) (by decide +kernel), List.mem_of_getElem? (i := 1112) (by decide +kernel), List.mem_of_getElem? (i := 1113) (by decide +kernel)⟩
theorem lw_p63 : lw_okq (⟨"HumpYardModel", "judged", "()I"⟩, 20) := ⟨⟨by decide +kernel, by decide +kernel⟩, List.mem_of_getElem? (i := 714) (by decide +kernel), List.mem_of_getElem? (i := 1120) (by decide +kernel), List.mem_of_getElem? (i := 1121) (by decide +kernel)⟩
def lw_privs_4 : List (MethodName × Nat) := [(⟨"HumpYardModel", "isBetter", "()Z"⟩, 20), (⟨"HumpYardModel", "copies", "([I[I)V"⟩, 20), (⟨"HumpYardModel", "humps", "()V"⟩, 20), (⟨"HumpYardModel", "rolls", "(II)V"⟩, 20), (⟨"HumpYardModel", "says", "(I)V"⟩, 20), (⟨"HumpYardModel", "isOver", "()Z"⟩, 20), (⟨"HumpYardModel", "outs", "()I"⟩, 20), (⟨"HumpYardModel", "pulls", "(I)V"⟩, 20), (⟨"HumpYardModel", "wrongOf", "(I)I"⟩, 20), (⟨"HumpYardModel", "pullsFault", "()I"⟩, 20), (⟨"HumpYardModel", "replayed", "(II)I"⟩, 20), (⟨"HumpYardModel", "wholeRun", "()V"⟩, 20), (⟨"HumpYardModel", "moves", "(II)V"⟩, 20), (⟨"HumpYardModel", "draws", "(I)V"⟩, 20), (⟨"HumpYardModel", "isSeen", "(II)Z"⟩, 20), (⟨"HumpYardModel", "judged", "()I"⟩, 20)]
theorem lw_r4 : ∀ q ∈ lw_privs_4, lw_okq q := List.forall_mem_cons.mpr ⟨lw_p48, List.forall_mem_cons.mpr ⟨lw_p49, List.forall_mem_cons.mpr ⟨lw_p50, List.forall_mem_cons.mpr ⟨lw_p51, List.forall_mem_cons.mpr ⟨lw_p52, List.forall_mem_cons.mpr ⟨lw_p53, List.forall_mem_cons.mpr ⟨lw_p54, List.forall_mem_cons.mpr ⟨lw_p55, List.forall_mem_cons.mpr ⟨lw_p56, List.forall_mem_cons.mpr ⟨lw_p57, List.forall_mem_cons.mpr ⟨lw_p58, List.forall_mem_cons.mpr ⟨lw_p59, List.forall_mem_cons.mpr ⟨lw_p60, List.forall_mem_cons.mpr ⟨lw_p61, List.forall_mem_cons.mpr ⟨lw_p62, List.forall_mem_cons.mpr ⟨lw_p63, fun _ h => absurd h List.not_mem_nil⟩⟩⟩⟩⟩⟩⟩⟩⟩⟩⟩⟩⟩⟩⟩⟩
theorem lw_p64 : lw_okq (⟨"HumpYardModel", "lying", "()I"⟩, 20) := ⟨⟨by decide +kernel, by decide +kernel⟩, List.mem_of_getElem? (i := 714) (by decide +kernel), List.mem_of_getElem? (i := 1152) (by decide +kernel), List.mem_of_getElem? (i := 1153) (by decide +kernel)⟩
def lw_privs_5 : List (MethodName × Nat) := [(⟨"HumpYardModel", "lying", "()I"⟩, 20)]
theorem lw_r5 : ∀ q ∈ lw_privs_5, lw_okq q := List.forall_mem_cons.mpr ⟨lw_p64, fun _ h => absurd h List.not_mem_nil⟩
def lw_privs : List (MethodName × Nat) := lw_privs_1 ++ (lw_privs_2 ++ (lw_privs_3 ++ (lw_privs_4 ++ (lw_privs_5))))
def lw_tbl : List Cond := k2_sels lw_privs ++ tables_1
theorem lw_privs_ok : ∀ q ∈ lw_privs, lw_okq q := by
  show ∀ q ∈ lw_privs_1 ++ (lw_privs_2 ++ (lw_privs_3 ++ (lw_privs_4 ++ (lw_privs_5)))), lw_okq q
  exact List.forall_mem_append.mpr ⟨lw_r1, List.forall_mem_append.mpr ⟨lw_r2, List.forall_mem_append.mpr ⟨lw_r3, List.forall_mem_append.mpr ⟨lw_r4, lw_r5⟩⟩⟩⟩
-- ===== end of PART A; then your names; then what follows =====
/-! ===== BEGIN words of one list among another's, by their places ===== -/
theorem goodIn_r {big : List Cond} (ws : List Cond) (ps : List Nat) (hp : ws = ps.filterMap (fun i => big[i]?)) (h : ws.all goodWord = true) : GoodIn big ws := by
  intro w hw
  have h1 := List.all_eq_true.mp h w hw
  rw [hp] at hw
  obtain ⟨i, -, hi⟩ := List.mem_filterMap.mp hw
  have hm : w ∈ big := by first | exact List.mem_of_getElem? hi | exact List.getElem?_mem hi
  exact ⟨hm, good_of_word h1⟩
theorem goodIn_app {big a b : List Cond} (ha : GoodIn big a) (hb : GoodIn big b) : GoodIn big (a ++ b) := fun w h => (List.mem_append.mp h).elim (ha w) (hb w)
theorem goodIn_ca {big a b : List Cond} {c : Cond} (ha : GoodIn big (c :: a)) (hb : GoodIn big b) : GoodIn big (c :: (a ++ b)) := fun w h => (List.mem_cons.mp h).elim (fun e => ha w (List.mem_cons.mpr (Or.inl e))) (fun h => (List.mem_append.mp h).elim (fun h => ha w (List.mem_cons.mpr (Or.inr h))) (hb w))
theorem goodIn_sub {big ws : List Cond} (hm : ∀ w ∈ ws, w ∈ big) (h : ws.all goodWord = true) : GoodIn big ws := fun w hw => ⟨hm w hw, good_of_word (List.all_eq_true.mp h w hw)⟩
/-! ===== END ===== -/

def RX0 : String := "HumpYard$Binder"
def TX0 : u_T := fun k => match k with
  | 0 => ("HumpYard$Binder", "allowed", "[I", true)
  | 1 => ("HumpYard$Binder", "ranks", "I", false)
  | 2 => ("HumpYard$Binder", "chain", "[I", true)
  | 3 => ("HumpYard$Binder", "chosen", "[I", true)
  | 4 => ("HumpYard$Binder", "load", "[I", true)
  | 5 => ("HumpYard$Binder", "onesFrom", "[I", true)
  | 6 => ("HumpYard$Binder", "bestOnes", "I", false)
  | _ => ("HumpYard$Binder", "best", "[I", true)
def tyX0 : Nat → FieldType := fun k => match k with
  | 0 => .array .int
  | 1 => .int
  | 2 => .array .int
  | 3 => .array .int
  | 4 => .array .int
  | 5 => .array .int
  | 6 => .int
  | _ => .array .int
abbrev wsX00 : List Cond := u_ws RX0 TX0 8
theorem nmX0 : ∀ a, a < 8 → ∀ b, b < 8 → a ≠ b → (TX0 a).2.1 ≠ (TX0 b).2.1 := by decide +kernel
theorem tyX0_ok : ∀ k, k < 8 → parseFieldDescriptor (TX0 k).2.2.1 = some (tyX0 k) := by decide +kernel
abbrev cX0_init : ByteArray := prog_2_method_1_code
def yX0_init : MethodName := ⟨RX0, "<init>", "()V"⟩
abbrev cX0_findBest : ByteArray := prog_2_method_2_code
def yX0_findBest : MethodName := ⟨RX0, "findBest", "(LHumpYard$Yard;)Z"⟩
abbrev cX0_allowBelow : ByteArray := prog_2_method_3_code
def yX0_allowBelow : MethodName := ⟨RX0, "allowBelow", "(II)V"⟩
abbrev cX0_foresee : ByteArray := prog_2_method_4_code
def yX0_foresee : MethodName := ⟨RX0, "foresee", "(LHumpYard$Yard;)V"⟩
abbrev cX0_highest : ByteArray := prog_2_method_5_code
def yX0_highest : MethodName := ⟨RX0, "highest", "(LHumpYard$Yard;I)I"⟩
abbrev cX0_lowFor : ByteArray := prog_2_method_6_code
def yX0_lowFor : MethodName := ⟨RX0, "lowFor", "(LHumpYard$Yard;I)I"⟩
abbrev cX0_highFor : ByteArray := prog_2_method_7_code
def yX0_highFor : MethodName := ⟨RX0, "highFor", "(LHumpYard$Yard;I)I"⟩
abbrev cX0_choose : ByteArray := prog_2_method_8_code
def yX0_choose : MethodName := ⟨RX0, "choose", "(LHumpYard$Yard;II)V"⟩
abbrev cX0_addLoad : ByteArray := prog_2_method_9_code
def yX0_addLoad : MethodName := ⟨RX0, "addLoad", "(II)V"⟩
abbrev cX0_loadsFit : ByteArray := prog_2_method_10_code
def yX0_loadsFit : MethodName := ⟨RX0, "loadsFit", "([I)Z"⟩
def RX1 : String := "HumpYard$Brands"
def TX1 : u_T := fun k => match k with
  | _ => ("", "", "", false)
def tyX1 : Nat → FieldType := fun k => match k with
  | _ => .int
abbrev wsX10 : List Cond := u_ws RX1 TX1 0
theorem nmX1 : ∀ a, a < 0 → ∀ b, b < 0 → a ≠ b → (TX1 a).2.1 ≠ (TX1 b).2.1 := by decide +kernel
theorem tyX1_ok : ∀ k, k < 0 → parseFieldDescriptor (TX1 k).2.2.1 = some (tyX1 k) := by decide +kernel
abbrev cX1_mayBe : ByteArray := prog_3_method_2_code
def yX1_mayBe : MethodName := ⟨RX1, "mayBe", "(II)Z"⟩
abbrev cX1_howMany : ByteArray := prog_3_method_3_code
def yX1_howMany : MethodName := ⟨RX1, "howMany", "(I)I"⟩
abbrev cX1_codeOfRank : ByteArray := prog_3_method_4_code
def yX1_codeOfRank : MethodName := ⟨RX1, "codeOfRank", "(II)I"⟩
abbrev cX1_fewestFor : ByteArray := prog_3_method_5_code
def yX1_fewestFor : MethodName := ⟨RX1, "fewestFor", "(II)I"⟩
abbrev cX1_widthOf : ByteArray := prog_3_method_6_code
def yX1_widthOf : MethodName := ⟨RX1, "widthOf", "(I)I"⟩
def RX2 : String := "HumpYard$Lanes"
def TX2 : u_T := fun k => match k with
  | 0 => ("HumpYard$Lanes", "rows", "[[I", true)
  | _ => ("HumpYard$Lanes", "counts", "[I", true)
def tyX2 : Nat → FieldType := fun k => match k with
  | 0 => .array (.array .int)
  | _ => .array .int
abbrev wsX20 : List Cond := u_ws RX2 TX2 2
theorem nmX2 : ∀ a, a < 2 → ∀ b, b < 2 → a ≠ b → (TX2 a).2.1 ≠ (TX2 b).2.1 := by decide +kernel
theorem tyX2_ok : ∀ k, k < 2 → parseFieldDescriptor (TX2 k).2.2.1 = some (tyX2 k) := by decide +kernel
abbrev cX2_init : ByteArray := prog_4_method_1_code
def yX2_init : MethodName := ⟨RX2, "<init>", "()V"⟩
abbrev cX2_outOf : ByteArray := prog_4_method_2_code
def yX2_outOf : MethodName := ⟨RX2, "outOf", "(I)I"⟩
abbrev cX2_empty : ByteArray := prog_4_method_3_code
def yX2_empty : MethodName := ⟨RX2, "empty", "()V"⟩
abbrev cX2_become : ByteArray := prog_4_method_4_code
def yX2_become : MethodName := ⟨RX2, "become", "(LHumpYard$Lanes;)V"⟩
abbrev cX2_append : ByteArray := prog_4_method_5_code
def yX2_append : MethodName := ⟨RX2, "append", "(II)V"⟩
abbrev cX2_wagonAt : ByteArray := prog_4_method_6_code
def yX2_wagonAt : MethodName := ⟨RX2, "wagonAt", "(II)I"⟩
abbrev cX2_laneOf : ByteArray := prog_4_method_7_code
def yX2_laneOf : MethodName := ⟨RX2, "laneOf", "(I)I"⟩
abbrev cX2_countOut : ByteArray := prog_4_method_8_code
def yX2_countOut : MethodName := ⟨RX2, "countOut", "()I"⟩
abbrev cX2_countOnTracks : ByteArray := prog_4_method_9_code
def yX2_countOnTracks : MethodName := ⟨RX2, "countOnTracks", "()I"⟩
abbrev cX2_tracksInUse : ByteArray := prog_4_method_10_code
def yX2_tracksInUse : MethodName := ⟨RX2, "tracksInUse", "()I"⟩
def RX3 : String := "HumpYard$Lists"
def TX3 : u_T := fun k => match k with
  | 0 => ("HumpYard$Lists", "rows", "[[I", true)
  | _ => ("HumpYard$Lists", "sizes", "[I", true)
def tyX3 : Nat → FieldType := fun k => match k with
  | 0 => .array (.array .int)
  | _ => .array .int
abbrev wsX30 : List Cond := u_ws RX3 TX3 2
theorem nmX3 : ∀ a, a < 2 → ∀ b, b < 2 → a ≠ b → (TX3 a).2.1 ≠ (TX3 b).2.1 := by decide +kernel
theorem tyX3_ok : ∀ k, k < 2 → parseFieldDescriptor (TX3 k).2.2.1 = some (tyX3 k) := by decide +kernel
abbrev cX3_init : ByteArray := prog_5_method_1_code
def yX3_init : MethodName := ⟨RX3, "<init>", "()V"⟩
abbrev cX3_isList : ByteArray := prog_5_method_2_code
def yX3_isList : MethodName := ⟨RX3, "isList", "(I)Z"⟩
abbrev cX3_holds : ByteArray := prog_5_method_3_code
def yX3_holds : MethodName := ⟨RX3, "holds", "(I)Z"⟩
abbrev cX3_hasPlace : ByteArray := prog_5_method_4_code
def yX3_hasPlace : MethodName := ⟨RX3, "hasPlace", "(II)Z"⟩
abbrev cX3_makeZeros : ByteArray := prog_5_method_5_code
def yX3_makeZeros : MethodName := ⟨RX3, "makeZeros", "(II)V"⟩
abbrev cX3_layRow : ByteArray := prog_5_method_6_code
def yX3_layRow : MethodName := ⟨RX3, "layRow", "(II[II)I"⟩
def RX4 : String := "HumpYard$Paper"
def TX4 : u_T := fun k => match k with
  | 0 => ("HumpYard$Paper", "bytes", "[I", true)
  | _ => ("HumpYard$Paper", "used", "I", false)
def tyX4 : Nat → FieldType := fun k => match k with
  | 0 => .array .int
  | _ => .int
abbrev wsX40 : List Cond := u_ws RX4 TX4 2
theorem nmX4 : ∀ a, a < 2 → ∀ b, b < 2 → a ≠ b → (TX4 a).2.1 ≠ (TX4 b).2.1 := by decide +kernel
theorem tyX4_ok : ∀ k, k < 2 → parseFieldDescriptor (TX4 k).2.2.1 = some (tyX4 k) := by decide +kernel
abbrev cX4_init : ByteArray := prog_6_method_1_code
def yX4_init : MethodName := ⟨RX4, "<init>", "()V"⟩
abbrev cX4_append : ByteArray := prog_6_method_2_code
def yX4_append : MethodName := ⟨RX4, "append", "(I)V"⟩
abbrev cX4_appendRoll : ByteArray := prog_6_method_3_code
def yX4_appendRoll : MethodName := ⟨RX4, "appendRoll", "(II)V"⟩
def RX5 : String := "HumpYard$Renumbering"
def TX5 : u_T := fun k => match k with
  | 0 => ("HumpYard$Renumbering", "row", "[I", true)
  | 1 => ("HumpYard$Renumbering", "numbers", "[I", true)
  | 2 => ("HumpYard$Renumbering", "bestWagon", "I", false)
  | 3 => ("HumpYard$Renumbering", "bestPlace", "I", false)
  | _ => ("HumpYard$Renumbering", "bestNeed", "I", false)
def tyX5 : Nat → FieldType := fun k => match k with
  | 0 => .array .int
  | 1 => .array .int
  | 2 => .int
  | 3 => .int
  | _ => .int
abbrev wsX50 : List Cond := u_ws RX5 TX5 5
theorem nmX5 : ∀ a, a < 5 → ∀ b, b < 5 → a ≠ b → (TX5 a).2.1 ≠ (TX5 b).2.1 := by decide +kernel
theorem tyX5_ok : ∀ k, k < 5 → parseFieldDescriptor (TX5 k).2.2.1 = some (tyX5 k) := by decide +kernel
abbrev cX5_init : ByteArray := prog_7_method_1_code
def yX5_init : MethodName := ⟨RX5, "<init>", "()V"⟩
abbrev cX5_drawRow : ByteArray := prog_7_method_2_code
def yX5_drawRow : MethodName := ⟨RX5, "drawRow", "(II)V"⟩
abbrev cX5_findElsewhere : ByteArray := prog_7_method_3_code
def yX5_findElsewhere : MethodName := ⟨RX5, "findElsewhere", "(LHumpYard$Yard;)Z"⟩
abbrev cX5_moveTo : ByteArray := prog_7_method_4_code
def yX5_moveTo : MethodName := ⟨RX5, "moveTo", "(III)V"⟩
def RX6 : String := "HumpYard$Tape"
def TX6 : u_T := fun k => match k with
  | 0 => ("HumpYard$Tape", "bytes", "[I", true)
  | _ => ("HumpYard$Tape", "used", "I", false)
def tyX6 : Nat → FieldType := fun k => match k with
  | 0 => .array .int
  | _ => .int
abbrev wsX60 : List Cond := u_ws RX6 TX6 2
theorem nmX6 : ∀ a, a < 2 → ∀ b, b < 2 → a ≠ b → (TX6 a).2.1 ≠ (TX6 b).2.1 := by decide +kernel
theorem tyX6_ok : ∀ k, k < 2 → parseFieldDescriptor (TX6 k).2.2.1 = some (tyX6 k) := by decide +kernel
abbrev cX6_init : ByteArray := prog_8_method_1_code
def yX6_init : MethodName := ⟨RX6, "<init>", "()V"⟩
abbrev cX6_takes : ByteArray := prog_8_method_2_code
def yX6_takes : MethodName := ⟨RX6, "takes", "(I)Z"⟩
abbrev cX6_append : ByteArray := prog_8_method_3_code
def yX6_append : MethodName := ⟨RX6, "append", "(I)V"⟩
abbrev cX6_figureAt : ByteArray := prog_8_method_4_code
def yX6_figureAt : MethodName := ⟨RX6, "figureAt", "(I)I"⟩
abbrev cX6_faultOfYard : ByteArray := prog_8_method_5_code
def yX6_faultOfYard : MethodName := ⟨RX6, "faultOfYard", "()I"⟩
abbrev cX6_firstLetterFrom : ByteArray := prog_8_method_6_code
def yX6_firstLetterFrom : MethodName := ⟨RX6, "firstLetterFrom", "(I)I"⟩
abbrev cX6_faultOfFigures : ByteArray := prog_8_method_7_code
def yX6_faultOfFigures : MethodName := ⟨RX6, "faultOfFigures", "(III)I"⟩
def RX7 : String := "HumpYard$Yard"
def TX7 : u_T := fun k => match k with
  | 0 => ("HumpYard$Yard", "wagons", "I", false)
  | 1 => ("HumpYard$Yard", "brandNumber", "I", false)
  | 2 => ("HumpYard$Yard", "humped", "Z", false)
  | 3 => ("HumpYard$Yard", "pulls", "I", false)
  | 4 => ("HumpYard$Yard", "lengths", "[I", true)
  | 5 => ("HumpYard$Yard", "codes", "[I", true)
  | 6 => ("HumpYard$Yard", "trainOf", "[I", true)
  | 7 => ("HumpYard$Yard", "placeOf", "[I", true)
  | 8 => ("HumpYard$Yard", "wantedRows", "[[I", true)
  | 9 => ("HumpYard$Yard", "sizes", "[I", true)
  | 10 => ("HumpYard$Yard", "rooms", "[I", true)
  | _ => ("HumpYard$Yard", "lanes", "LHumpYard$Lanes;", true)
def tyX7 : Nat → FieldType := fun k => match k with
  | 0 => .int
  | 1 => .int
  | 2 => .boolean
  | 3 => .int
  | 4 => .array .int
  | 5 => .array .int
  | 6 => .array .int
  | 7 => .array .int
  | 8 => .array (.array .int)
  | 9 => .array .int
  | 10 => .array .int
  | _ => .object "HumpYard$Lanes"
abbrev wsX70 : List Cond := u_ws RX7 TX7 12
theorem nmX7 : ∀ a, a < 12 → ∀ b, b < 12 → a ≠ b → (TX7 a).2.1 ≠ (TX7 b).2.1 := by decide +kernel
theorem tyX7_ok : ∀ k, k < 12 → parseFieldDescriptor (TX7 k).2.2.1 = some (tyX7 k) := by decide +kernel
abbrev cX7_init : ByteArray := prog_9_method_1_code
def yX7_init : MethodName := ⟨RX7, "<init>", "()V"⟩
abbrev cX7_become : ByteArray := prog_9_method_2_code
def yX7_become : MethodName := ⟨RX7, "become", "(LHumpYard$Yard;)V"⟩
abbrev cX7_becomeNew : ByteArray := prog_9_method_3_code
def yX7_becomeNew : MethodName := ⟨RX7, "becomeNew", "(LHumpYard$Tape;)V"⟩
abbrev cX7_addWanted : ByteArray := prog_9_method_4_code
def yX7_addWanted : MethodName := ⟨RX7, "addWanted", "(II)V"⟩
abbrev cX7_becomeCleared : ByteArray := prog_9_method_5_code
def yX7_becomeCleared : MethodName := ⟨RX7, "becomeCleared", "()V"⟩
abbrev cX7_hasWagon : ByteArray := prog_9_method_6_code
def yX7_hasWagon : MethodName := ⟨RX7, "hasWagon", "(I)Z"⟩
abbrev cX7_wantedAt : ByteArray := prog_9_method_7_code
def yX7_wantedAt : MethodName := ⟨RX7, "wantedAt", "(II)I"⟩
abbrev cX7_isCut : ByteArray := prog_9_method_8_code
def yX7_isCut : MethodName := ⟨RX7, "isCut", "(II[I)Z"⟩
abbrev cX7_chainsOf : ByteArray := prog_9_method_9_code
def yX7_chainsOf : MethodName := ⟨RX7, "chainsOf", "(I[I)I"⟩
abbrev cX7_needOf : ByteArray := prog_9_method_10_code
def yX7_needOf : MethodName := ⟨RX7, "needOf", "([I)I"⟩
abbrev cX7_chainOf : ByteArray := prog_9_method_11_code
def yX7_chainOf : MethodName := ⟨RX7, "chainOf", "(I)I"⟩
abbrev cX7_firstNotRight : ByteArray := prog_9_method_12_code
def yX7_firstNotRight : MethodName := ⟨RX7, "firstNotRight", "([I)I"⟩
abbrev cX7_loadOf : ByteArray := prog_9_method_13_code
def yX7_loadOf : MethodName := ⟨RX7, "loadOf", "([II)I"⟩
abbrev cX7_stepsOf : ByteArray := prog_9_method_14_code
def yX7_stepsOf : MethodName := ⟨RX7, "stepsOf", "([I)I"⟩
abbrev cX7_rollsOf : ByteArray := prog_9_method_15_code
def yX7_rollsOf : MethodName := ⟨RX7, "rollsOf", "([I)I"⟩
abbrev cX7_judgeCodes : ByteArray := prog_9_method_16_code
def yX7_judgeCodes : MethodName := ⟨RX7, "judgeCodes", "([II)I"⟩
abbrev cX7_laneBehind : ByteArray := prog_9_method_17_code
def yX7_laneBehind : MethodName := ⟨RX7, "laneBehind", "([III)I"⟩
abbrev cX7_humpInto : ByteArray := prog_9_method_18_code
def yX7_humpInto : MethodName := ⟨RX7, "humpInto", "(LHumpYard$Lanes;[I)V"⟩
abbrev cX7_pullIn : ByteArray := prog_9_method_19_code
def yX7_pullIn : MethodName := ⟨RX7, "pullIn", "(LHumpYard$Lanes;I[I)I"⟩
abbrev cX7_runWhole : ByteArray := prog_9_method_20_code
def yX7_runWhole : MethodName := ⟨RX7, "runWhole", "(LHumpYard$Lanes;[I)V"⟩
abbrev cX7_lengthsOn : ByteArray := prog_9_method_21_code
def yX7_lengthsOn : MethodName := ⟨RX7, "lengthsOn", "(LHumpYard$Lanes;I)I"⟩
abbrev cX7_isOverfull : ByteArray := prog_9_method_22_code
def yX7_isOverfull : MethodName := ⟨RX7, "isOverfull", "(LHumpYard$Lanes;)Z"⟩
abbrev cX7_firstWrong : ByteArray := prog_9_method_23_code
def yX7_firstWrong : MethodName := ⟨RX7, "firstWrong", "(LHumpYard$Lanes;I)I"⟩
def RX8 : String := "HumpYard"
def TX8 : u_T := fun k => match k with
  | 0 => ("HumpYard", "now", "LHumpYard$Yard;", true)
  | 1 => ("HumpYard", "kept", "LHumpYard$Yard;", true)
  | 2 => ("HumpYard", "keptOnce", "Z", false)
  | 3 => ("HumpYard", "tape", "LHumpYard$Tape;", true)
  | 4 => ("HumpYard", "sheet", "LHumpYard$Paper;", true)
  | 5 => ("HumpYard", "lists", "LHumpYard$Lists;", true)
  | 6 => ("HumpYard", "binder", "LHumpYard$Binder;", true)
  | 7 => ("HumpYard", "renumbering", "LHumpYard$Renumbering;", true)
  | 8 => ("HumpYard", "thought", "LHumpYard$Lanes;", true)
  | _ => ("HumpYard", "tried", "[I", true)
def tyX8 : Nat → FieldType := fun k => match k with
  | 0 => .object "HumpYard$Yard"
  | 1 => .object "HumpYard$Yard"
  | 2 => .boolean
  | 3 => .object "HumpYard$Tape"
  | 4 => .object "HumpYard$Paper"
  | 5 => .object "HumpYard$Lists"
  | 6 => .object "HumpYard$Binder"
  | 7 => .object "HumpYard$Renumbering"
  | 8 => .object "HumpYard$Lanes"
  | _ => .array .int
abbrev wsX80 : List Cond := u_ws RX8 TX8 10
theorem nmX8 : ∀ a, a < 10 → ∀ b, b < 10 → a ≠ b → (TX8 a).2.1 ≠ (TX8 b).2.1 := by decide +kernel
theorem tyX8_ok : ∀ k, k < 10 → parseFieldDescriptor (TX8 k).2.2.1 = some (tyX8 k) := by decide +kernel
abbrev cX8_init : ByteArray := prog_1_method_1_code
def yX8_init : MethodName := ⟨RX8, "<init>", "()V"⟩
abbrev cX8_feed : ByteArray := prog_1_method_2_code
def yX8_feed : MethodName := ⟨RX8, "feed", "(IIIII)I"⟩
abbrev cX8_yard : ByteArray := prog_1_method_3_code
def yX8_yard : MethodName := ⟨RX8, "yard", "()I"⟩
abbrev cX8_codes : ByteArray := prog_1_method_4_code
def yX8_codes : MethodName := ⟨RX8, "codes", "()I"⟩
abbrev cX8_set : ByteArray := prog_1_method_5_code
def yX8_set : MethodName := ⟨RX8, "set", "(III)I"⟩
abbrev cX8_room : ByteArray := prog_1_method_6_code
def yX8_room : MethodName := ⟨RX8, "room", "(II)I"⟩
abbrev cX8_brand : ByteArray := prog_1_method_7_code
def yX8_brand : MethodName := ⟨RX8, "brand", "(I)I"⟩
abbrev cX8_wagon : ByteArray := prog_1_method_8_code
def yX8_wagon : MethodName := ⟨RX8, "wagon", "(II)I"⟩
abbrev cX8_wanted : ByteArray := prog_1_method_9_code
def yX8_wanted : MethodName := ⟨RX8, "wanted", "(II)I"⟩
abbrev cX8_track : ByteArray := prog_1_method_10_code
def yX8_track : MethodName := ⟨RX8, "track", "(II)I"⟩
abbrev cX8_chains : ByteArray := prog_1_method_11_code
def yX8_chains : MethodName := ⟨RX8, "chains", "(I)I"⟩
abbrev cX8_fewest : ByteArray := prog_1_method_12_code
def yX8_fewest : MethodName := ⟨RX8, "fewest", "(I)I"⟩
abbrev cX8_presort : ByteArray := prog_1_method_13_code
def yX8_presort : MethodName := ⟨RX8, "presort", "()I"⟩
abbrev cX8_right : ByteArray := prog_1_method_14_code
def yX8_right : MethodName := ⟨RX8, "right", "(I)I"⟩
abbrev cX8_bounded : ByteArray := prog_1_method_15_code
def yX8_bounded : MethodName := ⟨RX8, "bounded", "(I)I"⟩
abbrev cX8_bind : ByteArray := prog_1_method_16_code
def yX8_bind : MethodName := ⟨RX8, "bind", "()I"⟩
abbrev cX8_mean : ByteArray := prog_1_method_17_code
def yX8_mean : MethodName := ⟨RX8, "mean", "(I)J"⟩
abbrev cX8_hump : ByteArray := prog_1_method_18_code
def yX8_hump : MethodName := ⟨RX8, "hump", "()I"⟩
abbrev cX8_pull : ByteArray := prog_1_method_19_code
def yX8_pull : MethodName := ⟨RX8, "pull", "(I)I"⟩
abbrev cX8_clear : ByteArray := prog_1_method_20_code
def yX8_clear : MethodName := ⟨RX8, "clear", "()I"⟩
abbrev cX8_out : ByteArray := prog_1_method_21_code
def yX8_out : MethodName := ⟨RX8, "out", "(II)I"⟩
abbrev cX8_wrong : ByteArray := prog_1_method_22_code
def yX8_wrong : MethodName := ⟨RX8, "wrong", "(I)I"⟩
abbrev cX8_replay : ByteArray := prog_1_method_23_code
def yX8_replay : MethodName := ⟨RX8, "replay", "(I)I"⟩
abbrev cX8_spell : ByteArray := prog_1_method_24_code
def yX8_spell : MethodName := ⟨RX8, "spell", "()I"⟩
abbrev cX8_paper : ByteArray := prog_1_method_25_code
def yX8_paper : MethodName := ⟨RX8, "paper", "(I)I"⟩
abbrev cX8_elsewhere : ByteArray := prog_1_method_26_code
def yX8_elsewhere : MethodName := ⟨RX8, "elsewhere", "(I)I"⟩
abbrev cX8_drawn : ByteArray := prog_1_method_27_code
def yX8_drawn : MethodName := ⟨RX8, "drawn", "(II)I"⟩
abbrev cX8_odds : ByteArray := prog_1_method_28_code
def yX8_odds : MethodName := ⟨RX8, "odds", "(IIII)J"⟩
abbrev cX8_seen : ByteArray := prog_1_method_29_code
def yX8_seen : MethodName := ⟨RX8, "seen", "(III)I"⟩
abbrev cX8_judge : ByteArray := prog_1_method_30_code
def yX8_judge : MethodName := ⟨RX8, "judge", "(I)I"⟩
abbrev cX8_list : ByteArray := prog_1_method_31_code
def yX8_list : MethodName := ⟨RX8, "list", "(II)I"⟩
abbrev cX8_put : ByteArray := prog_1_method_32_code
def yX8_put : MethodName := ⟨RX8, "put", "(III)I"⟩
abbrev cX8_get : ByteArray := prog_1_method_33_code
def yX8_get : MethodName := ⟨RX8, "get", "(II)J"⟩
abbrev cX8_lay : ByteArray := prog_1_method_34_code
def yX8_lay : MethodName := ⟨RX8, "lay", "(IIII)I"⟩
abbrev cX8_image : ByteArray := prog_1_method_35_code
def yX8_image : MethodName := ⟨RX8, "image", "()I"⟩
abbrev cX8_undo : ByteArray := prog_1_method_36_code
def yX8_undo : MethodName := ⟨RX8, "undo", "()I"⟩
abbrev cX8_count : ByteArray := prog_1_method_37_code
def yX8_count : MethodName := ⟨RX8, "count", "(I)I"⟩
abbrev cX8_isTrain : ByteArray := prog_1_method_38_code
def yX8_isTrain : MethodName := ⟨RX8, "isTrain", "(I)Z"⟩
abbrev cX8_isTrack : ByteArray := prog_1_method_39_code
def yX8_isTrack : MethodName := ⟨RX8, "isTrack", "(I)Z"⟩
abbrev cX8_fewestNow : ByteArray := prog_1_method_40_code
def yX8_fewestNow : MethodName := ⟨RX8, "fewestNow", "()I"⟩
abbrev cX8_presortedCode : ByteArray := prog_1_method_41_code
def yX8_presortedCode : MethodName := ⟨RX8, "presortedCode", "(I)I"⟩
abbrev cX8_whereIs : ByteArray := prog_1_method_42_code
def yX8_whereIs : MethodName := ⟨RX8, "whereIs", "(I)I"⟩
abbrev cX8_partOfLowest : ByteArray := prog_1_method_43_code
def yX8_partOfLowest : MethodName := ⟨RX8, "partOfLowest", "(III)J"⟩
abbrev cX8_replayed : ByteArray := prog_1_method_44_code
def yX8_replayed : MethodName := ⟨RX8, "replayed", "(I)I"⟩
abbrev cX8_wrongInThought : ByteArray := prog_1_method_45_code
def yX8_wrongInThought : MethodName := ⟨RX8, "wrongInThought", "(I)I"⟩
abbrev cX8_spellPull : ByteArray := prog_1_method_46_code
def yX8_spellPull : MethodName := ⟨RX8, "spellPull", "(I)V"⟩
abbrev cX8_tellsOut : ByteArray := prog_1_method_47_code
def yX8_tellsOut : MethodName := ⟨RX8, "tellsOut", "(II)Z"⟩
def RX9 : String := "HumpYardModel"
def TX9 : u_T := fun k => match k with
  | 0 => ("HumpYardModel", "w", "[I", true)
  | 1 => ("HumpYardModel", "kept", "[I", true)
  | 2 => ("HumpYardModel", "thought", "[I", true)
  | 3 => ("HumpYardModel", "isKept", "Z", false)
  | 4 => ("HumpYardModel", "tape", "[I", true)
  | 5 => ("HumpYardModel", "taped", "I", false)
  | 6 => ("HumpYardModel", "number", "[I", true)
  | 7 => ("HumpYardModel", "chosen", "[I", true)
  | 8 => ("HumpYardModel", "best", "[I", true)
  | 9 => ("HumpYardModel", "turn", "[I", true)
  | 10 => ("HumpYardModel", "load", "[I", true)
  | 11 => ("HumpYardModel", "bestSteps", "I", false)
  | 12 => ("HumpYardModel", "bestRolls", "I", false)
  | 13 => ("HumpYardModel", "rolled", "I", false)
  | 14 => ("HumpYardModel", "isSpelled", "Z", false)
  | 15 => ("HumpYardModel", "paper", "[I", true)
  | 16 => ("HumpYardModel", "written", "I", false)
  | 17 => ("HumpYardModel", "drawn", "[I", true)
  | 18 => ("HumpYardModel", "items", "[I", true)
  | _ => ("HumpYardModel", "listMany", "[I", true)
def tyX9 : Nat → FieldType := fun k => match k with
  | 0 => .array .int
  | 1 => .array .int
  | 2 => .array .int
  | 3 => .boolean
  | 4 => .array .int
  | 5 => .int
  | 6 => .array .int
  | 7 => .array .int
  | 8 => .array .int
  | 9 => .array .int
  | 10 => .array .int
  | 11 => .int
  | 12 => .int
  | 13 => .int
  | 14 => .boolean
  | 15 => .array .int
  | 16 => .int
  | 17 => .array .int
  | 18 => .array .int
  | _ => .array .int
abbrev wsX90 : List Cond := u_ws RX9 TX9 20
theorem nmX9 : ∀ a, a < 20 → ∀ b, b < 20 → a ≠ b → (TX9 a).2.1 ≠ (TX9 b).2.1 := by decide +kernel
theorem tyX9_ok : ∀ k, k < 20 → parseFieldDescriptor (TX9 k).2.2.1 = some (tyX9 k) := by decide +kernel
abbrev cX9_init : ByteArray := prog_11_method_1_code
def yX9_init : MethodName := ⟨RX9, "<init>", "()V"⟩
abbrev cX9_isIn : ByteArray := prog_11_method_2_code
def yX9_isIn : MethodName := ⟨RX9, "isIn", "(JJJ)Z"⟩
abbrev cX9_isWagon : ByteArray := prog_11_method_3_code
def yX9_isWagon : MethodName := ⟨RX9, "isWagon", "(I)Z"⟩
abbrev cX9_isTrain : ByteArray := prog_11_method_4_code
def yX9_isTrain : MethodName := ⟨RX9, "isTrain", "(I)Z"⟩
abbrev cX9_isTrack : ByteArray := prog_11_method_5_code
def yX9_isTrack : MethodName := ⟨RX9, "isTrack", "(I)Z"⟩
abbrev cX9_has : ByteArray := prog_11_method_6_code
def yX9_has : MethodName := ⟨RX9, "has", "(II)Z"⟩
abbrev cX9_ones : ByteArray := prog_11_method_7_code
def yX9_ones : MethodName := ⟨RX9, "ones", "(I)I"⟩
abbrev cX9_mayBe : ByteArray := prog_11_method_8_code
def yX9_mayBe : MethodName := ⟨RX9, "mayBe", "(II)Z"⟩
abbrev cX9_wantedAt : ByteArray := prog_11_method_9_code
def yX9_wantedAt : MethodName := ⟨RX9, "wantedAt", "(II)I"⟩
abbrev cX9_clears : ByteArray := prog_11_method_10_code
def yX9_clears : MethodName := ⟨RX9, "clears", "()V"⟩
abbrev cX9_feed : ByteArray := prog_11_method_11_code
def yX9_feed : MethodName := ⟨RX9, "feed", "(IIIII)I"⟩
abbrev cX9_yardFault : ByteArray := prog_11_method_12_code
def yX9_yardFault : MethodName := ⟨RX9, "yardFault", "()I"⟩
abbrev cX9_yard : ByteArray := prog_11_method_13_code
def yX9_yard : MethodName := ⟨RX9, "yard", "()I"⟩
abbrev cX9_codes : ByteArray := prog_11_method_14_code
def yX9_codes : MethodName := ⟨RX9, "codes", "()I"⟩
abbrev cX9_set : ByteArray := prog_11_method_15_code
def yX9_set : MethodName := ⟨RX9, "set", "(III)I"⟩
abbrev cX9_room : ByteArray := prog_11_method_16_code
def yX9_room : MethodName := ⟨RX9, "room", "(II)I"⟩
abbrev cX9_brand : ByteArray := prog_11_method_17_code
def yX9_brand : MethodName := ⟨RX9, "brand", "(I)I"⟩
abbrev cX9_asTheyAre : ByteArray := prog_11_method_18_code
def yX9_asTheyAre : MethodName := ⟨RX9, "asTheyAre", "()V"⟩
abbrev cX9_chainsOf : ByteArray := prog_11_method_19_code
def yX9_chainsOf : MethodName := ⟨RX9, "chainsOf", "(I)I"⟩
abbrev cX9_need : ByteArray := prog_11_method_20_code
def yX9_need : MethodName := ⟨RX9, "need", "()I"⟩
abbrev cX9_fewestFor : ByteArray := prog_11_method_21_code
def yX9_fewestFor : MethodName := ⟨RX9, "fewestFor", "(I)I"⟩
abbrev cX9_placeOf : ByteArray := prog_11_method_22_code
def yX9_placeOf : MethodName := ⟨RX9, "placeOf", "(I)I"⟩
abbrev cX9_chainOf : ByteArray := prog_11_method_23_code
def yX9_chainOf : MethodName := ⟨RX9, "chainOf", "(I)I"⟩
abbrev cX9_codeOf : ByteArray := prog_11_method_24_code
def yX9_codeOf : MethodName := ⟨RX9, "codeOf", "(I)I"⟩
abbrev cX9_fewestNow : ByteArray := prog_11_method_25_code
def yX9_fewestNow : MethodName := ⟨RX9, "fewestNow", "()I"⟩
abbrev cX9_whereIs : ByteArray := prog_11_method_26_code
def yX9_whereIs : MethodName := ⟨RX9, "whereIs", "(I)I"⟩
abbrev cX9_wagon : ByteArray := prog_11_method_27_code
def yX9_wagon : MethodName := ⟨RX9, "wagon", "(II)I"⟩
abbrev cX9_wanted : ByteArray := prog_11_method_28_code
def yX9_wanted : MethodName := ⟨RX9, "wanted", "(II)I"⟩
abbrev cX9_lengthsOn : ByteArray := prog_11_method_29_code
def yX9_lengthsOn : MethodName := ⟨RX9, "lengthsOn", "(I)I"⟩
abbrev cX9_loadOf : ByteArray := prog_11_method_30_code
def yX9_loadOf : MethodName := ⟨RX9, "loadOf", "(I)I"⟩
abbrev cX9_track : ByteArray := prog_11_method_31_code
def yX9_track : MethodName := ⟨RX9, "track", "(II)I"⟩
abbrev cX9_chains : ByteArray := prog_11_method_32_code
def yX9_chains : MethodName := ⟨RX9, "chains", "(I)I"⟩
abbrev cX9_mayAll : ByteArray := prog_11_method_33_code
def yX9_mayAll : MethodName := ⟨RX9, "mayAll", "()I"⟩
abbrev cX9_fewest : ByteArray := prog_11_method_34_code
def yX9_fewest : MethodName := ⟨RX9, "fewest", "(I)I"⟩
abbrev cX9_stepsNow : ByteArray := prog_11_method_35_code
def yX9_stepsNow : MethodName := ⟨RX9, "stepsNow", "()I"⟩
abbrev cX9_stepsOf : ByteArray := prog_11_method_36_code
def yX9_stepsOf : MethodName := ⟨RX9, "stepsOf", "(I)I"⟩
abbrev cX9_rollsNow : ByteArray := prog_11_method_37_code
def yX9_rollsNow : MethodName := ⟨RX9, "rollsNow", "()I"⟩
abbrev cX9_presort : ByteArray := prog_11_method_38_code
def yX9_presort : MethodName := ⟨RX9, "presort", "()I"⟩
abbrev cX9_notRight : ByteArray := prog_11_method_39_code
def yX9_notRight : MethodName := ⟨RX9, "notRight", "()I"⟩
abbrev cX9_tooLoaded : ByteArray := prog_11_method_40_code
def yX9_tooLoaded : MethodName := ⟨RX9, "tooLoaded", "()I"⟩
abbrev cX9_mayAllCodes : ByteArray := prog_11_method_41_code
def yX9_mayAllCodes : MethodName := ⟨RX9, "mayAllCodes", "()Z"⟩
abbrev cX9_right : ByteArray := prog_11_method_42_code
def yX9_right : MethodName := ⟨RX9, "right", "(I)I"⟩
abbrev cX9_orders : ByteArray := prog_11_method_43_code
def yX9_orders : MethodName := ⟨RX9, "orders", "()V"⟩
abbrev cX9_lowAt : ByteArray := prog_11_method_44_code
def yX9_lowAt : MethodName := ⟨RX9, "lowAt", "(I)I"⟩
abbrev cX9_loads : ByteArray := prog_11_method_45_code
def yX9_loads : MethodName := ⟨RX9, "loads", "(II)V"⟩
abbrev cX9_isRoomy : ByteArray := prog_11_method_46_code
def yX9_isRoomy : MethodName := ⟨RX9, "isRoomy", "()Z"⟩
abbrev cX9_isBetter : ByteArray := prog_11_method_47_code
def yX9_isBetter : MethodName := ⟨RX9, "isBetter", "()Z"⟩
abbrev cX9_isBest : ByteArray := prog_11_method_48_code
def yX9_isBest : MethodName := ⟨RX9, "isBest", "()V"⟩
abbrev cX9_isHopeless : ByteArray := prog_11_method_49_code
def yX9_isHopeless : MethodName := ⟨RX9, "isHopeless", "(I)Z"⟩
abbrev cX9_goesOn : ByteArray := prog_11_method_50_code
def yX9_goesOn : MethodName := ⟨RX9, "goesOn", "(I)Z"⟩
abbrev cX9_findBounded : ByteArray := prog_11_method_51_code
def yX9_findBounded : MethodName := ⟨RX9, "findBounded", "()V"⟩
abbrev cX9_bounded : ByteArray := prog_11_method_52_code
def yX9_bounded : MethodName := ⟨RX9, "bounded", "(I)I"⟩
abbrev cX9_bind : ByteArray := prog_11_method_53_code
def yX9_bind : MethodName := ⟨RX9, "bind", "()I"⟩
abbrev cX9_common : ByteArray := prog_11_method_54_code
def yX9_common : MethodName := ⟨RX9, "common", "(JJ)J"⟩
abbrev cX9_partOf : ByteArray := prog_11_method_55_code
def yX9_partOf : MethodName := ⟨RX9, "partOf", "(JJI)J"⟩
abbrev cX9_mean : ByteArray := prog_11_method_56_code
def yX9_mean : MethodName := ⟨RX9, "mean", "(I)J"⟩
abbrev cX9_copies : ByteArray := prog_11_method_57_code
def yX9_copies : MethodName := ⟨RX9, "copies", "([I[I)V"⟩
abbrev cX9_rolls : ByteArray := prog_11_method_58_code
def yX9_rolls : MethodName := ⟨RX9, "rolls", "(II)V"⟩
abbrev cX9_humps : ByteArray := prog_11_method_59_code
def yX9_humps : MethodName := ⟨RX9, "humps", "()V"⟩
abbrev cX9_pulls : ByteArray := prog_11_method_60_code
def yX9_pulls : MethodName := ⟨RX9, "pulls", "(I)V"⟩
abbrev cX9_isOver : ByteArray := prog_11_method_61_code
def yX9_isOver : MethodName := ⟨RX9, "isOver", "()Z"⟩
abbrev cX9_outs : ByteArray := prog_11_method_62_code
def yX9_outs : MethodName := ⟨RX9, "outs", "()I"⟩
abbrev cX9_hump : ByteArray := prog_11_method_63_code
def yX9_hump : MethodName := ⟨RX9, "hump", "()I"⟩
abbrev cX9_pull : ByteArray := prog_11_method_64_code
def yX9_pull : MethodName := ⟨RX9, "pull", "(I)I"⟩
abbrev cX9_clear : ByteArray := prog_11_method_65_code
def yX9_clear : MethodName := ⟨RX9, "clear", "()I"⟩
abbrev cX9_out : ByteArray := prog_11_method_66_code
def yX9_out : MethodName := ⟨RX9, "out", "(II)I"⟩
abbrev cX9_wrongOf : ByteArray := prog_11_method_67_code
def yX9_wrongOf : MethodName := ⟨RX9, "wrongOf", "(I)I"⟩
abbrev cX9_wrong : ByteArray := prog_11_method_68_code
def yX9_wrong : MethodName := ⟨RX9, "wrong", "(I)I"⟩
abbrev cX9_pullsFault : ByteArray := prog_11_method_69_code
def yX9_pullsFault : MethodName := ⟨RX9, "pullsFault", "()I"⟩
abbrev cX9_replayed : ByteArray := prog_11_method_70_code
def yX9_replayed : MethodName := ⟨RX9, "replayed", "(II)I"⟩
abbrev cX9_replay : ByteArray := prog_11_method_71_code
def yX9_replay : MethodName := ⟨RX9, "replay", "(I)I"⟩
abbrev cX9_says : ByteArray := prog_11_method_72_code
def yX9_says : MethodName := ⟨RX9, "says", "(I)V"⟩
abbrev cX9_wholeRun : ByteArray := prog_11_method_73_code
def yX9_wholeRun : MethodName := ⟨RX9, "wholeRun", "()V"⟩
abbrev cX9_spell : ByteArray := prog_11_method_74_code
def yX9_spell : MethodName := ⟨RX9, "spell", "()I"⟩
abbrev cX9_paper : ByteArray := prog_11_method_75_code
def yX9_paper : MethodName := ⟨RX9, "paper", "(I)I"⟩
abbrev cX9_moves : ByteArray := prog_11_method_76_code
def yX9_moves : MethodName := ⟨RX9, "moves", "(II)V"⟩
abbrev cX9_elsewhere : ByteArray := prog_11_method_77_code
def yX9_elsewhere : MethodName := ⟨RX9, "elsewhere", "(I)I"⟩
abbrev cX9_draws : ByteArray := prog_11_method_78_code
def yX9_draws : MethodName := ⟨RX9, "draws", "(I)V"⟩
abbrev cX9_drawn : ByteArray := prog_11_method_79_code
def yX9_drawn : MethodName := ⟨RX9, "drawn", "(II)I"⟩
abbrev cX9_odds : ByteArray := prog_11_method_80_code
def yX9_odds : MethodName := ⟨RX9, "odds", "(IIII)J"⟩
abbrev cX9_isList : ByteArray := prog_11_method_81_code
def yX9_isList : MethodName := ⟨RX9, "isList", "(I)Z"⟩
abbrev cX9_isSeen : ByteArray := prog_11_method_82_code
def yX9_isSeen : MethodName := ⟨RX9, "isSeen", "(II)Z"⟩
abbrev cX9_seen : ByteArray := prog_11_method_83_code
def yX9_seen : MethodName := ⟨RX9, "seen", "(III)I"⟩
abbrev cX9_judged : ByteArray := prog_11_method_84_code
def yX9_judged : MethodName := ⟨RX9, "judged", "()I"⟩
abbrev cX9_judge : ByteArray := prog_11_method_85_code
def yX9_judge : MethodName := ⟨RX9, "judge", "(I)I"⟩
abbrev cX9_list : ByteArray := prog_11_method_86_code
def yX9_list : MethodName := ⟨RX9, "list", "(II)I"⟩
abbrev cX9_put : ByteArray := prog_11_method_87_code
def yX9_put : MethodName := ⟨RX9, "put", "(III)I"⟩
abbrev cX9_get : ByteArray := prog_11_method_88_code
def yX9_get : MethodName := ⟨RX9, "get", "(II)J"⟩
abbrev cX9_lay : ByteArray := prog_11_method_89_code
def yX9_lay : MethodName := ⟨RX9, "lay", "(IIII)I"⟩
abbrev cX9_image : ByteArray := prog_11_method_90_code
def yX9_image : MethodName := ⟨RX9, "image", "()I"⟩
abbrev cX9_undo : ByteArray := prog_11_method_91_code
def yX9_undo : MethodName := ⟨RX9, "undo", "()I"⟩
abbrev cX9_lying : ByteArray := prog_11_method_92_code
def yX9_lying : MethodName := ⟨RX9, "lying", "()I"⟩
abbrev cX9_count : ByteArray := prog_11_method_93_code
def yX9_count : MethodName := ⟨RX9, "count", "(I)I"⟩
def RJ6 : String := "java/lang/Integer"
def TJ6 : u_T := fun k => match k with
  | _ => ("", "", "", false)
def tyJ6 : Nat → FieldType := fun k => match k with
  | _ => .int
abbrev wsJ60 : List Cond := u_ws RJ6 TJ6 0
theorem nmJ6 : ∀ a, a < 0 → ∀ b, b < 0 → a ≠ b → (TJ6 a).2.1 ≠ (TJ6 b).2.1 := by decide +kernel
theorem tyJ6_ok : ∀ k, k < 0 → parseFieldDescriptor (TJ6 k).2.2.1 = some (tyJ6 k) := by decide +kernel
abbrev cJ6_bitCount_0f7a4 : ByteArray := prog_12_method_49_code
def yJ6_bitCount_0f7a4 : MethodName := ⟨RJ6, "bitCount", "(I)I"⟩
def RJ9 : String := "java/lang/Math"
def TJ9 : u_T := fun k => match k with
  | _ => ("", "", "", false)
def tyJ9 : Nat → FieldType := fun k => match k with
  | _ => .int
abbrev wsJ90 : List Cond := u_ws RJ9 TJ9 0
theorem nmJ9 : ∀ a, a < 0 → ∀ b, b < 0 → a ≠ b → (TJ9 a).2.1 ≠ (TJ9 b).2.1 := by decide +kernel
theorem tyJ9_ok : ∀ k, k < 0 → parseFieldDescriptor (TJ9 k).2.2.1 = some (tyJ9 k) := by decide +kernel
abbrev cJ9_max_7cf53 : ByteArray := prog_13_method_65_code
def yJ9_max_7cf53 : MethodName := ⟨RJ9, "max", "(II)I"⟩
abbrev cJ9_min_7cf53 : ByteArray := prog_13_method_69_code
def yJ9_min_7cf53 : MethodName := ⟨RJ9, "min", "(II)I"⟩
def RJ10 : String := "java/lang/System"
def TJ10 : u_T := fun k => match k with
  | _ => ("", "", "", false)
def tyJ10 : Nat → FieldType := fun k => match k with
  | _ => .int
abbrev wsJ100 : List Cond := u_ws RJ10 TJ10 0
theorem nmJ10 : ∀ a, a < 0 → ∀ b, b < 0 → a ≠ b → (TJ10 a).2.1 ≠ (TJ10 b).2.1 := by decide +kernel
theorem tyJ10_ok : ∀ k, k < 0 → parseFieldDescriptor (TJ10 k).2.2.1 = some (tyJ10 k) := by decide +kernel
def RL : String := "HumpYardLaw"
abbrev cL_law : ByteArray := code
def yL_law : MethodName := ⟨RL, "law", "([I)Z"⟩
abbrev vwCl : List vw_C := [(RX0, TX0, 8), (RX2, TX2, 2), (RX3, TX3, 2), (RX4, TX4, 2), (RX5, TX5, 5), (RX6, TX6, 2), (RX7, TX7, 12), (RX8, TX8, 10), (RX9, TX9, 20)]
