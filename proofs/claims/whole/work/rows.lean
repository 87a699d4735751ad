section
-- ===== PART A: goes FIRST, ahead of the names: the tables' words, and 'selects' of the private methods out of them =====
/-- a private method of a class that the tables say can be made, by its rows of tables_1 -/
def lw_okq (q : MethodName × Nat) : Prop := (q.1.cls ≠ "java/lang/invoke/MethodHandle" ∧ q.1.cls ≠ "java/lang/invoke/VarHandle") ∧ Cond.instantiable q.1.cls q.2 ∈ tables_1 ∧ Cond.privateMethod q.1 ∈ tables_1 ∧ Cond.instanceMethod q.1 ∈ tables_1
theorem lw_p0 : lw_okq (⟨"HumpYard$Tape", "firstLetterFrom", "(I)I"⟩, 2) := ⟨⟨by decide +kernel, by decide +kernel⟩, List.mem_of_getElem? (i := 106) (by decide +kernel), List.mem_of_getElem? (i := 269) (by decide +kernel), List.mem_of_getElem? (i := 270) (by decide +kernel)⟩
theorem lw_p1 : lw_okq (⟨"HumpYard$Yard", "addWanted", "(II)V"⟩, 12) := ⟨⟨by decide +kernel, by decide +kernel⟩, List.mem_of_getElem? (i := 23) (by decide +kernel), List.mem_of_getElem? (i := 277) (by decide +kernel), List.mem_of_getElem? (i := 278) (by decide +kernel)⟩
theorem lw_p2 : lw_okq (⟨"HumpYard$Yard", "isCut", "(II[I)Z"⟩, 12) := ⟨⟨by decide +kernel, by decide +kernel⟩, List.mem_of_getElem? (i := 23) (by decide +kernel), List.mem_of_getElem? (i := 331) (by decide +kernel), List.mem_of_getElem? (i := 332) (by decide +kernel)⟩
theorem lw_p3 : lw_okq (⟨"HumpYard", "whereIs", "(I)I"⟩, 10) := ⟨⟨by decide +kernel, by decide +kernel⟩, List.mem_of_getElem? (i := 15) (by decide +kernel), List.mem_of_getElem? (i := 339) (by decide +kernel), List.mem_of_getElem? (i := 340) (by decide +kernel)⟩
theorem lw_p4 : lw_okq (⟨"HumpYard", "fewestNow", "()I"⟩, 10) := ⟨⟨by decide +kernel, by decide +kernel⟩, List.mem_of_getElem? (i := 15) (by decide +kernel), List.mem_of_getElem? (i := 348) (by decide +kernel), List.mem_of_getElem? (i := 349) (by decide +kernel)⟩
theorem lw_p5 : lw_okq (⟨"HumpYard", "presortedCode", "(I)I"⟩, 10) := ⟨⟨by decide +kernel, by decide +kernel⟩, List.mem_of_getElem? (i := 15) (by decide +kernel), List.mem_of_getElem? (i := 377) (by decide +kernel), List.mem_of_getElem? (i := 378) (by decide +kernel)⟩
theorem lw_p6 : lw_okq (⟨"HumpYard$Binder", "allowBelow", "(II)V"⟩, 8) := ⟨⟨by decide +kernel, by decide +kernel⟩, List.mem_of_getElem? (i := 153) (by decide +kernel), List.mem_of_getElem? (i := 457) (by decide +kernel), List.mem_of_getElem? (i := 458) (by decide +kernel)⟩
theorem lw_p7 : lw_okq (⟨"HumpYard$Binder", "foresee", "(LHumpYard$Yard;)V"⟩, 8) := ⟨⟨by decide +kernel, by decide +kernel⟩, List.mem_of_getElem? (i := 153) (by decide +kernel), List.mem_of_getElem? (i := 462) (by decide +kernel), List.mem_of_getElem? (i := 463) (by decide +kernel)⟩
theorem lw_p8 : lw_okq (⟨"HumpYard$Binder", "highest", "(LHumpYard$Yard;I)I"⟩, 8) := ⟨⟨by decide +kernel, by decide +kernel⟩, List.mem_of_getElem? (i := 153) (by decide +kernel), List.mem_of_getElem? (i := 466) (by decide +kernel), List.mem_of_getElem? (i := 467) (by decide +kernel)⟩
theorem lw_p9 : lw_okq (⟨"HumpYard$Binder", "choose", "(LHumpYard$Yard;II)V"⟩, 8) := ⟨⟨by decide +kernel, by decide +kernel⟩, List.mem_of_getElem? (i := 153) (by decide +kernel), List.mem_of_getElem? (i := 475) (by decide +kernel), List.mem_of_getElem? (i := 476) (by decide +kernel)⟩
theorem lw_p10 : lw_okq (⟨"HumpYard$Binder", "highFor", "(LHumpYard$Yard;I)I"⟩, 8) := ⟨⟨by decide +kernel, by decide +kernel⟩, List.mem_of_getElem? (i := 153) (by decide +kernel), List.mem_of_getElem? (i := 479) (by decide +kernel), List.mem_of_getElem? (i := 480) (by decide +kernel)⟩
theorem lw_p11 : lw_okq (⟨"HumpYard$Binder", "lowFor", "(LHumpYard$Yard;I)I"⟩, 8) := ⟨⟨by decide +kernel, by decide +kernel⟩, List.mem_of_getElem? (i := 153) (by decide +kernel), List.mem_of_getElem? (i := 483) (by decide +kernel), List.mem_of_getElem? (i := 484) (by decide +kernel)⟩
theorem lw_p12 : lw_okq (⟨"HumpYard$Binder", "addLoad", "(II)V"⟩, 8) := ⟨⟨by decide +kernel, by decide +kernel⟩, List.mem_of_getElem? (i := 153) (by decide +kernel), List.mem_of_getElem? (i := 487) (by decide +kernel), List.mem_of_getElem? (i := 488) (by decide +kernel)⟩
theorem lw_p13 : lw_okq (⟨"HumpYard$Binder", "loadsFit", "([I)Z"⟩, 8) := ⟨⟨by decide +kernel, by decide +kernel⟩, List.mem_of_getElem? (i := 153) (by decide +kernel), List.mem_of_getElem? (i := 491) (by decide +kernel), List.mem_of_getElem? (i := 492) (by decide +kernel)⟩
theorem lw_p14 : lw_okq (⟨"HumpYard", "replayed", "(I)I"⟩, 10) := ⟨⟨by decide +kernel, by decide +kernel⟩, List.mem_of_getElem? (i := 15) (by decide +kernel), List.mem_of_getElem? (i := 574) (by decide +kernel), List.mem_of_getElem? (i := 575) (by decide +kernel)⟩
theorem lw_p15 : lw_okq (⟨"HumpYard", "wrongInThought", "(I)I"⟩, 10) := ⟨⟨by decide +kernel, by decide +kernel⟩, List.mem_of_getElem? (i := 15) (by decide +kernel), List.mem_of_getElem? (i := 582) (by decide +kernel), List.mem_of_getElem? (i := 583) (by decide +kernel)⟩
def lw_privs_1 : List (MethodName × Nat) := [(⟨"HumpYard$Tape", "firstLetterFrom", "(I)I"⟩, 2), (⟨"HumpYard$Yard", "addWanted", "(II)V"⟩, 12), (⟨"HumpYard$Yard", "isCut", "(II[I)Z"⟩, 12), (⟨"HumpYard", "whereIs", "(I)I"⟩, 10), (⟨"HumpYard", "fewestNow", "()I"⟩, 10), (⟨"HumpYard", "presortedCode", "(I)I"⟩, 10), (⟨"HumpYard$Binder", "allowBelow", "(II)V"⟩, 8), (⟨"HumpYard$Binder", "foresee", "(LHumpYard$Yard;)V"⟩, 8), (⟨"HumpYard$Binder", "highest", "(LHumpYard$Yard;I)I"⟩, 8), (⟨"HumpYard$Binder", "choose", "(LHumpYard$Yard;II)V"⟩, 8), (⟨"HumpYard$Binder", "highFor", "(LHumpYard$Yard;I)I"⟩, 8), (⟨"HumpYard$Binder", "lowFor", "(LHumpYard$Yard;I)I"⟩, 8), (⟨"HumpYard$Binder", "addLoad", "(II)V"⟩, 8), (⟨"HumpYard$Binder", "loadsFit", "([I)Z"⟩, 8), (⟨"HumpYard", "replayed", "(I)I"⟩, 10), (⟨"HumpYard", "wrongInThought", "(I)I"⟩, 10)]
theorem lw_r1 : ∀ q ∈ lw_privs_1, lw_okq q := List.forall_mem_cons.mpr ⟨lw_p0, List.forall_mem_cons.mpr ⟨lw_p1, List.forall_mem_cons.mpr ⟨lw_p2, List.forall_mem_cons.mpr ⟨lw_p3, List.forall_mem_cons.mpr ⟨lw_p4, List.forall_mem_cons.mpr ⟨lw_p5, List.forall_mem_cons.mpr ⟨lw_p6, List.forall_mem_cons.mpr ⟨lw_p7, List.forall_mem_cons.mpr ⟨lw_p8, List.forall_mem_cons.mpr ⟨lw_p9, List.forall_mem_cons.mpr ⟨lw_p10, List.forall_mem_cons.mpr ⟨lw_p11, List.forall_mem_cons.mpr ⟨lw_p12, List.forall_mem_cons.mpr ⟨lw_p13, List.forall_mem_cons.mpr ⟨lw_p14, List.forall_mem_cons.mpr ⟨lw_p15, fun _ h => absurd h List.not_mem_nil⟩⟩⟩⟩⟩⟩⟩⟩⟩⟩⟩⟩⟩⟩⟩⟩
theorem lw_p16 : lw_okq (⟨"HumpYard", "spellPull", "(I)V"⟩, 10) := ⟨⟨by decide +kernel, by decide +kernel⟩, List.mem_of_getElem? (i := 15) (by decide +kernel), List.mem_of_getElem? (i := 601) (by decide +kernel), List.mem_of_getElem? (i := 602) (by decide +kernel)⟩
theorem lw_p17 : lw_okq (⟨"HumpYard$Renumbering", "moveTo", "(III)V"⟩, 5) := ⟨⟨by decide +kernel, by decide +kernel⟩, List.mem_of_getElem? (i := 185) (by decide +kernel), List.mem_of_getElem? (i := 619) (by decide +kernel), List.mem_of_getElem? (i := 620) (by decide +kernel)⟩
theorem lw_p18 : lw_okq (⟨"HumpYard", "tellsOut", "(II)Z"⟩, 10) := ⟨⟨by decide +kernel, by decide +kernel⟩, List.mem_of_getElem? (i := 15) (by decide +kernel), List.mem_of_getElem? (i := 654) (by decide +kernel), List.mem_of_getElem? (i := 655) (by decide +kernel)⟩
theorem lw_p19 : lw_okq (⟨"HumpYardModel", "yardFault", "()I"⟩, 20) := ⟨⟨by decide +kernel, by decide +kernel⟩, List.mem_of_getElem? (i := 714) (by decide +kernel), List.mem_of_getElem? (i := 794) (by decide +kernel), List.mem_of_getElem? (i := 795) (by decide +kernel)⟩
theorem lw_p20 : lw_okq (⟨"HumpYardModel", "clears", "()V"⟩, 20) := ⟨⟨by decide +kernel, by decide +kernel⟩, List.mem_of_getElem? (i := 714) (by decide +kernel), List.mem_of_getElem? (i := 805) (by decide +kernel), List.mem_of_getElem? (i := 806) (by decide +kernel)⟩
theorem lw_p21 : lw_okq (⟨"HumpYardModel", "isWagon", "(I)Z"⟩, 20) := ⟨⟨by decide +kernel, by decide +kernel⟩, List.mem_of_getElem? (i := 714) (by decide +kernel), List.mem_of_getElem? (i := 819) (by decide +kernel), List.mem_of_getElem? (i := 820) (by decide +kernel)⟩
theorem lw_p22 : lw_okq (⟨"HumpYardModel", "placeOf", "(I)I"⟩, 20) := ⟨⟨by decide +kernel, by decide +kernel⟩, List.mem_of_getElem? (i := 714) (by decide +kernel), List.mem_of_getElem? (i := 841) (by decide +kernel), List.mem_of_getElem? (i := 842) (by decide +kernel)⟩
theorem lw_p23 : lw_okq (⟨"HumpYardModel", "wantedAt", "(II)I"⟩, 20) := ⟨⟨by decide +kernel, by decide +kernel⟩, List.mem_of_getElem? (i := 714) (by decide +kernel), List.mem_of_getElem? (i := 845) (by decide +kernel), List.mem_of_getElem? (i := 846) (by decide +kernel)⟩
theorem lw_p24 : lw_okq (⟨"HumpYardModel", "chainOf", "(I)I"⟩, 20) := ⟨⟨by decide +kernel, by decide +kernel⟩, List.mem_of_getElem? (i := 714) (by decide +kernel), List.mem_of_getElem? (i := 849) (by decide +kernel), List.mem_of_getElem? (i := 850) (by decide +kernel)⟩
theorem lw_p25 : lw_okq (⟨"HumpYardModel", "whereIs", "(I)I"⟩, 20) := ⟨⟨by decide +kernel, by decide +kernel⟩, List.mem_of_getElem? (i := 714) (by decide +kernel), List.mem_of_getElem? (i := 853) (by decide +kernel), List.mem_of_getElem? (i := 854) (by decide +kernel)⟩
theorem lw_p26 : lw_okq (⟨"HumpYardModel", "fewestNow", "()I"⟩, 20) := ⟨⟨by decide +kernel, by decide +kernel⟩, List.mem_of_getElem? (i := 714) (by decide +kernel), List.mem_of_getElem? (i := 857) (by decide +kernel), List.mem_of_getElem? (i := 858) (by decide +kernel)⟩
theorem lw_p27 : lw_okq (⟨"HumpYardModel", "asTheyAre", "()V"⟩, 20) := ⟨⟨by decide +kernel, by decide +kernel⟩, List.mem_of_getElem? (i := 714) (by decide +kernel), List.mem_of_getElem? (i := 861) (by decide +kernel), List.mem_of_getElem? (i := 862) (by decide +kernel)⟩
theorem lw_p28 : lw_okq (⟨"HumpYardModel", "need", "()I"⟩, 20) := ⟨⟨by decide +kernel, by decide +kernel⟩, List.mem_of_getElem? (i := 714) (by decide +kernel), List.mem_of_getElem? (i := 865) (by decide +kernel), List.mem_of_getElem? (i := 866) (by decide +kernel)⟩
theorem lw_p29 : lw_okq (⟨"HumpYardModel", "chainsOf", "(I)I"⟩, 20) := ⟨⟨by decide +kernel, by decide +kernel⟩, List.mem_of_getElem? (i := 714) (by decide +kernel), List.mem_of_getElem? (i := 869) (by decide +kernel), List.mem_of_getElem? (i := 870) (by decide +kernel)⟩
theorem lw_p30 : lw_okq (⟨"HumpYardModel", "fewestFor", "(I)I"⟩, 20) := ⟨⟨by decide +kernel, by decide +kernel⟩, List.mem_of_getElem? (i := 714) (by decide +kernel), List.mem_of_getElem? (i := 873) (by decide +kernel), List.mem_of_getElem? (i := 874) (by decide +kernel)⟩
theorem lw_p31 : lw_okq (⟨"HumpYardModel", "codeOf", "(I)I"⟩, 20) := ⟨⟨by decide +kernel, by decide +kernel⟩, List.mem_of_getElem? (i := 714) (by decide +kernel), List.mem_of_getElem? (i := 880) (by decide +kernel), List.mem_of_getElem? (i := 881) (by decide +kernel)⟩
def lw_privs_2 : List (MethodName × Nat) := [(⟨"HumpYard", "spellPull", "(I)V"⟩, 10), (⟨"HumpYard$Renumbering", "moveTo", "(III)V"⟩, 5), (⟨"HumpYard", "tellsOut", "(II)Z"⟩, 10), (⟨"HumpYardModel", "yardFault", "()I"⟩, 20), (⟨"HumpYardModel", "clears", "()V"⟩, 20), (⟨"HumpYardModel", "isWagon", "(I)Z"⟩, 20), (⟨"HumpYardModel", "placeOf", "(I)I"⟩, 20), (⟨"HumpYardModel", "wantedAt", "(II)I"⟩, 20), (⟨"HumpYardModel", "chainOf", "(I)I"⟩, 20), (⟨"HumpYardModel", "whereIs", "(I)I"⟩, 20), (⟨"HumpYardModel", "fewestNow", "()I"⟩, 20), (⟨"HumpYardModel", "asTheyAre", "()V"⟩, 20), (⟨"HumpYardModel", "need", "()I"⟩, 20), (⟨"HumpYardModel", "chainsOf", "(I)I"⟩, 20), (⟨"HumpYardModel", "fewestFor", "(I)I"⟩, 20), (⟨"HumpYardModel", "codeOf", "(I)I"⟩, 20)]
theorem lw_r2 : ∀ q ∈ lw_privs_2, lw_okq q := List.forall_mem_cons.mpr ⟨lw_p16, List.forall_mem_cons.mpr ⟨lw_p17, List.forall_mem_cons.mpr ⟨lw_p18, List.forall_mem_cons.mpr ⟨lw_p19, List.forall_mem_cons.mpr ⟨lw_p20, List.forall_mem_cons.mpr ⟨lw_p21, List.forall_mem_cons.mpr ⟨lw_p22, List.forall_mem_cons.mpr ⟨lw_p23, List.forall_mem_cons.mpr ⟨lw_p24, List.forall_mem_cons.mpr ⟨lw_p25, List.forall_mem_cons.mpr ⟨lw_p26, List.forall_mem_cons.mpr ⟨lw_p27, List.forall_mem_cons.mpr ⟨lw_p28, List.forall_mem_cons.mpr ⟨lw_p29, List.forall_mem_cons.mpr ⟨lw_p30, List.forall_mem_cons.mpr ⟨lw_p31, fun _ h => absurd h List.not_mem_nil⟩⟩⟩⟩⟩⟩⟩⟩⟩⟩⟩⟩⟩⟩⟩⟩
theorem lw_p32 : lw_okq (⟨"HumpYardModel", "lengthsOn", "(I)I"⟩, 20) := ⟨⟨by decide +kernel, by decide +kernel⟩, List.mem_of_getElem? (i := 714) (by decide +kernel), List.mem_of_getElem? (i := 896) (by decide +kernel), List.mem_of_getElem? (i := 897) (by decide +kernel)⟩
theorem lw_p33 : lw_okq (⟨"HumpYardModel", "loadOf", "(I)I"⟩, 20) := ⟨⟨by decide +kernel, by decide +kernel⟩, List.mem_of_getElem? (i := 714) (by decide +kernel), List.mem_of_getElem? (i := 900) (by decide +kernel), List.mem_of_getElem? (i := 901) (by decide +kernel)⟩
theorem lw_p34 : lw_okq (⟨"HumpYardModel", "mayAll", "()I"⟩, 20) := ⟨⟨by decide +kernel, by decide +kernel⟩, List.mem_of_getElem? (i := 714) (by decide +kernel), List.mem_of_getElem? (i := 913) (by decide +kernel), List.mem_of_getElem? (i := 914) (by decide +kernel)⟩
theorem lw_p35 : lw_okq (⟨"HumpYardModel", "stepsNow", "()I"⟩, 20) := ⟨⟨by decide +kernel, by decide +kernel⟩, List.mem_of_getElem? (i := 714) (by decide +kernel), List.mem_of_getElem? (i := 922) (by decide +kernel), List.mem_of_getElem? (i := 923) (by decide +kernel)⟩
theorem lw_p36 : lw_okq (⟨"HumpYardModel", "notRight", "()I"⟩, 20) := ⟨⟨by decide +kernel, by decide +kernel⟩, List.mem_of_getElem? (i := 714) (by decide +kernel), List.mem_of_getElem? (i := 933) (by decide +kernel), List.mem_of_getElem? (i := 934) (by decide +kernel)⟩
theorem lw_p37 : lw_okq (⟨"HumpYardModel", "mayAllCodes", "()Z"⟩, 20) := ⟨⟨by decide +kernel, by decide +kernel⟩, List.mem_of_getElem? (i := 714) (by decide +kernel), List.mem_of_getElem? (i := 937) (by decide +kernel), List.mem_of_getElem? (i := 938) (by decide +kernel)⟩
theorem lw_p38 : lw_okq (⟨"HumpYardModel", "tooLoaded", "()I"⟩, 20) := ⟨⟨by decide +kernel, by decide +kernel⟩, List.mem_of_getElem? (i := 714) (by decide +kernel), List.mem_of_getElem? (i := 941) (by decide +kernel), List.mem_of_getElem? (i := 942) (by decide +kernel)⟩
theorem lw_p39 : lw_okq (⟨"HumpYardModel", "rollsNow", "()I"⟩, 20) := ⟨⟨by decide +kernel, by decide +kernel⟩, List.mem_of_getElem? (i := 714) (by decide +kernel), List.mem_of_getElem? (i := 945) (by decide +kernel), List.mem_of_getElem? (i := 946) (by decide +kernel)⟩
theorem lw_p40 : lw_okq (⟨"HumpYardModel", "findBounded", "()V"⟩, 20) := ⟨⟨by decide +kernel, by decide +kernel⟩, List.mem_of_getElem? (i := 714) (by decide +kernel), List.mem_of_getElem? (i := 953) (by decide +kernel), List.mem_of_getElem? (i := 954) (by decide +kernel)⟩
theorem lw_p41 : lw_okq (⟨"HumpYardModel", "orders", "()V"⟩, 20) := ⟨⟨by decide +kernel, by decide +kernel⟩, List.mem_of_getElem? (i := 714) (by decide +kernel), List.mem_of_getElem? (i := 957) (by decide +kernel), List.mem_of_getElem? (i := 958) (by decide +kernel)⟩
theorem lw_p42 : lw_okq (⟨"HumpYardModel", "isBest", "()V"⟩, 20) := ⟨⟨by decide +kernel, by decide +kernel⟩, List.mem_of_getElem? (i := 714) (by decide +kernel), List.mem_of_getElem? (i := 961) (by decide +kernel), List.mem_of_getElem? (i := 962) (by decide +kernel)⟩
theorem lw_p43 : lw_okq (⟨"HumpYardModel", "goesOn", "(I)Z"⟩, 20) := ⟨⟨by decide +kernel, by decide +kernel⟩, List.mem_of_getElem? (i := 714) (by decide +kernel), List.mem_of_getElem? (i := 965) (by decide +kernel), List.mem_of_getElem? (i := 966) (by decide +kernel)⟩
theorem lw_p44 : lw_okq (⟨"HumpYardModel", "loads", "(II)V"⟩, 20) := ⟨⟨by decide +kernel, by decide +kernel⟩, List.mem_of_getElem? (i := 714) (by decide +kernel), List.mem_of_getElem? (i := 969) (by decide +kernel), List.mem_of_getElem? (i := 970) (by decide +kernel)⟩
theorem lw_p45 : lw_okq (⟨"HumpYardModel", "isRoomy", "()Z"⟩, 20) := ⟨⟨by decide +kernel, by decide +kernel⟩, List.mem_of_getElem? (i := 714) (by decide +kernel), List.mem_of_getElem? (i := 973) (by decide +kernel), List.mem_of_getElem? (i := 974) (by decide +kernel)⟩
theorem lw_p46 : lw_okq (⟨"HumpYardModel", "isHopeless", "(I)Z"⟩, 20) := ⟨⟨by decide +kernel, by decide +kernel⟩, List.mem_of_getElem? (i := 714) (by decide +kernel), List.mem_of_getElem? (i := 977) (by decide +kernel), List.mem_of_getElem? (i := 978) (by decide +kernel)⟩
theorem lw_p47 : lw_okq (⟨"HumpYardModel", "lowAt", "(I)I"⟩, 20) := ⟨⟨by decide +kernel, by decide +kernel⟩, List.mem_of_getElem? (i := 714) (by decide +kernel), List.mem_of_getElem? (i := 981) (by decide +kernel), List.mem_of_getElem? (i := 982) (by decide +kernel)⟩
def lw_privs_3 : List (MethodName × Nat) := [(⟨"HumpYardModel", "lengthsOn", "(I)I"⟩, 20), (⟨"HumpYardModel", "loadOf", "(I)I"⟩, 20), (⟨"HumpYardModel", "mayAll", "()I"⟩, 20), (⟨"HumpYardModel", "stepsNow", "()I"⟩, 20), (⟨"HumpYardModel", "notRight", "()I"⟩, 20), (⟨"HumpYardModel", "mayAllCodes", "()Z"⟩, 20), (⟨"HumpYardModel", "tooLoaded", "()I"⟩, 20), (⟨"HumpYardModel", "rollsNow", "()I"⟩, 20), (⟨"HumpYardModel", "findBounded", "()V"⟩, 20), (⟨"HumpYardModel", "orders", "()V"⟩, 20), (⟨"HumpYardModel", "isBest", "()V"⟩, 20), (⟨"HumpYardModel", "goesOn", "(I)Z"⟩, 20), (⟨"HumpYardModel", "loads", "(II)V"⟩, 20), (⟨"HumpYardModel", "isRoomy", "()Z"⟩, 20), (⟨"HumpYardModel", "isHopeless", "(I)Z"⟩, 20), (⟨"HumpYardModel", "lowAt", "(I)I"⟩, 20)]
theorem lw_r3 : ∀ q ∈ lw_privs_3, lw_okq q := List.forall_mem_cons.mpr ⟨lw_p32, List.forall_mem_cons.mpr ⟨lw_p33, List.forall_mem_cons.mpr ⟨lw_p34, List.forall_mem_cons.mpr ⟨lw_p35, List.forall_mem_cons.mpr ⟨lw_p36, List.forall_mem_cons.mpr ⟨lw_p37, List.forall_mem_cons.mpr ⟨lw_p38, List.forall_mem_cons.mpr ⟨lw_p39, List.forall_mem_cons.mpr ⟨lw_p40, List.forall_mem_cons.mpr ⟨lw_p41, List.forall_mem_cons.mpr ⟨lw_p42, List.forall_mem_cons.mpr ⟨lw_p43, List.forall_mem_cons.mpr ⟨lw_p44, List.forall_mem_cons.mpr ⟨lw_p45, List.forall_mem_cons.mpr ⟨lw_p46, List.forall_mem_cons.mpr ⟨lw_p47, fun _ h => absurd h List.not_mem_nil⟩⟩⟩⟩⟩⟩⟩⟩⟩⟩⟩⟩⟩⟩⟩⟩
theorem lw_p48 : lw_okq (⟨"HumpYardModel", "isBetter", "()Z"⟩, 20) := ⟨⟨by decide +kernel, by decide +kernel⟩, List.mem_of_getElem? (i := 714) (by decide +kernel), List.mem_of_getElem? (i := 985) (by decide +kernel), List.mem_of_getElem? (i := 986) (by decide +kernel)⟩
theorem lw_p49 : lw_okq (⟨"HumpYardModel", "copies", "([I[I)V"⟩, 20) := ⟨⟨by decide +kernel, by decide +kernel⟩, List.mem_of_getElem? (i := 714) (by decide +kernel), List.mem_of_getElem? (i := 1008) (by decide +kernel), List.mem_of_getElem? (i := 1009) (by decide +kernel)⟩
theorem lw_p50 : lw_okq (⟨"HumpYardModel", "humps", "()V"⟩, 20) := ⟨⟨by decide +kernel, by decide +kernel⟩, List.mem_of_getElem? (i := 714) (by decide +kernel), List.mem_of_getElem? (i := 1012) (by decide +kernel), List.mem_of_getElem? (i := 1013) (by decide +kernel)⟩
theorem lw_p51 : lw_okq (⟨"HumpYardModel", "rolls", "(II)V"⟩, 20) := ⟨⟨by decide +kernel, by decide +kernel⟩, List.mem_of_getElem? (i := 714) (by decide +kernel), List.mem_of_getElem? (i := 1016) (by decide +kernel), List.mem_of_getElem? (i := 1017) (by decide +kernel)⟩
theorem lw_p52 : lw_okq (⟨"HumpYardModel", "says", "(I)V"⟩, 20) := ⟨⟨by decide +kernel, by decide +kernel⟩, List.mem_of_getElem? (i := 714) (by decide +kernel), List.mem_of_getElem? (i := 1020) (by decide +kernel), List.mem_of_getElem? (i := 1021) (by decide +kernel)⟩
theorem lw_p53 : lw_okq (⟨"HumpYardModel", "isOver", "()Z"⟩, 20) := ⟨⟨by decide +kernel, by decide +kernel⟩, List.mem_of_getElem? (i := 714) (by decide +kernel), List.mem_of_getElem? (i := 1024) (by decide +kernel), List.mem_of_getElem? (i := 1025) (by decide +kernel)⟩
theorem lw_p54 : lw_okq (⟨"HumpYardModel", "outs", "()I"⟩, 20) := ⟨⟨by decide +kernel, by decide +kernel⟩, List.mem_of_getElem? (i := 714) (by decide +kernel), List.mem_of_getElem? (i := 1028) (by decide +kernel), List.mem_of_getElem? (i := 1029) (by decide +kernel)⟩
theorem lw_p55 : lw_okq (⟨"HumpYardModel", "pulls", "(I)V"⟩, 20) := ⟨⟨by decide +kernel, by decide +kernel⟩, List.mem_of_getElem? (i := 714) (by decide +kernel), List.mem_of_getElem? (i := 1036) (by decide +kernel), List.mem_of_getElem? (i := 1037) (by decide +kernel)⟩
theorem lw_p56 : lw_okq (⟨"HumpYardModel", "wrongOf", "(I)I"⟩, 20) := ⟨⟨by decide +kernel, by decide +kernel⟩, List.mem_of_getElem? (i := 714) (by decide +kernel), List.mem_of_getElem? (i := 1052) (by decide +kernel), List.mem_of_getElem? (i := 1053) (by decide +kernel)⟩
theorem lw_p57 : lw_okq (⟨"HumpYardModel", "pullsFault", "()I"⟩, 20) := ⟨⟨by decide +kernel, by decide +kernel⟩, List.mem_of_getElem? (i := 714) (by decide +kernel), List.mem_of_getElem? (i := 1061) (by decide +kernel), List.mem_of_getElem? (i := 1062) (by decide +kernel)⟩
theorem lw_p58 : lw_okq (⟨"HumpYardModel", "replayed", "(II)I"⟩, 20) := ⟨⟨by decide +kernel, by decide +kernel⟩, List.mem_of_getElem? (i := 714) (by decide +kernel), List.mem_of_getElem? (i := 1066) (by decide +kernel), List.mem_of_getElem? (i := 1067) (by decide +kernel)⟩
theorem lw_p59 : lw_okq (⟨"HumpYardModel", "wholeRun", "()V"⟩, 20) := ⟨⟨by decide +kernel, by decide +kernel⟩, List.mem_of_getElem? (i := 714) (by decide +kernel), List.mem_of_getElem? (i := 1074) (by decide +kernel), List.mem_of_getElem? (i := 1075) (by decide +kernel)⟩
theorem lw_p60 : lw_okq (⟨"HumpYardModel", "moves", "(II)V"⟩, 20) := ⟨⟨by decide +kernel, by decide +kernel⟩, List.mem_of_getElem? (i := 714) (by decide +kernel), List.mem_of_getElem? (i := 1086) (by decide +kernel), List.mem_of_getElem? (i := 1087) (by decide +kernel)⟩
theorem lw_p61 : lw_okq (⟨"HumpYardModel", "draws", "(I)V"⟩, 20) := ⟨⟨by decide +kernel, by decide +kernel⟩, List.mem_of_getElem? (i := 714) (by decide +kernel), List.mem_of_getElem? (i := 1094) (by decide +kernel), List.mem_of_getElem? (i := 1095) (by decide +kernel)⟩
theorem lw_p62 : lw_okq (⟨"HumpYardModel", "isSeen", "(II)Z"⟩, 20) := ⟨⟨by decide +kernel, by decide +kernel⟩, List.mem_of_getElem? (i := 714) (by decide +kernel), List.mem_of_getElem? (i := 1112) (by decide +kernel), List.mem_of_getElem? (i := 1113) (by decide +kernel)⟩
theorem lw_p63 : lw_okq (⟨"HumpYardModel", "judged", "()I"⟩, 20) := ⟨⟨by decide +kernel, by decide +kernel⟩, List.mem_of_getElem? (i := 714) (by decide +kernel), List.mem_of_getElem? (i := 1120) (by decide +kernel), List.mem_of_getElem? (i := 1121) (by decide +kernel)⟩
def lw_privs_4 : List (MethodName × Nat) := [(⟨"HumpYardModel", "isBetter", "()Z"⟩, 20), (⟨"HumpYardModel", "copies", "([I[I)V"⟩, 20), (⟨"HumpYardModel", "humps", "()V"⟩, 20), (⟨"HumpYardModel", "rolls", "(II)V"⟩, 20), (⟨"HumpYardModel", "says", "(I)V"⟩, 20), (⟨"HumpYardModel", "isOver", "()Z"⟩, 20), (⟨"HumpYardModel", "outs", "()I"⟩, 20), (⟨"HumpYardModel", "pulls", "(I)V"⟩, 20), (⟨"HumpYardModel", "wrongOf", "(I)I"⟩, 20), (⟨"HumpYardModel", "pullsFault", "()I"⟩, 20), (⟨"HumpYardModel", "replayed", "(II)I"⟩, 20), (⟨"HumpYardModel", "wholeRun", "()V"⟩, 20), (⟨"HumpYardModel", "moves", "(II)V"⟩, 20), (⟨"HumpYardModel", "draws", "(I)V"⟩, 20), (⟨"HumpYardModel", "isSeen", "(II)Z"⟩, 20), (⟨"HumpYardModel", "judged", "()I"⟩, 20)]
theorem lw_r4 : ∀ q ∈ lw_privs_4, lw_okq q := List.forall_mem_cons.mpr ⟨lw_p48, List.forall_mem_cons.mpr ⟨lw_p49, List.forall_mem_cons.mpr ⟨lw_p50, List.forall_mem_cons.mpr ⟨lw_p51, List.forall_mem_cons.mpr ⟨lw_p52, List.forall_mem_cons.mpr ⟨lw_p53, List.forall_mem_cons.mpr ⟨lw_p54, List.forall_mem_cons.mpr ⟨lw_p55, List.forall_mem_cons.mpr ⟨lw_p56, List.forall_mem_cons.mpr ⟨lw_p57, List.forall_mem_cons.mpr ⟨lw_p58, List.forall_mem_cons.mpr ⟨lw_p59, List.forall_mem_cons.mpr ⟨lw_p60, List.forall_mem_cons.mpr ⟨lw_p61, List.forall_mem_cons.mpr ⟨lw_p62, List.forall_mem_cons.mpr ⟨lw_p63, fun _ h => absurd h List.not_mem_nil⟩⟩⟩⟩⟩⟩⟩⟩⟩⟩⟩⟩⟩⟩⟩⟩
theorem lw_p64 : lw_okq (⟨"HumpYardModel", "lying", "()I"⟩, 20) := ⟨⟨by decide +kernel, by decide +kernel⟩, List.mem_of_getElem? (i := 714) (by decide +kernel), List.mem_of_getElem? (i := 1152) (by decide +kernel), List.mem_of_getElem? (i := 1153) (by decide +kernel)⟩
def lw_privs_5 : List (MethodName × Nat) := [(⟨"HumpYardModel", "lying", "()I"⟩, 20)]
theorem lw_r5 : ∀ q ∈ lw_privs_5, lw_okq q := List.forall_mem_cons.mpr ⟨lw_p64, fun _ h => absurd h List.not_mem_nil⟩
def lw_privs : List (MethodName × Nat) := lw_privs_1 ++ (lw_privs_2 ++ (lw_privs_3 ++ (lw_privs_4 ++ (lw_privs_5))))
def lw_tbl : List Cond := k2_sels lw_privs ++ tables_1
theorem lw_privs_ok : ∀ q ∈ lw_privs, lw_okq q := by
  show ∀ q ∈ lw_privs_1 ++ (lw_privs_2 ++ (lw_privs_3 ++ (lw_privs_4 ++ (lw_privs_5)))), lw_okq q
  exact List.forall_mem_append.mpr ⟨lw_r1, List.forall_mem_append.mpr ⟨lw_r2, List.forall_mem_append.mpr ⟨lw_r3, List.forall_mem_append.mpr ⟨lw_r4, lw_r5⟩⟩⟩⟩
-- ===== end of PART A; then your names; then what follows =====
/-! ===== BEGIN words of one list among another's, by their places ===== -/
theorem goodIn_r {big : List Cond} (ws : List Cond) (ps : List Nat) (hp : ws = ps.filterMap (fun i => big[i]?)) (h : ws.all goodWord = true) : GoodIn big ws := by
  intro w hw
  have h1 := List.all_eq_true.mp h w hw
  rw [hp] at hw
  obtain ⟨i, -, hi⟩ := List.mem_filterMap.mp hw
  have hm : w ∈ big := by first | exact List.mem_of_getElem? hi | exact List.getElem?_mem hi
  exact ⟨hm, good_of_word h1⟩
theorem goodIn_app {big a b : List Cond} (ha : GoodIn big a) (hb : GoodIn big b) : GoodIn big (a ++ b) := fun w h => (List.mem_append.mp h).elim (ha w) (hb w)
theorem goodIn_ca {big a b : List Cond} {c : Cond} (ha : GoodIn big (c :: a)) (hb : GoodIn big b) : GoodIn big (c :: (a ++ b)) := fun w h => (List.mem_cons.mp h).elim (fun e => ha w (List.mem_cons.mpr (Or.inl e))) (fun h => (List.mem_append.mp h).elim (fun h => ha w (List.mem_cons.mpr (Or.inr h))) (hb w))
theorem goodIn_sub {big ws : List Cond} (hm : ∀ w ∈ ws, w ∈ big) (h : ws.all goodWord = true) : GoodIn big ws := fun w hw => ⟨hm w hw, good_of_word (List.all_eq_true.mp h w hw)⟩
/-! ===== END ===== -/

def RX0 : String := "HumpYard$Binder"
def TX0 : u_T := fun k => match k with
  | 0 => ("HumpYard$Binder", "allowed", "[I", true)
  | 1 => ("HumpYard$Binder", "ranks", "I", false)
  | 2 => ("HumpYard$Binder", "chain", "[I", true)
  | 3 => ("HumpYard$Binder", "chosen", "[I", true)
  | 4 => ("HumpYard$Binder", "load", "[I", true)
  | 5 => ("HumpYard$Binder", "onesFrom", "[I", true)
  | 6 => ("HumpYard$Binder", "bestOnes", "I", false)
  | _ => ("HumpYard$Binder", "best", "[I", true)
def tyX0 : Nat → FieldType := fun k => match k with
  | 0 => .array .int
  | 1 => .int
  | 2 => .array .int
  | 3 => .array .int
  | 4 => .array .int
  | 5 => .array .int
  | 6 => .int
  | _ => .array .int
abbrev wsX00 : List Cond := u_ws RX0 TX0 8
theorem nmX0 : ∀ a, a < 8 → ∀ b, b < 8 → a ≠ b → (TX0 a).2.1 ≠ (TX0 b).2.1 := by decide +kernel
theorem tyX0_ok : ∀ k, k < 8 → parseFieldDescriptor (TX0 k).2.2.1 = some (tyX0 k) := by decide +kernel
abbrev cX0_init : ByteArray := prog_2_method_1_code
def yX0_init : MethodName := ⟨RX0, "<init>", "()V"⟩
abbrev cX0_findBest : ByteArray := prog_2_method_2_code
def yX0_findBest : MethodName := ⟨RX0, "findBest", "(LHumpYard$Yard;)Z"⟩
abbrev cX0_allowBelow : ByteArray := prog_2_method_3_code
def yX0_allowBelow : MethodName := ⟨RX0, "allowBelow", "(II)V"⟩
abbrev cX0_foresee : ByteArray := prog_2_method_4_code
def yX0_foresee : MethodName := ⟨RX0, "foresee", "(LHumpYard$Yard;)V"⟩
abbrev cX0_highest : ByteArray := prog_2_method_5_code
def yX0_highest : MethodName := ⟨RX0, "highest", "(LHumpYard$Yard;I)I"⟩
abbrev cX0_lowFor : ByteArray := prog_2_method_6_code
def yX0_lowFor : MethodName := ⟨RX0, "lowFor", "(LHumpYard$Yard;I)I"⟩
abbrev cX0_highFor : ByteArray := prog_2_method_7_code
def yX0_highFor : MethodName := ⟨RX0, "highFor", "(LHumpYard$Yard;I)I"⟩
abbrev cX0_choose : ByteArray := prog_2_method_8_code
def yX0_choose : MethodName := ⟨RX0, "choose", "(LHumpYard$Yard;II)V"⟩
abbrev cX0_addLoad : ByteArray := prog_2_method_9_code
def yX0_addLoad : MethodName := ⟨RX0, "addLoad", "(II)V"⟩
abbrev cX0_loadsFit : ByteArray := prog_2_method_10_code
def yX0_loadsFit : MethodName := ⟨RX0, "loadsFit", "([I)Z"⟩
def RX1 : String := "HumpYard$Brands"
def TX1 : u_T := fun k => match k with
  | _ => ("", "", "", false)
def tyX1 : Nat → FieldType := fun k => match k with
  | _ => .int
abbrev wsX10 : List Cond := u_ws RX1 TX1 0
theorem nmX1 : ∀ a, a < 0 → ∀ b, b < 0 → a ≠ b → (TX1 a).2.1 ≠ (TX1 b).2.1 := by decide +kernel
theorem tyX1_ok : ∀ k, k < 0 → parseFieldDescriptor (TX1 k).2.2.1 = some (tyX1 k) := by decide +kernel
abbrev cX1_mayBe : ByteArray := prog_3_method_2_code
def yX1_mayBe : MethodName := ⟨RX1, "mayBe", "(II)Z"⟩
abbrev cX1_howMany : ByteArray := prog_3_method_3_code
def yX1_howMany : MethodName := ⟨RX1, "howMany", "(I)I"⟩
abbrev cX1_codeOfRank : ByteArray := prog_3_method_4_code
def yX1_codeOfRank : MethodName := ⟨RX1, "codeOfRank", "(II)I"⟩
abbrev cX1_fewestFor : ByteArray := prog_3_method_5_code
def yX1_fewestFor : MethodName := ⟨RX1, "fewestFor", "(II)I"⟩
abbrev cX1_widthOf : ByteArray := prog_3_method_6_code
def yX1_widthOf : MethodName := ⟨RX1, "widthOf", "(I)I"⟩
def RX2 : String := "HumpYard$Lanes"
def TX2 : u_T := fun k => match k with
  | 0 => ("HumpYard$Lanes", "rows", "[[I", true)
  | _ => ("HumpYard$Lanes", "counts", "[I", true)
def tyX2 : Nat → FieldType := fun k => match k with
  | 0 => .array (.array .int)
  | _ => .array .int
abbrev wsX20 : List Cond := u_ws RX2 TX2 2
theorem nmX2 : ∀ a, a < 2 → ∀ b, b < 2 → a ≠ b → (TX2 a).2.1 ≠ (TX2 b).2.1 := by decide +kernel
theorem tyX2_ok : ∀ k, k < 2 → parseFieldDescriptor (TX2 k).2.2.1 = some (tyX2 k) := by decide +kernel
abbrev cX2_init : ByteArray := prog_4_method_1_code
def yX2_init : MethodName := ⟨RX2, "<init>", "()V"⟩
abbrev cX2_outOf : ByteArray := prog_4_method_2_code
def yX2_outOf : MethodName := ⟨RX2, "outOf", "(I)I"⟩
abbrev cX2_empty : ByteArray := prog_4_method_3_code
def yX2_empty : MethodName := ⟨RX2, "empty", "()V"⟩
abbrev cX2_become : ByteArray := prog_4_method_4_code
def yX2_become : MethodName := ⟨RX2, "become", "(LHumpYard$Lanes;)V"⟩
abbrev cX2_append : ByteArray := prog_4_method_5_code
def yX2_append : MethodName := ⟨RX2, "append", "(II)V"⟩
abbrev cX2_wagonAt : ByteArray := prog_4_method_6_code
def yX2_wagonAt : MethodName := ⟨RX2, "wagonAt", "(II)I"⟩
abbrev cX2_laneOf : ByteArray := prog_4_method_7_code
def yX2_laneOf : MethodName := ⟨RX2, "laneOf", "(I)I"⟩
abbrev cX2_countOut : ByteArray := prog_4_method_8_code
def yX2_countOut : MethodName := ⟨RX2, "countOut", "()I"⟩
abbrev cX2_countOnTracks : ByteArray := prog_4_method_9_code
def yX2_countOnTracks : MethodName := ⟨RX2, "countOnTracks", "()I"⟩
abbrev cX2_tracksInUse : ByteArray := prog_4_method_10_code
def yX2_tracksInUse : MethodName := ⟨RX2, "tracksInUse", "()I"⟩
def RX3 : String := "HumpYard$Lists"
def TX3 : u_T := fun k => match k with
  | 0 => ("HumpYard$Lists", "rows", "[[I", true)
  | _ => ("HumpYard$Lists", "sizes", "[I", true)
def tyX3 : Nat → FieldType := fun k => match k with
  | 0 => .array (.array .int)
  | _ => .array .int
abbrev wsX30 : List Cond := u_ws RX3 TX3 2
theorem nmX3 : ∀ a, a < 2 → ∀ b, b < 2 → a ≠ b → (TX3 a).2.1 ≠ (TX3 b).2.1 := by decide +kernel
theorem tyX3_ok : ∀ k, k < 2 → parseFieldDescriptor (TX3 k).2.2.1 = some (tyX3 k) := by decide +kernel
abbrev cX3_init : ByteArray := prog_5_method_1_code
def yX3_init : MethodName := ⟨RX3, "<init>", "()V"⟩
abbrev cX3_isList : ByteArray := prog_5_method_2_code
def yX3_isList : MethodName := ⟨RX3, "isList", "(I)Z"⟩
abbrev cX3_holds : ByteArray := prog_5_method_3_code
def yX3_holds : MethodName := ⟨RX3, "holds", "(I)Z"⟩
abbrev cX3_hasPlace : ByteArray := prog_5_method_4_code
def yX3_hasPlace : MethodName := ⟨RX3, "hasPlace", "(II)Z"⟩
abbrev cX3_makeZeros : ByteArray := prog_5_method_5_code
def yX3_makeZeros : MethodName := ⟨RX3, "makeZeros", "(II)V"⟩
abbrev cX3_layRow : ByteArray := prog_5_method_6_code
def yX3_layRow : MethodName := ⟨RX3, "layRow", "(II[II)I"⟩
def RX4 : String := "HumpYard$Paper"
def TX4 : u_T := fun k => match k with
  | 0 => ("HumpYard$Paper", "bytes", "[I", true)
  | _ => ("HumpYard$Paper", "used", "I", false)
def tyX4 : Nat → FieldType := fun k => match k with
  | 0 => .array .int
  | _ => .int
abbrev wsX40 : List Cond := u_ws RX4 TX4 2
theorem nmX4 : ∀ a, a < 2 → ∀ b, b < 2 → a ≠ b → (TX4 a).2.1 ≠ (TX4 b).2.1 := by decide +kernel
theorem tyX4_ok : ∀ k, k < 2 → parseFieldDescriptor (TX4 k).2.2.1 = some (tyX4 k) := by decide +kernel
abbrev cX4_init : ByteArray := prog_6_method_1_code
def yX4_init : MethodName := ⟨RX4, "<init>", "()V"⟩
abbrev cX4_append : ByteArray := prog_6_method_2_code
def yX4_append : MethodName := ⟨RX4, "append", "(I)V"⟩
abbrev cX4_appendRoll : ByteArray := prog_6_method_3_code
def yX4_appendRoll : MethodName := ⟨RX4, "appendRoll", "(II)V"⟩
def RX5 : String := "HumpYard$Renumbering"
def TX5 : u_T := fun k => match k with
  | 0 => ("HumpYard$Renumbering", "row", "[I", true)
  | 1 => ("HumpYard$Renumbering", "numbers", "[I", true)
  | 2 => ("HumpYard$Renumbering", "bestWagon", "I", false)
  | 3 => ("HumpYard$Renumbering", "bestPlace", "I", false)
  | _ => ("HumpYard$Renumbering", "bestNeed", "I", false)
def tyX5 : Nat → FieldType := fun k => match k with
  | 0 => .array .int
  | 1 => .array .int
  | 2 => .int
  | 3 => .int
  | _ => .int
abbrev wsX50 : List Cond := u_ws RX5 TX5 5
theorem nmX5 : ∀ a, a < 5 → ∀ b, b < 5 → a ≠ b → (TX5 a).2.1 ≠ (TX5 b).2.1 := by decide +kernel
theorem tyX5_ok : ∀ k, k < 5 → parseFieldDescriptor (TX5 k).2.2.1 = some (tyX5 k) := by decide +kernel
abbrev cX5_init : ByteArray := prog_7_method_1_code
def yX5_init : MethodName := ⟨RX5, "<init>", "()V"⟩
abbrev cX5_drawRow : ByteArray := prog_7_method_2_code
def yX5_drawRow : MethodName := ⟨RX5, "drawRow", "(II)V"⟩
abbrev cX5_findElsewhere : ByteArray := prog_7_method_3_code
def yX5_findElsewhere : MethodName := ⟨RX5, "findElsewhere", "(LHumpYard$Yard;)Z"⟩
abbrev cX5_moveTo : ByteArray := prog_7_method_4_code
def yX5_moveTo : MethodName := ⟨RX5, "moveTo", "(III)V"⟩
def RX6 : String := "HumpYard$Tape"
def TX6 : u_T := fun k => match k with
  | 0 => ("HumpYard$Tape", "bytes", "[I", true)
  | _ => ("HumpYard$Tape", "used", "I", false)
def tyX6 : Nat → FieldType := fun k => match k with
  | 0 => .array .int
  | _ => .int
abbrev wsX60 : List Cond := u_ws RX6 TX6 2
theorem nmX6 : ∀ a, a < 2 → ∀ b, b < 2 → a ≠ b → (TX6 a).2.1 ≠ (TX6 b).2.1 := by decide +kernel
theorem tyX6_ok : ∀ k, k < 2 → parseFieldDescriptor (TX6 k).2.2.1 = some (tyX6 k) := by decide +kernel
abbrev cX6_init : ByteArray := prog_8_method_1_code
def yX6_init : MethodName := ⟨RX6, "<init>", "()V"⟩
abbrev cX6_takes : ByteArray := prog_8_method_2_code
def yX6_takes : MethodName := ⟨RX6, "takes", "(I)Z"⟩
abbrev cX6_append : ByteArray := prog_8_method_3_code
def yX6_append : MethodName := ⟨RX6, "append", "(I)V"⟩
abbrev cX6_figureAt : ByteArray := prog_8_method_4_code
def yX6_figureAt : MethodName := ⟨RX6, "figureAt", "(I)I"⟩
abbrev cX6_faultOfYard : ByteArray := prog_8_method_5_code
def yX6_faultOfYard : MethodName := ⟨RX6, "faultOfYard", "()I"⟩
abbrev cX6_firstLetterFrom : ByteArray := prog_8_method_6_code
def yX6_firstLetterFrom : MethodName := ⟨RX6, "firstLetterFrom", "(I)I"⟩
abbrev cX6_faultOfFigures : ByteArray := prog_8_method_7_code
def yX6_faultOfFigures : MethodName := ⟨RX6, "faultOfFigures", "(III)I"⟩
def RX7 : String := "HumpYard$Yard"
def TX7 : u_T := fun k => match k with
  | 0 => ("HumpYard$Yard", "wagons", "I", false)
  | 1 => ("HumpYard$Yard", "brandNumber", "I", false)
  | 2 => ("HumpYard$Yard", "humped", "Z", false)
  | 3 => ("HumpYard$Yard", "pulls", "I", false)
  | 4 => ("HumpYard$Yard", "lengths", "[I", true)
  | 5 => ("HumpYard$Yard", "codes", "[I", true)
  | 6 => ("HumpYard$Yard", "trainOf", "[I", true)
  | 7 => ("HumpYard$Yard", "placeOf", "[I", true)
  | 8 => ("HumpYard$Yard", "wantedRows", "[[I", true)
  | 9 => ("HumpYard$Yard", "sizes", "[I", true)
  | 10 => ("HumpYard$Yard", "rooms", "[I", true)
  | _ => ("HumpYard$Yard", "lanes", "LHumpYard$Lanes;", true)
def tyX7 : Nat → FieldType := fun k => match k with
  | 0 => .int
  | 1 => .int
  | 2 => .boolean
  | 3 => .int
  | 4 => .array .int
  | 5 => .array .int
  | 6 => .array .int
  | 7 => .array .int
  | 8 => .array (.array .int)
  | 9 => .array .int
  | 10 => .array .int
  | _ => .object "HumpYard$Lanes"
abbrev wsX70 : List Cond := u_ws RX7 TX7 12
theorem nmX7 : ∀ a, a < 12 → ∀ b, b < 12 → a ≠ b → (TX7 a).2.1 ≠ (TX7 b).2.1 := by decide +kernel
theorem tyX7_ok : ∀ k, k < 12 → parseFieldDescriptor (TX7 k).2.2.1 = some (tyX7 k) := by decide +kernel
abbrev cX7_init : ByteArray := prog_9_method_1_code
def yX7_init : MethodName := ⟨RX7, "<init>", "()V"⟩
abbrev cX7_become : ByteArray := prog_9_method_2_code
def yX7_become : MethodName := ⟨RX7, "become", "(LHumpYard$Yard;)V"⟩
abbrev cX7_becomeNew : ByteArray := prog_9_method_3_code
def yX7_becomeNew : MethodName := ⟨RX7, "becomeNew", "(LHumpYard$Tape;)V"⟩
abbrev cX7_addWanted : ByteArray := prog_9_method_4_code
def yX7_addWanted : MethodName := ⟨RX7, "addWanted", "(II)V"⟩
abbrev cX7_becomeCleared : ByteArray := prog_9_method_5_code
def yX7_becomeCleared : MethodName := ⟨RX7, "becomeCleared", "()V"⟩
abbrev cX7_hasWagon : ByteArray := prog_9_method_6_code
def yX7_hasWagon : MethodName := ⟨RX7, "hasWagon", "(I)Z"⟩
abbrev cX7_wantedAt : ByteArray := prog_9_method_7_code
def yX7_wantedAt : MethodName := ⟨RX7, "wantedAt", "(II)I"⟩
abbrev cX7_isCut : ByteArray := prog_9_method_8_code
def yX7_isCut : MethodName := ⟨RX7, "isCut", "(II[I)Z"⟩
abbrev cX7_chainsOf : ByteArray := prog_9_method_9_code
def yX7_chainsOf : MethodName := ⟨RX7, "chainsOf", "(I[I)I"⟩
abbrev cX7_needOf : ByteArray := prog_9_method_10_code
def yX7_needOf : MethodName := ⟨RX7, "needOf", "([I)I"⟩
abbrev cX7_chainOf : ByteArray := prog_9_method_11_code
def yX7_chainOf : MethodName := ⟨RX7, "chainOf", "(I)I"⟩
abbrev cX7_firstNotRight : ByteArray := prog_9_method_12_code
def yX7_firstNotRight : MethodName := ⟨RX7, "firstNotRight", "([I)I"⟩
abbrev cX7_loadOf : ByteArray := prog_9_method_13_code
def yX7_loadOf : MethodName := ⟨RX7, "loadOf", "([II)I"⟩
abbrev cX7_stepsOf : ByteArray := prog_9_method_14_code
def yX7_stepsOf : MethodName := ⟨RX7, "stepsOf", "([I)I"⟩
abbrev cX7_rollsOf : ByteArray := prog_9_method_15_code
def yX7_rollsOf : MethodName := ⟨RX7, "rollsOf", "([I)I"⟩
abbrev cX7_judgeCodes : ByteArray := prog_9_method_16_code
def yX7_judgeCodes : MethodName := ⟨RX7, "judgeCodes", "([II)I"⟩
abbrev cX7_laneBehind : ByteArray := prog_9_method_17_code
def yX7_laneBehind : MethodName := ⟨RX7, "laneBehind", "([III)I"⟩
abbrev cX7_humpInto : ByteArray := prog_9_method_18_code
def yX7_humpInto : MethodName := ⟨RX7, "humpInto", "(LHumpYard$Lanes;[I)V"⟩
abbrev cX7_pullIn : ByteArray := prog_9_method_19_code
def yX7_pullIn : MethodName := ⟨RX7, "pullIn", "(LHumpYard$Lanes;I[I)I"⟩
abbrev cX7_runWhole : ByteArray := prog_9_method_20_code
def yX7_runWhole : MethodName := ⟨RX7, "runWhole", "(LHumpYard$Lanes;[I)V"⟩
abbrev cX7_lengthsOn : ByteArray := prog_9_method_21_code
def yX7_lengthsOn : MethodName := ⟨RX7, "lengthsOn", "(LHumpYard$Lanes;I)I"⟩
abbrev cX7_isOverfull : ByteArray := prog_9_method_22_code
def yX7_isOverfull : MethodName := ⟨RX7, "isOverfull", "(LHumpYard$Lanes;)Z"⟩
abbrev cX7_firstWrong : ByteArray := prog_9_method_23_code
def yX7_firstWrong : MethodName := ⟨RX7, "firstWrong", "(LHumpYard$Lanes;I)I"⟩
def RX8 : String := "HumpYard"
def TX8 : u_T := fun k => match k with
  | 0 => ("HumpYard", "now", "LHumpYard$Yard;", true)
  | 1 => ("HumpYard", "kept", "LHumpYard$Yard;", true)
  | 2 => ("HumpYard", "keptOnce", "Z", false)
  | 3 => ("HumpYard", "tape", "LHumpYard$Tape;", true)
  | 4 => ("HumpYard", "sheet", "LHumpYard$Paper;", true)
  | 5 => ("HumpYard", "lists", "LHumpYard$Lists;", true)
  | 6 => ("HumpYard", "binder", "LHumpYard$Binder;", true)
  | 7 => ("HumpYard", "renumbering", "LHumpYard$Renumbering;", true)
  | 8 => ("HumpYard", "thought", "LHumpYard$Lanes;", true)
  | _ => ("HumpYard", "tried", "[I", true)
def tyX8 : Nat → FieldType := fun k => match k with
  | 0 => .object "HumpYard$Yard"
  | 1 => .object "HumpYard$Yard"
  | 2 => .boolean
  | 3 => .object "HumpYard$Tape"
  | 4 => .object "HumpYard$Paper"
  | 5 => .object "HumpYard$Lists"
  | 6 => .object "HumpYard$Binder"
  | 7 => .object "HumpYard$Renumbering"
  | 8 => .object "HumpYard$Lanes"
  | _ => .array .int
abbrev wsX80 : List Cond := u_ws RX8 TX8 10
theorem nmX8 : ∀ a, a < 10 → ∀ b, b < 10 → a ≠ b → (TX8 a).2.1 ≠ (TX8 b).2.1 := by decide +kernel
theorem tyX8_ok : ∀ k, k < 10 → parseFieldDescriptor (TX8 k).2.2.1 = some (tyX8 k) := by decide +kernel
abbrev cX8_init : ByteArray := prog_1_method_1_code
def yX8_init : MethodName := ⟨RX8, "<init>", "()V"⟩
abbrev cX8_feed : ByteArray := prog_1_method_2_code
def yX8_feed : MethodName := ⟨RX8, "feed", "(IIIII)I"⟩
abbrev cX8_yard : ByteArray := prog_1_method_3_code
def yX8_yard : MethodName := ⟨RX8, "yard", "()I"⟩
abbrev cX8_codes : ByteArray := prog_1_method_4_code
def yX8_codes : MethodName := ⟨RX8, "codes", "()I"⟩
abbrev cX8_set : ByteArray := prog_1_method_5_code
def yX8_set : MethodName := ⟨RX8, "set", "(III)I"⟩
abbrev cX8_room : ByteArray := prog_1_method_6_code
def yX8_room : MethodName := ⟨RX8, "room", "(II)I"⟩
abbrev cX8_brand : ByteArray := prog_1_method_7_code
def yX8_brand : MethodName := ⟨RX8, "brand", "(I)I"⟩
abbrev cX8_wagon : ByteArray := prog_1_method_8_code
def yX8_wagon : MethodName := ⟨RX8, "wagon", "(II)I"⟩
abbrev cX8_wanted : ByteArray := prog_1_method_9_code
def yX8_wanted : MethodName := ⟨RX8, "wanted", "(II)I"⟩
abbrev cX8_track : ByteArray := prog_1_method_10_code
def yX8_track : MethodName := ⟨RX8, "track", "(II)I"⟩
abbrev cX8_chains : ByteArray := prog_1_method_11_code
def yX8_chains : MethodName := ⟨RX8, "chains", "(I)I"⟩
abbrev cX8_fewest : ByteArray := prog_1_method_12_code
def yX8_fewest : MethodName := ⟨RX8, "fewest", "(I)I"⟩
abbrev cX8_presort : ByteArray := prog_1_method_13_code
def yX8_presort : MethodName := ⟨RX8, "presort", "()I"⟩
abbrev cX8_right : ByteArray := prog_1_method_14_code
def yX8_right : MethodName := ⟨RX8, "right", "(I)I"⟩
abbrev cX8_bounded : ByteArray := prog_1_method_15_code
def yX8_bounded : MethodName := ⟨RX8, "bounded", "(I)I"⟩
abbrev cX8_bind : ByteArray := prog_1_method_16_code
def yX8_bind : MethodName := ⟨RX8, "bind", "()I"⟩
abbrev cX8_mean : ByteArray := prog_1_method_17_code
def yX8_mean : MethodName := ⟨RX8, "mean", "(I)J"⟩
abbrev cX8_hump : ByteArray := prog_1_method_18_code
def yX8_hump : MethodName := ⟨RX8, "hump", "()I"⟩
abbrev cX8_pull : ByteArray := prog_1_method_19_code
def yX8_pull : MethodName := ⟨RX8, "pull", "(I)I"⟩
abbrev cX8_clear : ByteArray := prog_1_method_20_code
def yX8_clear : MethodName := ⟨RX8, "clear", "()I"⟩
abbrev cX8_out : ByteArray := prog_1_method_21_code
def yX8_out : MethodName := ⟨RX8, "out", "(II)I"⟩
abbrev cX8_wrong : ByteArray := prog_1_method_22_code
def yX8_wrong : MethodName := ⟨RX8, "wrong", "(I)I"⟩
abbrev cX8_replay : ByteArray := prog_1_method_23_code
def yX8_replay : MethodName := ⟨RX8, "replay", "(I)I"⟩
abbrev cX8_spell : ByteArray := prog_1_method_24_code
def yX8_spell : MethodName := ⟨RX8, "spell", "()I"⟩
abbrev cX8_paper : ByteArray := prog_1_method_25_code
def yX8_paper : MethodName := ⟨RX8, "paper", "(I)I"⟩
abbrev cX8_elsewhere : ByteArray := prog_1_method_26_code
def yX8_elsewhere : MethodName := ⟨RX8, "elsewhere", "(I)I"⟩
abbrev cX8_drawn : ByteArray := prog_1_method_27_code
def yX8_drawn : MethodName := ⟨RX8, "drawn", "(II)I"⟩
abbrev cX8_odds : ByteArray := prog_1_method_28_code
def yX8_odds : MethodName := ⟨RX8, "odds", "(IIII)J"⟩
abbrev cX8_seen : ByteArray := prog_1_method_29_code
def yX8_seen : MethodName := ⟨RX8, "seen", "(III)I"⟩
abbrev cX8_judge : ByteArray := prog_1_method_30_code
def yX8_judge : MethodName := ⟨RX8, "judge", "(I)I"⟩
abbrev cX8_list : ByteArray := prog_1_method_31_code
def yX8_list : MethodName := ⟨RX8, "list", "(II)I"⟩
abbrev cX8_put : ByteArray := prog_1_method_32_code
def yX8_put : MethodName := ⟨RX8, "put", "(III)I"⟩
abbrev cX8_get : ByteArray := prog_1_method_33_code
def yX8_get : MethodName := ⟨RX8, "get", "(II)J"⟩
abbrev cX8_lay : ByteArray := prog_1_method_34_code
def yX8_lay : MethodName := ⟨RX8, "lay", "(IIII)I"⟩
abbrev cX8_image : ByteArray := prog_1_method_35_code
def yX8_image : MethodName := ⟨RX8, "image", "()I"⟩
abbrev cX8_undo : ByteArray := prog_1_method_36_code
def yX8_undo : MethodName := ⟨RX8, "undo", "()I"⟩
abbrev cX8_count : ByteArray := prog_1_method_37_code
def yX8_count : MethodName := ⟨RX8, "count", "(I)I"⟩
abbrev cX8_isTrain : ByteArray := prog_1_method_38_code
def yX8_isTrain : MethodName := ⟨RX8, "isTrain", "(I)Z"⟩
abbrev cX8_isTrack : ByteArray := prog_1_method_39_code
def yX8_isTrack : MethodName := ⟨RX8, "isTrack", "(I)Z"⟩
abbrev cX8_fewestNow : ByteArray := prog_1_method_40_code
def yX8_fewestNow : MethodName := ⟨RX8, "fewestNow", "()I"⟩
abbrev cX8_presortedCode : ByteArray := prog_1_method_41_code
def yX8_presortedCode : MethodName := ⟨RX8, "presortedCode", "(I)I"⟩
abbrev cX8_whereIs : ByteArray := prog_1_method_42_code
def yX8_whereIs : MethodName := ⟨RX8, "whereIs", "(I)I"⟩
abbrev cX8_partOfLowest : ByteArray := prog_1_method_43_code
def yX8_partOfLowest : MethodName := ⟨RX8, "partOfLowest", "(III)J"⟩
abbrev cX8_replayed : ByteArray := prog_1_method_44_code
def yX8_replayed : MethodName := ⟨RX8, "replayed", "(I)I"⟩
abbrev cX8_wrongInThought : ByteArray := prog_1_method_45_code
def yX8_wrongInThought : MethodName := ⟨RX8, "wrongInThought", "(I)I"⟩
abbrev cX8_spellPull : ByteArray := prog_1_method_46_code
def yX8_spellPull : MethodName := ⟨RX8, "spellPull", "(I)V"⟩
abbrev cX8_tellsOut : ByteArray := prog_1_method_47_code
def yX8_tellsOut : MethodName := ⟨RX8, "tellsOut", "(II)Z"⟩
def RX9 : String := "HumpYardModel"
def TX9 : u_T := fun k => match k with
  | 0 => ("HumpYardModel", "w", "[I", true)
  | 1 => ("HumpYardModel", "kept", "[I", true)
  | 2 => ("HumpYardModel", "thought", "[I", true)
  | 3 => ("HumpYardModel", "isKept", "Z", false)
  | 4 => ("HumpYardModel", "tape", "[I", true)
  | 5 => ("HumpYardModel", "taped", "I", false)
  | 6 => ("HumpYardModel", "number", "[I", true)
  | 7 => ("HumpYardModel", "chosen", "[I", true)
  | 8 => ("HumpYardModel", "best", "[I", true)
  | 9 => ("HumpYardModel", "turn", "[I", true)
  | 10 => ("HumpYardModel", "load", "[I", true)
  | 11 => ("HumpYardModel", "bestSteps", "I", false)
  | 12 => ("HumpYardModel", "bestRolls", "I", false)
  | 13 => ("HumpYardModel", "rolled", "I", false)
  | 14 => ("HumpYardModel", "isSpelled", "Z", false)
  | 15 => ("HumpYardModel", "paper", "[I", true)
  | 16 => ("HumpYardModel", "written", "I", false)
  | 17 => ("HumpYardModel", "drawn", "[I", true)
  | 18 => ("HumpYardModel", "items", "[I", true)
  | _ => ("HumpYardModel", "listMany", "[I", true)
def tyX9 : Nat → FieldType := fun k => match k with
  | 0 => .array .int
  | 1 => .array .int
  | 2 => .array .int
  | 3 => .boolean
  | 4 => .array .int
  | 5 => .int
  | 6 => .array .int
  | 7 => .array .int
  | 8 => .array .int
  | 9 => .array .int
  | 10 => .array .int
  | 11 => .int
  | 12 => .int
  | 13 => .int
  | 14 => .boolean
  | 15 => .array .int
  | 16 => .int
  | 17 => .array .int
  | 18 => .array .int
  | _ => .array .int
abbrev wsX90 : List Cond := u_ws RX9 TX9 20
theorem nmX9 : ∀ a, a < 20 → ∀ b, b < 20 → a ≠ b → (TX9 a).2.1 ≠ (TX9 b).2.1 := by decide +kernel
theorem tyX9_ok : ∀ k, k < 20 → parseFieldDescriptor (TX9 k).2.2.1 = some (tyX9 k) := by decide +kernel
abbrev cX9_init : ByteArray := prog_11_method_1_code
def yX9_init : MethodName := ⟨RX9, "<init>", "()V"⟩
abbrev cX9_isIn : ByteArray := prog_11_method_2_code
def yX9_isIn : MethodName := ⟨RX9, "isIn", "(JJJ)Z"⟩
abbrev cX9_isWagon : ByteArray := prog_11_method_3_code
def yX9_isWagon : MethodName := ⟨RX9, "isWagon", "(I)Z"⟩
abbrev cX9_isTrain : ByteArray := prog_11_method_4_code
def yX9_isTrain : MethodName := ⟨RX9, "isTrain", "(I)Z"⟩
abbrev cX9_isTrack : ByteArray := prog_11_method_5_code
def yX9_isTrack : MethodName := ⟨RX9, "isTrack", "(I)Z"⟩
abbrev cX9_has : ByteArray := prog_11_method_6_code
def yX9_has : MethodName := ⟨RX9, "has", "(II)Z"⟩
abbrev cX9_ones : ByteArray := prog_11_method_7_code
def yX9_ones : MethodName := ⟨RX9, "ones", "(I)I"⟩
abbrev cX9_mayBe : ByteArray := prog_11_method_8_code
def yX9_mayBe : MethodName := ⟨RX9, "mayBe", "(II)Z"⟩
abbrev cX9_wantedAt : ByteArray := prog_11_method_9_code
def yX9_wantedAt : MethodName := ⟨RX9, "wantedAt", "(II)I"⟩
abbrev cX9_clears : ByteArray := prog_11_method_10_code
def yX9_clears : MethodName := ⟨RX9, "clears", "()V"⟩
abbrev cX9_feed : ByteArray := prog_11_method_11_code
def yX9_feed : MethodName := ⟨RX9, "feed", "(IIIII)I"⟩
abbrev cX9_yardFault : ByteArray := prog_11_method_12_code
def yX9_yardFault : MethodName := ⟨RX9, "yardFault", "()I"⟩
abbrev cX9_yard : ByteArray := prog_11_method_13_code
def yX9_yard : MethodName := ⟨RX9, "yard", "()I"⟩
abbrev cX9_codes : ByteArray := prog_11_method_14_code
def yX9_codes : MethodName := ⟨RX9, "codes", "()I"⟩
abbrev cX9_set : ByteArray := prog_11_method_15_code
def yX9_set : MethodName := ⟨RX9, "set", "(III)I"⟩
abbrev cX9_room : ByteArray := prog_11_method_16_code
def yX9_room : MethodName := ⟨RX9, "room", "(II)I"⟩
abbrev cX9_brand : ByteArray := prog_11_method_17_code
def yX9_brand : MethodName := ⟨RX9, "brand", "(I)I"⟩
abbrev cX9_asTheyAre : ByteArray := prog_11_method_18_code
def yX9_asTheyAre : MethodName := ⟨RX9, "asTheyAre", "()V"⟩
abbrev cX9_chainsOf : ByteArray := prog_11_method_19_code
def yX9_chainsOf : MethodName := ⟨RX9, "chainsOf", "(I)I"⟩
abbrev cX9_need : ByteArray := prog_11_method_20_code
def yX9_need : MethodName := ⟨RX9, "need", "()I"⟩
abbrev cX9_fewestFor : ByteArray := prog_11_method_21_code
def yX9_fewestFor : MethodName := ⟨RX9, "fewestFor", "(I)I"⟩
abbrev cX9_placeOf : ByteArray := prog_11_method_22_code
def yX9_placeOf : MethodName := ⟨RX9, "placeOf", "(I)I"⟩
abbrev cX9_chainOf : ByteArray := prog_11_method_23_code
def yX9_chainOf : MethodName := ⟨RX9, "chainOf", "(I)I"⟩
abbrev cX9_codeOf : ByteArray := prog_11_method_24_code
def yX9_codeOf : MethodName := ⟨RX9, "codeOf", "(I)I"⟩
abbrev cX9_fewestNow : ByteArray := prog_11_method_25_code
def yX9_fewestNow : MethodName := ⟨RX9, "fewestNow", "()I"⟩
abbrev cX9_whereIs : ByteArray := prog_11_method_26_code
def yX9_whereIs : MethodName := ⟨RX9, "whereIs", "(I)I"⟩
abbrev cX9_wagon : ByteArray := prog_11_method_27_code
def yX9_wagon : MethodName := ⟨RX9, "wagon", "(II)I"⟩
abbrev cX9_wanted : ByteArray := prog_11_method_28_code
def yX9_wanted : MethodName := ⟨RX9, "wanted", "(II)I"⟩
abbrev cX9_lengthsOn : ByteArray := prog_11_method_29_code
def yX9_lengthsOn : MethodName := ⟨RX9, "lengthsOn", "(I)I"⟩
abbrev cX9_loadOf : ByteArray := prog_11_method_30_code
def yX9_loadOf : MethodName := ⟨RX9, "loadOf", "(I)I"⟩
abbrev cX9_track : ByteArray := prog_11_method_31_code
def yX9_track : MethodName := ⟨RX9, "track", "(II)I"⟩
abbrev cX9_chains : ByteArray := prog_11_method_32_code
def yX9_chains : MethodName := ⟨RX9, "chains", "(I)I"⟩
abbrev cX9_mayAll : ByteArray := prog_11_method_33_code
def yX9_mayAll : MethodName := ⟨RX9, "mayAll", "()I"⟩
abbrev cX9_fewest : ByteArray := prog_11_method_34_code
def yX9_fewest : MethodName := ⟨RX9, "fewest", "(I)I"⟩
abbrev cX9_stepsNow : ByteArray := prog_11_method_35_code
def yX9_stepsNow : MethodName := ⟨RX9, "stepsNow", "()I"⟩
abbrev cX9_stepsOf : ByteArray := prog_11_method_36_code
def yX9_stepsOf : MethodName := ⟨RX9, "stepsOf", "(I)I"⟩
abbrev cX9_rollsNow : ByteArray := prog_11_method_37_code
def yX9_rollsNow : MethodName := ⟨RX9, "rollsNow", "()I"⟩
abbrev cX9_presort : ByteArray := prog_11_method_38_code
def yX9_presort : MethodName := ⟨RX9, "presort", "()I"⟩
abbrev cX9_notRight : ByteArray := prog_11_method_39_code
def yX9_notRight : MethodName := ⟨RX9, "notRight", "()I"⟩
abbrev cX9_tooLoaded : ByteArray := prog_11_method_40_code
def yX9_tooLoaded : MethodName := ⟨RX9, "tooLoaded", "()I"⟩
abbrev cX9_mayAllCodes : ByteArray := prog_11_method_41_code
def yX9_mayAllCodes : MethodName := ⟨RX9, "mayAllCodes", "()Z"⟩
abbrev cX9_right : ByteArray := prog_11_method_42_code
def yX9_right : MethodName := ⟨RX9, "right", "(I)I"⟩
abbrev cX9_orders : ByteArray := prog_11_method_43_code
def yX9_orders : MethodName := ⟨RX9, "orders", "()V"⟩
abbrev cX9_lowAt : ByteArray := prog_11_method_44_code
def yX9_lowAt : MethodName := ⟨RX9, "lowAt", "(I)I"⟩
abbrev cX9_loads : ByteArray := prog_11_method_45_code
def yX9_loads : MethodName := ⟨RX9, "loads", "(II)V"⟩
abbrev cX9_isRoomy : ByteArray := prog_11_method_46_code
def yX9_isRoomy : MethodName := ⟨RX9, "isRoomy", "()Z"⟩
abbrev cX9_isBetter : ByteArray := prog_11_method_47_code
def yX9_isBetter : MethodName := ⟨RX9, "isBetter", "()Z"⟩
abbrev cX9_isBest : ByteArray := prog_11_method_48_code
def yX9_isBest : MethodName := ⟨RX9, "isBest", "()V"⟩
abbrev cX9_isHopeless : ByteArray := prog_11_method_49_code
def yX9_isHopeless : MethodName := ⟨RX9, "isHopeless", "(I)Z"⟩
abbrev cX9_goesOn : ByteArray := prog_11_method_50_code
def yX9_goesOn : MethodName := ⟨RX9, "goesOn", "(I)Z"⟩
abbrev cX9_findBounded : ByteArray := prog_11_method_51_code
def yX9_findBounded : MethodName := ⟨RX9, "findBounded", "()V"⟩
abbrev cX9_bounded : ByteArray := prog_11_method_52_code
def yX9_bounded : MethodName := ⟨RX9, "bounded", "(I)I"⟩
abbrev cX9_bind : ByteArray := prog_11_method_53_code
def yX9_bind : MethodName := ⟨RX9, "bind", "()I"⟩
abbrev cX9_common : ByteArray := prog_11_method_54_code
def yX9_common : MethodName := ⟨RX9, "common", "(JJ)J"⟩
abbrev cX9_partOf : ByteArray := prog_11_method_55_code
def yX9_partOf : MethodName := ⟨RX9, "partOf", "(JJI)J"⟩
abbrev cX9_mean : ByteArray := prog_11_method_56_code
def yX9_mean : MethodName := ⟨RX9, "mean", "(I)J"⟩
abbrev cX9_copies : ByteArray := prog_11_method_57_code
def yX9_copies : MethodName := ⟨RX9, "copies", "([I[I)V"⟩
abbrev cX9_rolls : ByteArray := prog_11_method_58_code
def yX9_rolls : MethodName := ⟨RX9, "rolls", "(II)V"⟩
abbrev cX9_humps : ByteArray := prog_11_method_59_code
def yX9_humps : MethodName := ⟨RX9, "humps", "()V"⟩
abbrev cX9_pulls : ByteArray := prog_11_method_60_code
def yX9_pulls : MethodName := ⟨RX9, "pulls", "(I)V"⟩
abbrev cX9_isOver : ByteArray := prog_11_method_61_code
def yX9_isOver : MethodName := ⟨RX9, "isOver", "()Z"⟩
abbrev cX9_outs : ByteArray := prog_11_method_62_code
def yX9_outs : MethodName := ⟨RX9, "outs", "()I"⟩
abbrev cX9_hump : ByteArray := prog_11_method_63_code
def yX9_hump : MethodName := ⟨RX9, "hump", "()I"⟩
abbrev cX9_pull : ByteArray := prog_11_method_64_code
def yX9_pull : MethodName := ⟨RX9, "pull", "(I)I"⟩
abbrev cX9_clear : ByteArray := prog_11_method_65_code
def yX9_clear : MethodName := ⟨RX9, "clear", "()I"⟩
abbrev cX9_out : ByteArray := prog_11_method_66_code
def yX9_out : MethodName := ⟨RX9, "out", "(II)I"⟩
abbrev cX9_wrongOf : ByteArray := prog_11_method_67_code
def yX9_wrongOf : MethodName := ⟨RX9, "wrongOf", "(I)I"⟩
abbrev cX9_wrong : ByteArray := prog_11_method_68_code
def yX9_wrong : MethodName := ⟨RX9, "wrong", "(I)I"⟩
abbrev cX9_pullsFault : ByteArray := prog_11_method_69_code
def yX9_pullsFault : MethodName := ⟨RX9, "pullsFault", "()I"⟩
abbrev cX9_replayed : ByteArray := prog_11_method_70_code
def yX9_replayed : MethodName := ⟨RX9, "replayed", "(II)I"⟩
abbrev cX9_replay : ByteArray := prog_11_method_71_code
def yX9_replay : MethodName := ⟨RX9, "replay", "(I)I"⟩
abbrev cX9_says : ByteArray := prog_11_method_72_code
def yX9_says : MethodName := ⟨RX9, "says", "(I)V"⟩
abbrev cX9_wholeRun : ByteArray := prog_11_method_73_code
def yX9_wholeRun : MethodName := ⟨RX9, "wholeRun", "()V"⟩
abbrev cX9_spell : ByteArray := prog_11_method_74_code
def yX9_spell : MethodName := ⟨RX9, "spell", "()I"⟩
abbrev cX9_paper : ByteArray := prog_11_method_75_code
def yX9_paper : MethodName := ⟨RX9, "paper", "(I)I"⟩
abbrev cX9_moves : ByteArray := prog_11_method_76_code
def yX9_moves : MethodName := ⟨RX9, "moves", "(II)V"⟩
abbrev cX9_elsewhere : ByteArray := prog_11_method_77_code
def yX9_elsewhere : MethodName := ⟨RX9, "elsewhere", "(I)I"⟩
abbrev cX9_draws : ByteArray := prog_11_method_78_code
def yX9_draws : MethodName := ⟨RX9, "draws", "(I)V"⟩
abbrev cX9_drawn : ByteArray := prog_11_method_79_code
def yX9_drawn : MethodName := ⟨RX9, "drawn", "(II)I"⟩
abbrev cX9_odds : ByteArray := prog_11_method_80_code
def yX9_odds : MethodName := ⟨RX9, "odds", "(IIII)J"⟩
abbrev cX9_isList : ByteArray := prog_11_method_81_code
def yX9_isList : MethodName := ⟨RX9, "isList", "(I)Z"⟩
abbrev cX9_isSeen : ByteArray := prog_11_method_82_code
def yX9_isSeen : MethodName := ⟨RX9, "isSeen", "(II)Z"⟩
abbrev cX9_seen : ByteArray := prog_11_method_83_code
def yX9_seen : MethodName := ⟨RX9, "seen", "(III)I"⟩
abbrev cX9_judged : ByteArray := prog_11_method_84_code
def yX9_judged : MethodName := ⟨RX9, "judged", "()I"⟩
abbrev cX9_judge : ByteArray := prog_11_method_85_code
def yX9_judge : MethodName := ⟨RX9, "judge", "(I)I"⟩
abbrev cX9_list : ByteArray := prog_11_method_86_code
def yX9_list : MethodName := ⟨RX9, "list", "(II)I"⟩
abbrev cX9_put : ByteArray := prog_11_method_87_code
def yX9_put : MethodName := ⟨RX9, "put", "(III)I"⟩
abbrev cX9_get : ByteArray := prog_11_method_88_code
def yX9_get : MethodName := ⟨RX9, "get", "(II)J"⟩
abbrev cX9_lay : ByteArray := prog_11_method_89_code
def yX9_lay : MethodName := ⟨RX9, "lay", "(IIII)I"⟩
abbrev cX9_image : ByteArray := prog_11_method_90_code
def yX9_image : MethodName := ⟨RX9, "image", "()I"⟩
abbrev cX9_undo : ByteArray := prog_11_method_91_code
def yX9_undo : MethodName := ⟨RX9, "undo", "()I"⟩
abbrev cX9_lying : ByteArray := prog_11_method_92_code
def yX9_lying : MethodName := ⟨RX9, "lying", "()I"⟩
abbrev cX9_count : ByteArray := prog_11_method_93_code
def yX9_count : MethodName := ⟨RX9, "count", "(I)I"⟩
def RJ6 : String := "java/lang/Integer"
def TJ6 : u_T := fun k => match k with
  | _ => ("", "", "", false)
def tyJ6 : Nat → FieldType := fun k => match k with
  | _ => .int
abbrev wsJ60 : List Cond := u_ws RJ6 TJ6 0
theorem nmJ6 : ∀ a, a < 0 → ∀ b, b < 0 → a ≠ b → (TJ6 a).2.1 ≠ (TJ6 b).2.1 := by decide +kernel
theorem tyJ6_ok : ∀ k, k < 0 → parseFieldDescriptor (TJ6 k).2.2.1 = some (tyJ6 k) := by decide +kernel
abbrev cJ6_bitCount_0f7a4 : ByteArray := prog_12_method_49_code
def yJ6_bitCount_0f7a4 : MethodName := ⟨RJ6, "bitCount", "(I)I"⟩
def RJ9 : String := "java/lang/Math"
def TJ9 : u_T := fun k => match k with
  | _ => ("", "", "", false)
def tyJ9 : Nat → FieldType := fun k => match k with
  | _ => .int
abbrev wsJ90 : List Cond := u_ws RJ9 TJ9 0
theorem nmJ9 : ∀ a, a < 0 → ∀ b, b < 0 → a ≠ b → (TJ9 a).2.1 ≠ (TJ9 b).2.1 := by decide +kernel
theorem tyJ9_ok : ∀ k, k < 0 → parseFieldDescriptor (TJ9 k).2.2.1 = some (tyJ9 k) := by decide +kernel
abbrev cJ9_max_7cf53 : ByteArray := prog_13_method_65_code
def yJ9_max_7cf53 : MethodName := ⟨RJ9, "max", "(II)I"⟩
abbrev cJ9_min_7cf53 : ByteArray := prog_13_method_69_code
def yJ9_min_7cf53 : MethodName := ⟨RJ9, "min", "(II)I"⟩
def RJ10 : String := "java/lang/System"
def TJ10 : u_T := fun k => match k with
  | _ => ("", "", "", false)
def tyJ10 : Nat → FieldType := fun k => match k with
  | _ => .int
abbrev wsJ100 : List Cond := u_ws RJ10 TJ10 0
theorem nmJ10 : ∀ a, a < 0 → ∀ b, b < 0 → a ≠ b → (TJ10 a).2.1 ≠ (TJ10 b).2.1 := by decide +kernel
theorem tyJ10_ok : ∀ k, k < 0 → parseFieldDescriptor (TJ10 k).2.2.1 = some (tyJ10 k) := by decide +kernel
def RL : String := "HumpYardLaw"
abbrev cL_law : ByteArray := code
def yL_law : MethodName := ⟨RL, "law", "([I)Z"⟩
abbrev vwCl : List vw_C := [(RX0, TX0, 8), (RX2, TX2, 2), (RX3, TX3, 2), (RX4, TX4, 2), (RX5, TX5, 5), (RX6, TX6, 2), (RX7, TX7, 12), (RX8, TX8, 10), (RX9, TX9, 20)]
end
section
/-! ===== the light machine: threaded code over a memory of ints, and what it says of the real one ===== -/
/-- the memory: by a cell's number and a place in it -/
abbrev hy_M : Type := Nat → Nat → Int32
/-- locals that are known -/
abbrev hy_L : Type := List (Option Value)
/-- threaded code: locals, operand stack, memory -/
abbrev hy_C (β : Type) : Type := hy_L → List Value → hy_M → Option β
def hy_lget : Nat → hy_L → Option Value
  | _, [] => none
  | 0, x :: _ => x
  | n + 1, _ :: l => hy_lget n l
def hy_lset : Nat → Value → hy_L → hy_L
  | _, _, [] => []
  | 0, v, _ :: l => some v :: l
  | n + 1, v, x :: l => x :: hy_lset n v l
def hy_w (D : hy_M) (c i : Nat) (x : Int32) : hy_M := fun c' => if c' = c then upd (D c) i x else D c'
def hy_cp (D : hy_M) (a b sp dp n : Nat) : hy_M := fun c' => if c' = b then va_cpy (D a) (D b) sp dp n else D c'
def hy_in (j : Int32) (n : Nat) : Bool := !(decide (j < 0)) && Nat.ble (j.toNatClampNeg + 1) n
theorem hy_in_vp {j : Int32} {n : Nat} (h : hy_in j n = true) : vp_in j n := by
  simp only [hy_in, Bool.and_eq_true, Bool.not_eq_true', decide_eq_false_iff_not, Nat.ble_eq] at h
  rintro (q | q)
  · exact h.1 q
  · omega
/-- the static shape: kind (0 ints, 1 references, 2 an object), size or class, what references it holds -/
abbrev hy_Sh : Type := List (Nat × Nat × List (Option Nat))
abbrev hy_G : Type := (Nat → Nat) × (Nat → ClassId) × (Nat → Nat → Nat) × ClassId × ClassId
def hy_v (ad : Nat → Nat) : Value → Value
  | .ref c => .ref (ad c)
  | v => v
/-- the cells that the two constructors make, in their order -/
def hy_shape : hy_Sh := [
  (2, 7, [some 1, some 19, none, some 37, some 39, some 41, some 48, some 55, some 58, some 66]),
  (2, 6, [none, none, none, none, some 2, some 3, some 4, some 5, some 6, some 9, some 10, some 11]),
  (0, 8, []),
  (0, 8, []),
  (0, 8, []),
  (0, 8, []),
  (1, 2, [some 7, some 8]),
  (0, 8, []),
  (0, 8, []),
  (0, 2, []),
  (0, 3, []),
  (2, 1, [some 12, some 18]),
  (1, 5, [some 13, some 14, some 15, some 16, some 17]),
  (0, 8, []),
  (0, 8, []),
  (0, 8, []),
  (0, 8, []),
  (0, 8, []),
  (0, 5, []),
  (2, 6, [none, none, none, none, some 20, some 21, some 22, some 23, some 24, some 27, some 28, some 29]),
  (0, 8, []),
  (0, 8, []),
  (0, 8, []),
  (0, 8, []),
  (1, 2, [some 25, some 26]),
  (0, 8, []),
  (0, 8, []),
  (0, 2, []),
  (0, 3, []),
  (2, 1, [some 30, some 36]),
  (1, 5, [some 31, some 32, some 33, some 34, some 35]),
  (0, 8, []),
  (0, 8, []),
  (0, 8, []),
  (0, 8, []),
  (0, 8, []),
  (0, 5, []),
  (2, 5, [some 38, none]),
  (0, 40, []),
  (2, 3, [some 40, none]),
  (0, 71, []),
  (2, 2, [some 42, some 47]),
  (1, 4, [some 43, some 44, some 45, some 46]),
  (0, 12, []),
  (0, 12, []),
  (0, 12, []),
  (0, 12, []),
  (0, 4, []),
  (2, 0, [some 49, none, some 50, some 51, some 52, some 53, none, some 54]),
  (0, 8, []),
  (0, 8, []),
  (0, 8, []),
  (0, 3, []),
  (0, 9, []),
  (0, 8, []),
  (2, 4, [some 56, some 57, none, none, none]),
  (0, 8, []),
  (0, 8, []),
  (2, 1, [some 59, some 65]),
  (1, 5, [some 60, some 61, some 62, some 63, some 64]),
  (0, 8, []),
  (0, 8, []),
  (0, 8, []),
  (0, 8, []),
  (0, 8, []),
  (0, 5, []),
  (0, 8, []),
  (2, 8, [some 68, some 69, some 70, none, some 71, none, some 72, some 73, some 74, some 75, some 76, none, none, none, none, some 77, none, some 78, some 79, some 80]),
  (0, 94, []),
  (0, 94, []),
  (0, 94, []),
  (0, 40, []),
  (0, 8, []),
  (0, 8, []),
  (0, 8, []),
  (0, 8, []),
  (0, 3, []),
  (0, 80, []),
  (0, 8, []),
  (0, 48, []),
  (0, 4, [])]
def hy_sh (c : Nat) : Nat × Nat × List (Option Nat) := hy_shape.getD c (3, 0, [])
def hy_al (c : Nat) : Nat := match hy_sh c with
  | (0, n, _) => n
  | _ => bif Nat.beq c 1000 then 8 else 0
def hy_wl (c : Nat) : Nat := match hy_sh c with
  | (0, n, _) => n
  | _ => 0
def hy_rl (c : Nat) : Nat := match hy_sh c with
  | (1, n, _) => n
  | _ => 0
def hy_pr (c k : Nat) : Nat := ((hy_sh c).2.2.getD k none).getD 0
/-- an object of class ci, its field k an int (r false) or a reference -/
def hy_oc (c ci k : Nat) (r : Bool) : Bool := match hy_sh c with
  | (2, ci', rs) => Nat.beq ci ci' && (match rs[k]? with
    | some (some _) => r
    | some none => !r
    | none => false)
  | _ => false
def hy_cl (c ci : Nat) : Bool := match hy_sh c with
  | (2, ci', _) => Nat.beq ci ci'
  | _ => false
def hy_fs (ad : Nat → Nat) (D : hy_M) (c : Nat) : Nat → List (Option Nat) → List Value
  | _, [] => []
  | k, some q :: rs => .ref (ad q) :: hy_fs ad D c (k + 1) rs
  | k, none :: rs => .int (D c k) :: hy_fs ad D c (k + 1) rs
def hy_E (G : hy_G) (D : hy_M) (c : Nat) : va_E := match hy_sh c with
  | (0, n, _) => .inl (G.2.2.2.1, n, .inl (D c))
  | (1, n, rs) => .inl (G.2.2.2.2, n, .inr (.inr (.inr (.inr (fun j => if j < n then some (G.1 ((rs.getD j none).getD 0)) else none)))))
  | (_, ci, rs) => .inr (ci, hy_fs G.1 D c 0 rs)
def hy_ws (G : hy_G) (D : hy_M) : va_W := (List.range 81).map (fun c => (G.1 c, hy_E G D c))
def hy_A (G : hy_G) : Nat → Prop := fun q => ∃ c, c < 81 ∧ G.1 c = q
def hy_inj (G : hy_G) : Prop := ∀ i j, i < 81 → j < 81 → G.1 i = G.1 j → i = j
def hy_HR (G : hy_G) (D : hy_M) (H : Heap) : Prop := va_P (G.2.1, G.2.2.1) vwCl (hy_ws G D) H ∧ ∀ j, j < 8 → D 1000 j = nI j
def hy_nestY : Cond := .fieldLinkNest "HumpYard$Yard" 101 "HumpYard" "AS_THEY_COME" "[I" "HumpYard"
def hy_nestR : Cond := .fieldLinkNest "HumpYard$Renumbering" 28 "HumpYard" "AS_THEY_COME" "[I" "HumpYard"
def hy_K (G : hy_G) (U : State) : Prop :=
  va_K (G.2.1, G.2.2.1) vwCl [(G.2.2.2.1, .int), (G.2.2.2.2, .array .int)] U ∧ va_Z "HumpYard" "AS_THEY_COME" "[I" (.ref (G.1 1000)) (hy_A G) U U.heap ∧ va_T .int (G.1 1000) 8 (fun j => .int (nI j)) (hy_A G) U U.heap ∧ va_Nw hy_nestY U ∧ va_Nw hy_nestR U ∧ hy_inj G
theorem hy_sh_lt {c k n : Nat} {rs : List (Option Nat)} (h : hy_sh c = (k, n, rs)) (hk : k < 3) : c < 81 := by
  by_cases hc : c < 81
  · exact hc
  · have e : hy_shape.length = 81 := by decide +kernel
    have : hy_sh c = (3, 0, []) := by
      unfold hy_sh
      rw [List.getD_eq_getElem?_getD, List.getElem?_eq_none (by omega)]
      rfl
    rw [this] at h
    cases h
    omega
theorem hy_ws_get {G : hy_G} {D : hy_M} {c : Nat} (h : c < 81) : (hy_ws G D)[c]? = some (G.1 c, hy_E G D c) := by
  unfold hy_ws
  rw [List.getElem?_map, List.getElem?_range h]
  rfl
theorem hy_ws_set {G : hy_G} {D D' : hy_M} {c : Nat} {e : va_E} (h : c < 81) (he : hy_E G D' c = e) (ho : ∀ c', c' < 81 → c' ≠ c → hy_E G D' c' = hy_E G D c') : (hy_ws G D).set c (G.1 c, e) = hy_ws G D' := by
  apply List.ext_getElem?
  intro i
  by_cases hi : i < 81
  · rw [hy_ws_get hi]
    by_cases hc : i = c
    · subst hc
      rw [List.getElem?_set_self (by simp [hy_ws, hi]), he]
    · rw [List.getElem?_set_ne (fun q => hc q.symm), hy_ws_get hi, ho i hi hc]
  · rw [List.getElem?_eq_none (by simp [hy_ws]; omega), List.getElem?_eq_none (by simp [hy_ws]; omega)]
theorem hy_D {G : hy_G} (h : hy_inj G) (D : hy_M) : va_D (hy_A G) (hy_ws G D) := by
  have key : ∀ (k : Nat) (q : Nat × va_E), (hy_ws G D)[k]? = some q → k < 81 ∧ q.1 = G.1 k := by
    intro k q hk
    have hl : k < 81 := by
      have := (List.getElem?_eq_some_iff.mp hk).1
      simpa [hy_ws] using this
    rw [hy_ws_get hl] at hk
    cases hk
    exact ⟨hl, rfl⟩
  refine ⟨fun i j p q hi hj hpq => ?_, fun k q hk => ?_⟩
  · obtain ⟨a1, a2⟩ := key i p hi
    obtain ⟨b1, b2⟩ := key j q hj
    exact h i j a1 b1 (by rw [← a2, ← b2]; exact hpq)
  · obtain ⟨a1, a2⟩ := key k q hk
    exact ⟨k, a1, a2.symm⟩
theorem hy_fs_get (ad : Nat → Nat) (D : hy_M) (c : Nat) : ∀ (rs : List (Option Nat)) (k j : Nat), (hy_fs ad D c k rs)[j]? = (rs[j]?).map (fun r => match r with | some q => Value.ref (ad q) | none => Value.int (D c (k + j)))
  | [], k, j => by simp [hy_fs]
  | some q :: rs, k, 0 => by simp [hy_fs]
  | none :: rs, k, 0 => by simp [hy_fs]
  | some q :: rs, k, j + 1 => by
    simp only [hy_fs, List.getElem?_cons_succ]
    rw [hy_fs_get ad D c rs (k + 1) j, show k + 1 + j = k + (j + 1) by omega]
  | none :: rs, k, j + 1 => by
    simp only [hy_fs, List.getElem?_cons_succ]
    rw [hy_fs_get ad D c rs (k + 1) j, show k + 1 + j = k + (j + 1) by omega]
theorem hy_fs_len (ad : Nat → Nat) (D : hy_M) (c : Nat) : ∀ (rs : List (Option Nat)) (k : Nat), (hy_fs ad D c k rs).length = rs.length
  | [], k => rfl
  | some q :: rs, k => by simp [hy_fs, hy_fs_len ad D c rs]
  | none :: rs, k => by simp [hy_fs, hy_fs_len ad D c rs]
theorem hy_w_same (D : hy_M) (c i : Nat) (x : Int32) : hy_w D c i x c = upd (D c) i x := by simp [hy_w]
theorem hy_w_ne {D : hy_M} {c c' i : Nat} {x : Int32} (h : c' ≠ c) : hy_w D c i x c' = D c' := by simp [hy_w, h]
theorem hy_fs_same {ad : Nat → Nat} {D D' : hy_M} {c : Nat} (h : D' c = D c) : ∀ (rs : List (Option Nat)) (k : Nat), hy_fs ad D' c k rs = hy_fs ad D c k rs
  | [], k => rfl
  | some q :: rs, k => by simp [hy_fs, hy_fs_same h rs]
  | none :: rs, k => by simp [hy_fs, hy_fs_same h rs, h]
theorem hy_fs_set {ad : Nat → Nat} {D : hy_M} {c j : Nat} {x : Int32} {rs : List (Option Nat)} (hj : rs[j]? = some none) : (hy_fs ad D c 0 rs).set j (.int x) = hy_fs ad (hy_w D c j x) c 0 rs := by
  apply List.ext_getElem?
  intro i
  by_cases hc : i = j
  · subst hc
    have hl : i < rs.length := (List.getElem?_eq_some_iff.mp hj).1
    rw [List.getElem?_set_self (by rw [hy_fs_len]; exact hl), hy_fs_get, hj]
    simp [hy_w_same, upd]
  · rw [List.getElem?_set_ne (fun q => hc q.symm), hy_fs_get, hy_fs_get]
    simp [hy_w_same, upd, hc]
theorem hy_E_same {G : hy_G} {D D' : hy_M} {c : Nat} (h : D' c = D c) : hy_E G D' c = hy_E G D c := by
  unfold hy_E
  split <;> simp_all [hy_fs_same]
/-! ===== one frame ===== -/
abbrev hy_X : Type := Program × Launch × Env × Room × State × MethodId × Array Value × List Frame × Method × Code × Nat × Nat × (State → Prop)
def hy_WT : List Cond := lw_tbl.filter goodWord
theorem hy_WT_in {w : Cond} (h : w ∈ lw_tbl) (g : goodWord w = true) : w ∈ hy_WT := List.mem_filter.mpr ⟨h, g⟩
theorem hy_in_tb {w : Cond} {i : Nat} (h : tables_1[i]? = some w) (g : goodWord w = true) : w ∈ hy_WT := hy_WT_in (List.mem_append_right _ (List.mem_of_getElem? h)) g
theorem hy_in_sel {w : Cond} {i : Nat} (h : (k2_sels lw_privs)[i]? = some w) (g : goodWord w = true) : w ∈ hy_WT := hy_WT_in (List.mem_append_left _ (List.mem_of_getElem? h)) g
def hy_Wt : hy_X → Heap → List Loc → Nat → Array Slot → List Value → Prop
  | (p, l, e, R, s, m, args, below, meth, c, cells, slots, Q), H, locs, pc, ls, st => W p l e R s m args below meth c H locs cells slots Q (F0 m pc ls st)
def hy_st : hy_X → State
  | (_, _, _, _, s, _, _, _, _, _, _, _, _) => s
/-- what a frame stands on -/
def hy_Cx (G : hy_G) (x : hy_X) (own : String) (cc : ByteArray) (nL fr lo : Nat) : Prop := match x with
  | (p, _, _, R, s, m, args, _, meth, c, cells, slots, _) => p.tables.exec = Jvm.exec ∧ c.code = cc ∧ c.maxLocals = nL ∧ s.vm.findClass own = some m.cls ∧ (∀ w ∈ hy_WT, w.before args s = true) ∧ meth.locks = false ∧ hy_K G s ∧ fr ≤ R.frames ∧ lo ≤ R.locals ∧ cells ≤ R.cells ∧ slots ≤ R.slots
def hy_LR (ad : Nat → Nat) (nL : Nat) (L : hy_L) (ls : Array Slot) : Prop := ls.size = nL ∧ lv_wf ls ∧ ∀ i v, hy_lget i L = some v → ls[i]? = some (.val (hy_v ad v))
/-- threaded code at pc speaks true: whenever it answers b, the machine comes to its end -/
def hy_Sn (G : hy_G) (x : hy_X) (nL pc : Nat) {β : Type} (b : β) (f : hy_C β) : Prop := ∀ (L : hy_L) (S : List Value) (D : hy_M) (ls : Array Slot) (H : Heap) (locs : List Loc), hy_LR G.1 nL L ls → hy_HR G D H → va_S (hy_A G) (hy_st x).heap H locs → f L S D = some b → hy_Wt x H locs pc ls (S.map (hy_v G.1))
def hy_dq (cc : ByteArray) (pc : Nat) (i : Instr) (n : Nat) : Bool := decide (decode cc pc = .ok (i, n))
theorem hy_dqs {cc : ByteArray} {pc n : Nat} {i : Instr} (h : hy_dq cc pc i n = true) : decode cc pc = .ok (i, n) := of_decide_eq_true h
def o_fail {β : Type} : hy_C β := fun _ _ _ => none
def o_push {β : Type} (v : Value) (f : hy_C β) : hy_C β := fun L S D => f L (v :: S) D
def o_iload {β : Type} (i : Nat) (f : hy_C β) : hy_C β := fun L S D => match hy_lget i L with
  | some (.int v) => f L (.int v :: S) D
  | _ => none
def o_lload {β : Type} (i : Nat) (f : hy_C β) : hy_C β := fun L S D => match hy_lget i L with
  | some (.long v) => f L (.long v :: S) D
  | _ => none
def o_aload {β : Type} (i : Nat) (f : hy_C β) : hy_C β := fun L S D => match hy_lget i L with
  | some (.ref v) => f L (.ref v :: S) D
  | _ => none
def hy_isL : Option Value → Bool
  | some (.long _) => true
  | some (.double _) => true
  | _ => false
/-- the place ahead holds no long: it stays when this one is written -/
def hy_ok1 : Nat → hy_L → Bool
  | 0, _ => true
  | i + 1, L => !(hy_isL (hy_lget i L))
def o_istore {β : Type} (i : Nat) (f : hy_C β) : hy_C β := fun L S D => match S with
  | .int v :: S' => bif hy_ok1 i L then f (hy_lset i (.int v) L) S' D else none
  | _ => none
def o_astore {β : Type} (i : Nat) (f : hy_C β) : hy_C β := fun L S D => match S with
  | .ref v :: S' => bif hy_ok1 i L then f (hy_lset i (.ref v) L) S' D else none
  | _ => none
def hy_lkill : Nat → hy_L → hy_L
  | _, [] => []
  | 0, _ :: l => none :: l
  | n + 1, x :: l => x :: hy_lkill n l
def o_lstore {β : Type} (i : Nat) (f : hy_C β) : hy_C β := fun L S D => match S with
  | .long v :: S' => bif hy_ok1 i L then f (hy_lkill (i + 1) (hy_lset i (.long v) L)) S' D else none
  | _ => none
def o_iinc {β : Type} (i : Nat) (n : Int32) (f : hy_C β) : hy_C β := fun L S D => match hy_lget i L with
  | some (.int v) => bif hy_ok1 i L then f (hy_lset i (.int (v + n)) L) S D else none
  | _ => none
def o_i2 {β : Type} (op : Int32 → Int32 → Int32) (f : hy_C β) : hy_C β := fun L S D => match S with
  | .int y :: .int z :: S' => f L (.int (op z y) :: S') D
  | _ => none
def o_idiv {β : Type} (f : hy_C β) : hy_C β := fun L S D => match S with
  | .int y :: .int z :: S' => if y = 0 then none else f L (.int (z / y) :: S') D
  | _ => none
def o_irem {β : Type} (f : hy_C β) : hy_C β := fun L S D => match S with
  | .int y :: .int z :: S' => if y = 0 then none else f L (.int (z - z / y * y) :: S') D
  | _ => none
def o_ldiv {β : Type} (f : hy_C β) : hy_C β := fun L S D => match S with
  | .long y :: .long z :: S' => if y = 0 then none else f L (.long (z / y) :: S') D
  | _ => none
def o_lrem {β : Type} (f : hy_C β) : hy_C β := fun L S D => match S with
  | .long y :: .long z :: S' => if y = 0 then none else f L (.long (z - z / y * y) :: S') D
  | _ => none
def o_ineg {β : Type} (f : hy_C β) : hy_C β := fun L S D => match S with
  | .int y :: S' => f L (.int (-y) :: S') D
  | _ => none
def o_i2l {β : Type} (f : hy_C β) : hy_C β := fun L S D => match S with
  | .int y :: S' => f L (.long y.toInt64 :: S') D
  | _ => none
def o_lcmp {β : Type} (f : hy_C β) : hy_C β := fun L S D => match S with
  | .long y :: .long z :: S' => f L (.int (lg_cmp z y) :: S') D
  | _ => none
def o_dup {β : Type} (f : hy_C β) : hy_C β := fun L S D => match S with
  | .int y :: S' => f L (.int y :: .int y :: S') D
  | .ref y :: S' => f L (.ref y :: .ref y :: S') D
  | _ => none
def o_dup2 {β : Type} (f : hy_C β) : hy_C β := fun L S D => match S with
  | .int y :: .ref z :: S' => f L (.int y :: .ref z :: .int y :: .ref z :: S') D
  | _ => none
def o_pop {β : Type} (f : hy_C β) : hy_C β := fun L S D => match S with
  | .int _ :: S' => f L S' D
  | _ => none
/-- branches: f where it goes, g the next -/
def o_ceq {β : Type} (f g : hy_C β) : hy_C β := fun L S D => match S with
  | .int y :: .int z :: S' => if z = y then f L S' D else g L S' D
  | _ => none
def o_clt {β : Type} (f g : hy_C β) : hy_C β := fun L S D => match S with
  | .int y :: .int z :: S' => if z < y then f L S' D else g L S' D
  | _ => none
def o_cgt {β : Type} (f g : hy_C β) : hy_C β := fun L S D => match S with
  | .int y :: .int z :: S' => if y < z then f L S' D else g L S' D
  | _ => none
def o_zeq {β : Type} (f g : hy_C β) : hy_C β := fun L S D => match S with
  | .int z :: S' => if z = 0 then f L S' D else g L S' D
  | _ => none
def o_zlt {β : Type} (f g : hy_C β) : hy_C β := fun L S D => match S with
  | .int z :: S' => if z < 0 then f L S' D else g L S' D
  | _ => none
def o_zgt {β : Type} (f g : hy_C β) : hy_C β := fun L S D => match S with
  | .int z :: S' => if 0 < z then f L S' D else g L S' D
  | _ => none
/-- a table, by the int on top -/
def hy_tab {β : Type} (z : Int32) (L : hy_L) (S : List Value) (D : hy_M) (d : hy_C β) : List (Int32 × hy_C β) → Option β
  | [] => d L S D
  | (k, f) :: fs => if z = k then f L S D else hy_tab z L S D d fs
def o_tab {β : Type} (ks : List (Int32 × hy_C β)) (d : hy_C β) : hy_C β := fun L S D => match S with
  | .int z :: S' => hy_tab z L S' D d ks
  | _ => none
/-- the memory -/
def o_getI {β : Type} (ci k : Nat) (f : hy_C β) : hy_C β := fun L S D => match S with
  | .ref o :: S' => bif hy_oc o ci k false then f L (.int (D o k) :: S') D else none
  | _ => none
def o_getR {β : Type} (ci k : Nat) (f : hy_C β) : hy_C β := fun L S D => match S with
  | .ref o :: S' => bif hy_oc o ci k true then f L (.ref (hy_pr o k) :: S') D else none
  | _ => none
def o_putI {β : Type} (ci k : Nat) (f : hy_C β) : hy_C β := fun L S D => match S with
  | .int v :: .ref o :: S' => bif hy_oc o ci k false then f L S' (hy_w D o k v) else none
  | _ => none
def o_putZ {β : Type} (ci k : Nat) (f : hy_C β) : hy_C β := fun L S D => match S with
  | .int v :: .ref o :: S' => bif hy_oc o ci k false then (if v = 0 ∨ v = 1 then f L S' (hy_w D o k v) else none) else none
  | _ => none
def o_iald {β : Type} (f : hy_C β) : hy_C β := fun L S D => match S with
  | .int j :: .ref r :: S' => if hy_in j (hy_al r) = true then f L (.int (D r j.toNatClampNeg) :: S') D else none
  | _ => none
def o_iast {β : Type} (f : hy_C β) : hy_C β := fun L S D => match S with
  | .int v :: .int j :: .ref r :: S' => if hy_in j (hy_wl r) = true then f L S' (hy_w D r j.toNatClampNeg v) else none
  | _ => none
def o_aald {β : Type} (f : hy_C β) : hy_C β := fun L S D => match S with
  | .int j :: .ref r :: S' => if hy_in j (hy_rl r) = true then f L (.ref (hy_pr r j.toNatClampNeg) :: S') D else none
  | _ => none
def o_gets {β : Type} (f : hy_C β) : hy_C β := fun L S D => f L (.ref 1000 :: S) D
/-- an array's part into another's -/
def hy_rng (p n : Int32) (k : Nat) : Bool := !(decide (p < 0)) && !(decide (n < 0)) && Nat.ble (p.toNatClampNeg + n.toNatClampNeg) k && Nat.ble 1 k
def hy_cat : List Value → Nat
  | [] => 0
  | v :: l => v.category + hy_cat l
def o_acpy {β : Type} (f : hy_C β) : hy_C β := fun L S D => match S with
  | .int n :: .int dp :: .ref b :: .int sp :: .ref a :: S' => bif Nat.ble (hy_cat S') 8 then (if hy_rng sp n (hy_wl a) = true ∧ hy_rng dp n (hy_wl b) = true then f L S' (hy_cp D a b sp.toNatClampNeg dp.toNatClampNeg n.toNatClampNeg) else none) else none
  | _ => none
/-- calls: n values off the stack -/
def hy_pop : Nat → List Value → List Value → Option (List Value × List Value)
  | 0, acc, S => some (acc, S)
  | n + 1, acc, v :: S => hy_pop n (v :: acc) S
  | _ + 1, _, [] => none
def o_cali {β : Type} (n : Nat) (g : List Value → hy_M → Option (Int32 × hy_M)) (f : hy_C β) : hy_C β := fun L S D => match hy_pop n [] S with
  | some (a, S') => bif Nat.ble (hy_cat S') 8 then (g a D).bind (fun q => f L (.int q.1 :: S') q.2) else none
  | none => none
def o_call {β : Type} (n : Nat) (g : List Value → hy_M → Option (Int64 × hy_M)) (f : hy_C β) : hy_C β := fun L S D => match hy_pop n [] S with
  | some (a, S') => bif Nat.ble (hy_cat S') 8 then (g a D).bind (fun q => f L (.long q.1 :: S') q.2) else none
  | none => none
def o_calv {β : Type} (n : Nat) (g : List Value → hy_M → Option hy_M) (f : hy_C β) : hy_C β := fun L S D => match hy_pop n [] S with
  | some (a, S') => bif Nat.ble (hy_cat S') 8 then (g a D).bind (fun q => f L S' q) else none
  | none => none
/-- the receiver is an object of the class -/
def hy_rc (ci : Nat) (a : List Value) : Bool := match a with
  | .ref o :: _ => hy_cl o ci
  | _ => false
def o_vali {β : Type} (ci n : Nat) (g : List Value → hy_M → Option (Int32 × hy_M)) (f : hy_C β) : hy_C β := fun L S D => match hy_pop n [] S with
  | some (a, S') => bif hy_rc ci a && Nat.ble (hy_cat S') 8 then (g a D).bind (fun q => f L (.int q.1 :: S') q.2) else none
  | none => none
def o_vall {β : Type} (ci n : Nat) (g : List Value → hy_M → Option (Int64 × hy_M)) (f : hy_C β) : hy_C β := fun L S D => match hy_pop n [] S with
  | some (a, S') => bif hy_rc ci a && Nat.ble (hy_cat S') 8 then (g a D).bind (fun q => f L (.long q.1 :: S') q.2) else none
  | none => none
def o_valv {β : Type} (ci n : Nat) (g : List Value → hy_M → Option hy_M) (f : hy_C β) : hy_C β := fun L S D => match hy_pop n [] S with
  | some (a, S') => bif hy_rc ci a && Nat.ble (hy_cat S') 8 then (g a D).bind (fun q => f L S' q) else none
  | none => none
/-- ends -/
def o_iret : hy_C (Int32 × hy_M) := fun _ S D => match S with
  | [.int v] => some (v, D)
  | _ => none
def o_zret : hy_C (Int32 × hy_M) := fun _ S D => match S with
  | [.int v] => if v = 0 ∨ v = 1 then some (v, D) else none
  | _ => none
def o_lret : hy_C (Int64 × hy_M) := fun _ S D => match S with
  | [.long v] => some (v, D)
  | _ => none
def o_vret : hy_C hy_M := fun _ S D => match S with
  | [] => some D
  | _ => none
/-- only some locals stay known -/
def hy_mk : List Bool → hy_L → hy_L
  | _, [] => []
  | [], _ :: l => none :: hy_mk [] l
  | true :: m, v :: l => v :: hy_mk m l
  | false :: m, _ :: l => none :: hy_mk m l
def o_mask {β : Type} (m : List Bool) (f : hy_C β) : hy_C β := fun L S D => f (hy_mk m L) S D
/-- a method's code from its start -/
def hy_wd : List Value → Nat
  | [] => 0
  | v :: l => v.category + hy_wd l
def hy_lo : List Value → hy_L
  | [] => []
  | .long v :: l => some (.long v) :: none :: hy_lo l
  | .double v :: l => some (.double v) :: none :: hy_lo l
  | v :: l => some v :: hy_lo l
def hy_g {β : Type} (nL : Nat) (f : hy_C β) : List Value → hy_M → Option β := fun a D => bif Nat.ble (hy_wd a) nL then f (hy_lo a ++ List.replicate (nL - hy_wd a) none) [] D else none
end
section
theorem hy_lget_lset {i : Nat} {v : Value} : ∀ {j : Nat} {w : Value} {L : hy_L} (_ : hy_lget j (hy_lset i v L) = some w), (j = i ∧ w = v) ∨ (j ≠ i ∧ hy_lget j L = some w) := by
  induction i with
  | zero =>
    intro j w L h
    cases L with
    | nil => simp [hy_lset, hy_lget] at h
    | cons a L =>
      cases j with
      | zero => simp [hy_lset, hy_lget] at h; exact Or.inl ⟨rfl, h.symm⟩
      | succ j => simp [hy_lset, hy_lget] at h; exact Or.inr ⟨by omega, by simpa [hy_lget] using h⟩
  | succ i ih =>
    intro j w L h
    cases L with
    | nil => simp [hy_lset, hy_lget] at h
    | cons a L =>
      cases j with
      | zero => simp [hy_lset, hy_lget] at h; exact Or.inr ⟨by omega, by simpa [hy_lget] using h⟩
      | succ j =>
        simp [hy_lset, hy_lget] at h
        rcases ih h with ⟨q1, q2⟩ | ⟨q1, q2⟩
        · exact Or.inl ⟨by omega, q2⟩
        · exact Or.inr ⟨by omega, by simpa [hy_lget] using q2⟩
theorem hy_lget_lkill {i : Nat} : ∀ {j : Nat} {w : Value} {L : hy_L} (_ : hy_lget j (hy_lkill i L) = some w), j ≠ i ∧ hy_lget j L = some w := by
  induction i with
  | zero =>
    intro j w L h
    cases L with
    | nil => simp [hy_lkill, hy_lget] at h
    | cons a L =>
      cases j with
      | zero => simp [hy_lkill, hy_lget] at h
      | succ j => simp [hy_lkill, hy_lget] at h; exact ⟨by omega, by simpa [hy_lget] using h⟩
  | succ i ih =>
    intro j w L h
    cases L with
    | nil => simp [hy_lkill, hy_lget] at h
    | cons a L =>
      cases j with
      | zero => simp [hy_lkill, hy_lget] at h; exact ⟨by omega, by simpa [hy_lget] using h⟩
      | succ j =>
        simp [hy_lkill, hy_lget] at h
        obtain ⟨q1, q2⟩ := ih h
        exact ⟨by omega, by simpa [hy_lget] using q2⟩
theorem hy_lget_mk : ∀ {m : List Bool} {L : hy_L} {j : Nat} {w : Value} (_ : hy_lget j (hy_mk m L) = some w), hy_lget j L = some w := by
  intro m L
  induction L generalizing m with
  | nil => intro j w h; cases m <;> simp [hy_mk, hy_lget] at h
  | cons a L ih =>
    intro j w h
    cases m with
    | nil =>
      cases j with
      | zero => simp [hy_mk, hy_lget] at h
      | succ j => simp [hy_mk, hy_lget] at h; simpa [hy_lget] using ih h
    | cons q m =>
      cases q <;> cases j with
      | zero => simp [hy_mk, hy_lget] at h <;> first | (simpa [hy_lget] using h) | trivial
      | succ j => simp [hy_mk, hy_lget] at h; simpa [hy_lget] using ih h
theorem hy_v_cat (ad : Nat → Nat) (v : Value) : (hy_v ad v).category = v.category := by cases v <;> rfl
/-- what is known of the locals, as a list -/
def hy_kn (ad : Nat → Nat) (n : Nat) (L : hy_L) : List (Nat × Value) := (List.range n).filterMap (fun i => (hy_lget i L).map (fun v => (i, hy_v ad v)))
theorem hy_kn_in {ad : Nat → Nat} {n j : Nat} {L : hy_L} {v : Value} (hj : j < n) (h : hy_lget j L = some v) : (j, hy_v ad v) ∈ hy_kn ad n L := by
  refine List.mem_filterMap.mpr ⟨j, List.mem_range.mpr hj, ?_⟩
  rw [h]
  rfl
theorem hy_LR_has {ad : Nat → Nat} {n : Nat} {L : hy_L} {ls : Array Slot} (h : hy_LR ad n L ls) : lv_has ls n (hy_kn ad n L) := by
  refine ⟨h.1, h.2.1, fun q hq => ?_⟩
  obtain ⟨i, -, hi⟩ := List.mem_filterMap.mp hq
  cases hg : hy_lget i L with
  | none => rw [hg] at hi; cases hi
  | some v =>
    rw [hg] at hi
    cases hi
    exact h.2.2 i v hg
theorem hy_LR_lt {ad : Nat → Nat} {n : Nat} {L : hy_L} {ls : Array Slot} (h : hy_LR ad n L ls) {j : Nat} {v : Value} (hj : hy_lget j L = some v) : j < n := by
  have := (Array.getElem?_eq_some_iff.mp (h.2.2 j v hj)).1
  rw [h.1] at this
  exact this
theorem hy_ok1_cat {i j : Nat} {L : hy_L} {v : Value} (h : hy_ok1 i L = true) (hj : hy_lget j L = some v) (e : j + 1 = i) : ¬ v.category = 2 := by
  subst e
  simp only [hy_ok1, hj, Bool.not_eq_true'] at h
  cases v <;> simp_all [hy_isL, Value.category]
theorem hy_LR_st1 {ad : Nat → Nat} {n i : Nat} {L : hy_L} {ls ls' : Array Slot} {v : Value} (h : hy_LR ad n L ls) (hok : hy_ok1 i L = true)
    (h' : lv_has ls' n ((i, hy_v ad v) :: (hy_kn ad n L).filter (fun q => !(q.1 == i) && !(q.1 + 1 == i && q.2.category == 2)))) : hy_LR ad n (hy_lset i v L) ls' := by
  refine ⟨h'.1, h'.2.1, fun j w hj => ?_⟩
  rcases hy_lget_lset hj with ⟨rfl, rfl⟩ | ⟨h1, h2⟩
  · exact h'.2.2 _ List.mem_cons_self
  · refine h'.2.2 (j, hy_v ad w) (List.mem_cons_of_mem _ (List.mem_filter.mpr ⟨hy_kn_in (hy_LR_lt h h2) h2, ?_⟩))
    simp only [Bool.and_eq_true, Bool.not_eq_true', beq_eq_false_iff_ne, ne_eq, Bool.and_eq_false_iff]
    refine ⟨h1, ?_⟩
    by_cases e : j + 1 = i
    · right
      rw [hy_v_cat]
      exact hy_ok1_cat hok h2 e
    · exact Or.inl e
theorem hy_LR_st2 {ad : Nat → Nat} {n i : Nat} {L : hy_L} {ls ls' : Array Slot} {v : Value} (h : hy_LR ad n L ls) (hok : hy_ok1 i L = true)
    (h' : lv_has ls' n ((i, hy_v ad v) :: (hy_kn ad n L).filter (fun q => !(q.1 == i) && (!(q.1 == i + 1) && !(q.1 + 1 == i && q.2.category == 2))))) : hy_LR ad n (hy_lkill (i + 1) (hy_lset i v L)) ls' := by
  refine ⟨h'.1, h'.2.1, fun j w hj => ?_⟩
  obtain ⟨h0, hj⟩ := hy_lget_lkill hj
  rcases hy_lget_lset hj with ⟨rfl, rfl⟩ | ⟨h1, h2⟩
  · exact h'.2.2 _ List.mem_cons_self
  · refine h'.2.2 (j, hy_v ad w) (List.mem_cons_of_mem _ (List.mem_filter.mpr ⟨hy_kn_in (hy_LR_lt h h2) h2, ?_⟩))
    simp only [Bool.and_eq_true, Bool.not_eq_true', beq_eq_false_iff_ne, ne_eq, Bool.and_eq_false_iff]
    refine ⟨h1, h0, ?_⟩
    by_cases e : j + 1 = i
    · right
      rw [hy_v_cat]
      exact hy_ok1_cat hok h2 e
    · exact Or.inl e
section HS
variable {G : hy_G} {x : hy_X} {own : String} {cc : ByteArray} {nL fr lo pc : Nat} {β : Type} {b : β} {f g : hy_C β}
theorem hs_fail : hy_Sn G x nL pc b (o_fail : hy_C β) := fun L S D ls H locs hL hH hS h => by cases h
theorem hs_mask {mk : List Bool} (k : hy_Sn G x nL pc b f) : hy_Sn G x nL pc b (o_mask mk f) := fun L S D ls H locs hL hH hS h => k _ S D ls H locs ⟨hL.1, hL.2.1, fun i v hi => hL.2.2 i v (hy_lget_mk hi)⟩ hH hS h
theorem hs_iconst (X : hy_Cx G x own cc nL fr lo) {n : Int} {v : Int32} (d : hy_dq cc pc (.iconst n) 1 = true) (hv : Int32.ofInt n = v) (k : hy_Sn G x nL (pc + 1) b f) : hy_Sn G x nL pc b (o_push (.int v) f) := by
  intro L S D ls H locs hL hH hS h
  obtain ⟨p, l, e, R, s, m, args, below, meth, c, cells, slots, Q⟩ := x
  obtain ⟨hx, hb, hml, hown, hts, hlk, hK, hfr, hlo, hce, hsl⟩ := X
  exact lv_iconst hx hb (hy_dqs d) hv (k L (.int v :: S) D ls H locs hL hH hS h)
theorem hs_bipush (X : hy_Cx G x own cc nL fr lo) {n : Int} {v : Int32} (d : hy_dq cc pc (.bipush n) 2 = true) (hv : (Int8.ofInt n).toInt32 = v) (k : hy_Sn G x nL (pc + 2) b f) : hy_Sn G x nL pc b (o_push (.int v) f) := by
  intro L S D ls H locs hL hH hS h
  obtain ⟨p, l, e, R, s, m, args, below, meth, c, cells, slots, Q⟩ := x
  obtain ⟨hx, hb, hml, hown, hts, hlk, hK, hfr, hlo, hce, hsl⟩ := X
  exact lv_bipush hx hb (hy_dqs d) hv (k L (.int v :: S) D ls H locs hL hH hS h)
theorem hs_sipush (X : hy_Cx G x own cc nL fr lo) {n : Int} {v : Int32} (d : hy_dq cc pc (.sipush n) 3 = true) (hv : (Int16.ofInt n).toInt32 = v) (k : hy_Sn G x nL (pc + 3) b f) : hy_Sn G x nL pc b (o_push (.int v) f) := by
  intro L S D ls H locs hL hH hS h
  obtain ⟨p, l, e, R, s, m, args, below, meth, c, cells, slots, Q⟩ := x
  obtain ⟨hx, hb, hml, hown, hts, hlk, hK, hfr, hlo, hce, hsl⟩ := X
  exact lv_sipush hx hb (hy_dqs d) hv (k L (.int v :: S) D ls H locs hL hH hS h)
theorem hs_lconst (X : hy_Cx G x own cc nL fr lo) {n : Fin 2} {v : Int64} (d : hy_dq cc pc (.lconst n) 1 = true) (hv : Int64.ofNat (n : Nat) = v) (k : hy_Sn G x nL (pc + 1) b f) : hy_Sn G x nL pc b (o_push (.long v) f) := by
  intro L S D ls H locs hL hH hS h
  obtain ⟨p, l, e, R, s, m, args, below, meth, c, cells, slots, Q⟩ := x
  obtain ⟨hx, hb, hml, hown, hts, hlk, hK, hfr, hlo, hce, hsl⟩ := X
  exact lv_lconst hx hb (hy_dqs d) hv (k L (.long v :: S) D ls H locs hL hH hS h)
theorem hs_ldc (X : hy_Cx G x own cc nL fr lo) {index : Nat} {v : Int32} (d : hy_dq cc pc (.ldc index) 2 = true) (w : Cond.constant own index v ∈ hy_WT) (k : hy_Sn G x nL (pc + 2) b f) : hy_Sn G x nL pc b (o_push (.int v) f) := by
  intro L S D ls H locs hL hH hS h
  obtain ⟨p, l, e, R, s, m, args, below, meth, c, cells, slots, Q⟩ := x
  obtain ⟨hx, hb, hml, hown, hts, hlk, hK, hfr, hlo, hce, hsl⟩ := X
  exact lv_ldc hx hb hown (hts _ w) (hy_dqs d) (k L (.int v :: S) D ls H locs hL hH hS h)
theorem hs_ldc_w (X : hy_Cx G x own cc nL fr lo) {index : Nat} {v : Int32} (d : hy_dq cc pc (.ldc_w index) 3 = true) (w : Cond.constant own index v ∈ hy_WT) (k : hy_Sn G x nL (pc + 3) b f) : hy_Sn G x nL pc b (o_push (.int v) f) := by
  intro L S D ls H locs hL hH hS h
  obtain ⟨p, l, e, R, s, m, args, below, meth, c, cells, slots, Q⟩ := x
  obtain ⟨hx, hb, hml, hown, hts, hlk, hK, hfr, hlo, hce, hsl⟩ := X
  exact lv_ldcw hx hb hown (hts _ w) (hy_dqs d) (k L (.int v :: S) D ls H locs hL hH hS h)
theorem hs_ldc2 (X : hy_Cx G x own cc nL fr lo) {index : Nat} {v : Int64} (d : hy_dq cc pc (.ldc2_w index) 3 = true) (w : Cond.constantLong own index v ∈ hy_WT) (k : hy_Sn G x nL (pc + 3) b f) : hy_Sn G x nL pc b (o_push (.long v) f) := by
  intro L S D ls H locs hL hH hS h
  obtain ⟨p, l, e, R, s, m, args, below, meth, c, cells, slots, Q⟩ := x
  obtain ⟨hx, hb, hml, hown, hts, hlk, hK, hfr, hlo, hce, hsl⟩ := X
  exact lv_ldc2 hx hb hown (hts _ w) (hy_dqs d) (k L (.long v :: S) D ls H locs hL hH hS h)
theorem hs_iload (X : hy_Cx G x own cc nL fr lo) {i : Nat} (d : hy_dq cc pc (.iload i) 2 = true) (k : hy_Sn G x nL (pc + 2) b f) : hy_Sn G x nL pc b (o_iload i f) := by
  intro L S D ls H locs hL hH hS h
  obtain ⟨p, l, e, R, s, m, args, below, meth, c, cells, slots, Q⟩ := x
  obtain ⟨hx, hb, hml, hown, hts, hlk, hK, hfr, hlo, hce, hsl⟩ := X
  unfold o_iload at h
  split at h
  · rename_i v hv
    exact lv_iload hx hb (hy_dqs d) (hL.2.2 i _ hv) (k L (.int v :: S) D ls H locs hL hH hS h)
  · cases h
theorem hs_iload_n (X : hy_Cx G x own cc nL fr lo) {i : Nat} {q : Fin 4} (d : hy_dq cc pc (.iload_n q) 1 = true) (hi : (q : Nat) = i) (k : hy_Sn G x nL (pc + 1) b f) : hy_Sn G x nL pc b (o_iload i f) := by
  intro L S D ls H locs hL hH hS h
  obtain ⟨p, l, e, R, s, m, args, below, meth, c, cells, slots, Q⟩ := x
  obtain ⟨hx, hb, hml, hown, hts, hlk, hK, hfr, hlo, hce, hsl⟩ := X
  unfold o_iload at h
  split at h
  · rename_i v hv
    exact lv_iload_n hx hb (hy_dqs d) hi (hL.2.2 i _ hv) (k L (.int v :: S) D ls H locs hL hH hS h)
  · cases h
theorem hs_lload (X : hy_Cx G x own cc nL fr lo) {i : Nat} (d : hy_dq cc pc (.lload i) 2 = true) (k : hy_Sn G x nL (pc + 2) b f) : hy_Sn G x nL pc b (o_lload i f) := by
  intro L S D ls H locs hL hH hS h
  obtain ⟨p, l, e, R, s, m, args, below, meth, c, cells, slots, Q⟩ := x
  obtain ⟨hx, hb, hml, hown, hts, hlk, hK, hfr, hlo, hce, hsl⟩ := X
  unfold o_lload at h
  split at h
  · rename_i v hv
    exact lv_lload hx hb (hy_dqs d) (hL.2.2 i _ hv) (k L (.long v :: S) D ls H locs hL hH hS h)
  · cases h
theorem hs_lload_n (X : hy_Cx G x own cc nL fr lo) {i : Nat} {q : Fin 4} (d : hy_dq cc pc (.lload_n q) 1 = true) (hi : (q : Nat) = i) (k : hy_Sn G x nL (pc + 1) b f) : hy_Sn G x nL pc b (o_lload i f) := by
  intro L S D ls H locs hL hH hS h
  obtain ⟨p, l, e, R, s, m, args, below, meth, c, cells, slots, Q⟩ := x
  obtain ⟨hx, hb, hml, hown, hts, hlk, hK, hfr, hlo, hce, hsl⟩ := X
  unfold o_lload at h
  split at h
  · rename_i v hv
    exact lv_lload_n hx hb (hy_dqs d) hi (hL.2.2 i _ hv) (k L (.long v :: S) D ls H locs hL hH hS h)
  · cases h
theorem hs_aload (X : hy_Cx G x own cc nL fr lo) {i : Nat} (d : hy_dq cc pc (.aload i) 2 = true) (k : hy_Sn G x nL (pc + 2) b f) : hy_Sn G x nL pc b (o_aload i f) := by
  intro L S D ls H locs hL hH hS h
  obtain ⟨p, l, e, R, s, m, args, below, meth, c, cells, slots, Q⟩ := x
  obtain ⟨hx, hb, hml, hown, hts, hlk, hK, hfr, hlo, hce, hsl⟩ := X
  unfold o_aload at h
  split at h
  · rename_i v hv
    exact lv_aload hx hb (hy_dqs d) (hL.2.2 i _ hv) (k L (.ref v :: S) D ls H locs hL hH hS h)
  · cases h
theorem hs_aload_n (X : hy_Cx G x own cc nL fr lo) {i : Nat} {q : Fin 4} (d : hy_dq cc pc (.aload_n q) 1 = true) (hi : (q : Nat) = i) (k : hy_Sn G x nL (pc + 1) b f) : hy_Sn G x nL pc b (o_aload i f) := by
  intro L S D ls H locs hL hH hS h
  obtain ⟨p, l, e, R, s, m, args, below, meth, c, cells, slots, Q⟩ := x
  obtain ⟨hx, hb, hml, hown, hts, hlk, hK, hfr, hlo, hce, hsl⟩ := X
  unfold o_aload at h
  split at h
  · rename_i v hv
    exact lv_aload_n hx hb (hy_dqs d) hi (hL.2.2 i _ hv) (k L (.ref v :: S) D ls H locs hL hH hS h)
  · cases h
theorem hs_istore (X : hy_Cx G x own cc nL fr lo) {i : Nat} (d : hy_dq cc pc (.istore i) 2 = true) (hn : i < nL) (k : hy_Sn G x nL (pc + 2) b f) : hy_Sn G x nL pc b (o_istore i f) := by
  intro L S D ls H locs hL hH hS h
  obtain ⟨p, l, e, R, s, m, args, below, meth, c, cells, slots, Q⟩ := x
  obtain ⟨hx, hb, hml, hown, hts, hlk, hK, hfr, hlo, hce, hsl⟩ := X
  unfold o_istore at h
  split at h
  · rename_i v S'
    cases hok : hy_ok1 i L with
    | false => rw [hok] at h; cases h
    | true =>
      rw [hok] at h
      exact lv_istore hx hb (hy_dqs d) (hy_LR_has hL) hn rfl (fun ls' h' => k _ S' D ls' H locs (hy_LR_st1 (v := .int v) hL hok h') hH hS h)
  · cases h
theorem hs_istore_n (X : hy_Cx G x own cc nL fr lo) {i : Nat} {q : Fin 4} (d : hy_dq cc pc (.istore_n q) 1 = true) (hi : (q : Nat) = i) (hn : i < nL) (k : hy_Sn G x nL (pc + 1) b f) : hy_Sn G x nL pc b (o_istore i f) := by
  intro L S D ls H locs hL hH hS h
  obtain ⟨p, l, e, R, s, m, args, below, meth, c, cells, slots, Q⟩ := x
  obtain ⟨hx, hb, hml, hown, hts, hlk, hK, hfr, hlo, hce, hsl⟩ := X
  unfold o_istore at h
  split at h
  · rename_i v S'
    cases hok : hy_ok1 i L with
    | false => rw [hok] at h; cases h
    | true =>
      rw [hok] at h
      exact lv_istore_n hx hb (hy_dqs d) hi (hy_LR_has hL) hn rfl (fun ls' h' => k _ S' D ls' H locs (hy_LR_st1 (v := .int v) hL hok h') hH hS h)
  · cases h
theorem hs_astore (X : hy_Cx G x own cc nL fr lo) {i : Nat} (d : hy_dq cc pc (.astore i) 2 = true) (hn : i < nL) (k : hy_Sn G x nL (pc + 2) b f) : hy_Sn G x nL pc b (o_astore i f) := by
  intro L S D ls H locs hL hH hS h
  obtain ⟨p, l, e, R, s, m, args, below, meth, c, cells, slots, Q⟩ := x
  obtain ⟨hx, hb, hml, hown, hts, hlk, hK, hfr, hlo, hce, hsl⟩ := X
  unfold o_astore at h
  split at h
  · rename_i v S'
    cases hok : hy_ok1 i L with
    | false => rw [hok] at h; cases h
    | true =>
      rw [hok] at h
      exact lv_astore hx hb (hy_dqs d) (hy_LR_has hL) hn rfl (fun ls' h' => k _ S' D ls' H locs (hy_LR_st1 (v := .ref v) hL hok h') hH hS h)
  · cases h
theorem hs_astore_n (X : hy_Cx G x own cc nL fr lo) {i : Nat} {q : Fin 4} (d : hy_dq cc pc (.astore_n q) 1 = true) (hi : (q : Nat) = i) (hn : i < nL) (k : hy_Sn G x nL (pc + 1) b f) : hy_Sn G x nL pc b (o_astore i f) := by
  intro L S D ls H locs hL hH hS h
  obtain ⟨p, l, e, R, s, m, args, below, meth, c, cells, slots, Q⟩ := x
  obtain ⟨hx, hb, hml, hown, hts, hlk, hK, hfr, hlo, hce, hsl⟩ := X
  unfold o_astore at h
  split at h
  · rename_i v S'
    cases hok : hy_ok1 i L with
    | false => rw [hok] at h; cases h
    | true =>
      rw [hok] at h
      exact lv_astore_n hx hb (hy_dqs d) hi (hy_LR_has hL) hn rfl (fun ls' h' => k _ S' D ls' H locs (hy_LR_st1 (v := .ref v) hL hok h') hH hS h)
  · cases h
theorem hs_lstore (X : hy_Cx G x own cc nL fr lo) {i : Nat} (d : hy_dq cc pc (.lstore i) 2 = true) (hn : i + 1 < nL) (k : hy_Sn G x nL (pc + 2) b f) : hy_Sn G x nL pc b (o_lstore i f) := by
  intro L S D ls H locs hL hH hS h
  obtain ⟨p, l, e, R, s, m, args, below, meth, c, cells, slots, Q⟩ := x
  obtain ⟨hx, hb, hml, hown, hts, hlk, hK, hfr, hlo, hce, hsl⟩ := X
  unfold o_lstore at h
  split at h
  · rename_i v S'
    cases hok : hy_ok1 i L with
    | false => rw [hok] at h; cases h
    | true =>
      rw [hok] at h
      exact lv_lstore hx hb (hy_dqs d) (hy_LR_has hL) hn rfl (fun ls' h' => k _ S' D ls' H locs (hy_LR_st2 (v := .long v) hL hok h') hH hS h)
  · cases h
theorem hs_lstore_n (X : hy_Cx G x own cc nL fr lo) {i : Nat} {q : Fin 4} (d : hy_dq cc pc (.lstore_n q) 1 = true) (hi : (q : Nat) = i) (hn : i + 1 < nL) (k : hy_Sn G x nL (pc + 1) b f) : hy_Sn G x nL pc b (o_lstore i f) := by
  intro L S D ls H locs hL hH hS h
  obtain ⟨p, l, e, R, s, m, args, below, meth, c, cells, slots, Q⟩ := x
  obtain ⟨hx, hb, hml, hown, hts, hlk, hK, hfr, hlo, hce, hsl⟩ := X
  unfold o_lstore at h
  split at h
  · rename_i v S'
    cases hok : hy_ok1 i L with
    | false => rw [hok] at h; cases h
    | true =>
      rw [hok] at h
      exact lv_lstore_n hx hb (hy_dqs d) hi (hy_LR_has hL) hn rfl (fun ls' h' => k _ S' D ls' H locs (hy_LR_st2 (v := .long v) hL hok h') hH hS h)
  · cases h
theorem hs_iinc (X : hy_Cx G x own cc nL fr lo) {i : Nat} {n : Int} {z : Int32} (d : hy_dq cc pc (.iinc i n) 3 = true) (hz : Int32.ofInt n = z) (hn : i < nL) (k : hy_Sn G x nL (pc + 3) b f) : hy_Sn G x nL pc b (o_iinc i z f) := by
  intro L S D ls H locs hL hH hS h
  obtain ⟨p, l, e, R, s, m, args, below, meth, c, cells, slots, Q⟩ := x
  obtain ⟨hx, hb, hml, hown, hts, hlk, hK, hfr, hlo, hce, hsl⟩ := X
  unfold o_iinc at h
  split at h
  · rename_i v hv
    cases hok : hy_ok1 i L with
    | false => rw [hok] at h; cases h
    | true =>
      rw [hok] at h
      obtain ⟨q, hq⟩ := List.getElem?_of_mem (hy_kn_in (ad := G.1) hn hv)
      exact lv_iinc hx hb (hy_dqs d) (hy_LR_has hL) hq (by rw [hz]) hn rfl (fun ls' h' => k _ S D ls' H locs (hy_LR_st1 (v := .int (v + z)) hL hok h') hH hS h)
  · cases h
theorem hs_iadd (X : hy_Cx G x own cc nL fr lo) (d : hy_dq cc pc .iadd 1 = true) (k : hy_Sn G x nL (pc + 1) b f) : hy_Sn G x nL pc b (o_i2 (fun a c => a + c) f) := by
  intro L S D ls H locs hL hH hS h
  obtain ⟨p, l, e, R, s, m, args, below, meth, c, cells, slots, Q⟩ := x
  obtain ⟨hx, hb, hml, hown, hts, hlk, hK, hfr, hlo, hce, hsl⟩ := X
  unfold o_i2 at h
  split at h
  · exact lv_iadd hx hb (hy_dqs d) (k _ _ _ _ _ _ hL hH hS h)
  · cases h
theorem hs_isub (X : hy_Cx G x own cc nL fr lo) (d : hy_dq cc pc .isub 1 = true) (k : hy_Sn G x nL (pc + 1) b f) : hy_Sn G x nL pc b (o_i2 (fun a c => a - c) f) := by
  intro L S D ls H locs hL hH hS h
  obtain ⟨p, l, e, R, s, m, args, below, meth, c, cells, slots, Q⟩ := x
  obtain ⟨hx, hb, hml, hown, hts, hlk, hK, hfr, hlo, hce, hsl⟩ := X
  unfold o_i2 at h
  split at h
  · exact lv_isub hx hb (hy_dqs d) (k _ _ _ _ _ _ hL hH hS h)
  · cases h
theorem hs_imul (X : hy_Cx G x own cc nL fr lo) (d : hy_dq cc pc .imul 1 = true) (k : hy_Sn G x nL (pc + 1) b f) : hy_Sn G x nL pc b (o_i2 (fun a c => a * c) f) := by
  intro L S D ls H locs hL hH hS h
  obtain ⟨p, l, e, R, s, m, args, below, meth, c, cells, slots, Q⟩ := x
  obtain ⟨hx, hb, hml, hown, hts, hlk, hK, hfr, hlo, hce, hsl⟩ := X
  unfold o_i2 at h
  split at h
  · exact lv_imul hx hb (hy_dqs d) (k _ _ _ _ _ _ hL hH hS h)
  · cases h
theorem hs_iand (X : hy_Cx G x own cc nL fr lo) (d : hy_dq cc pc .iand 1 = true) (k : hy_Sn G x nL (pc + 1) b f) : hy_Sn G x nL pc b (o_i2 (fun a c => a &&& c) f) := by
  intro L S D ls H locs hL hH hS h
  obtain ⟨p, l, e, R, s, m, args, below, meth, c, cells, slots, Q⟩ := x
  obtain ⟨hx, hb, hml, hown, hts, hlk, hK, hfr, hlo, hce, hsl⟩ := X
  unfold o_i2 at h
  split at h
  · exact lv_iand hx hb (hy_dqs d) (k _ _ _ _ _ _ hL hH hS h)
  · cases h
theorem hs_ior (X : hy_Cx G x own cc nL fr lo) (d : hy_dq cc pc .ior 1 = true) (k : hy_Sn G x nL (pc + 1) b f) : hy_Sn G x nL pc b (o_i2 (fun a c => a ||| c) f) := by
  intro L S D ls H locs hL hH hS h
  obtain ⟨p, l, e, R, s, m, args, below, meth, c, cells, slots, Q⟩ := x
  obtain ⟨hx, hb, hml, hown, hts, hlk, hK, hfr, hlo, hce, hsl⟩ := X
  unfold o_i2 at h
  split at h
  · exact lv_ior hx hb (hy_dqs d) (k _ _ _ _ _ _ hL hH hS h)
  · cases h
theorem hs_ishl (X : hy_Cx G x own cc nL fr lo) (d : hy_dq cc pc .ishl 1 = true) (k : hy_Sn G x nL (pc + 1) b f) : hy_Sn G x nL pc b (o_i2 (fun a c => a <<< (c &&& 31)) f) := by
  intro L S D ls H locs hL hH hS h
  obtain ⟨p, l, e, R, s, m, args, below, meth, c, cells, slots, Q⟩ := x
  obtain ⟨hx, hb, hml, hown, hts, hlk, hK, hfr, hlo, hce, hsl⟩ := X
  unfold o_i2 at h
  split at h
  · exact lv_ishl hx hb (hy_dqs d) (k _ _ _ _ _ _ hL hH hS h)
  · cases h
theorem hs_ishr (X : hy_Cx G x own cc nL fr lo) (d : hy_dq cc pc .ishr 1 = true) (k : hy_Sn G x nL (pc + 1) b f) : hy_Sn G x nL pc b (o_i2 (fun a c => a >>> (c &&& 31)) f) := by
  intro L S D ls H locs hL hH hS h
  obtain ⟨p, l, e, R, s, m, args, below, meth, c, cells, slots, Q⟩ := x
  obtain ⟨hx, hb, hml, hown, hts, hlk, hK, hfr, hlo, hce, hsl⟩ := X
  unfold o_i2 at h
  split at h
  · exact lv_ishr hx hb (hy_dqs d) (k _ _ _ _ _ _ hL hH hS h)
  · cases h
theorem hs_iushr (X : hy_Cx G x own cc nL fr lo) (d : hy_dq cc pc .iushr 1 = true) (k : hy_Sn G x nL (pc + 1) b f) : hy_Sn G x nL pc b (o_i2 (fun a c => (a.toUInt32 >>> (c.toUInt32 &&& Int32.toUInt32 31)).toInt32) f) := by
  intro L S D ls H locs hL hH hS h
  obtain ⟨p, l, e, R, s, m, args, below, meth, c, cells, slots, Q⟩ := x
  obtain ⟨hx, hb, hml, hown, hts, hlk, hK, hfr, hlo, hce, hsl⟩ := X
  unfold o_i2 at h
  split at h
  · exact lv_iushr hx hb (hy_dqs d) rfl (k _ _ _ _ _ _ hL hH hS h)
  · cases h
theorem hs_idiv (X : hy_Cx G x own cc nL fr lo) (d : hy_dq cc pc .idiv 1 = true) (k : hy_Sn G x nL (pc + 1) b f) : hy_Sn G x nL pc b (o_idiv f) := by
  intro L S D ls H locs hL hH hS h
  obtain ⟨p, l, e, R, s, m, args, below, meth, c, cells, slots, Q⟩ := x
  obtain ⟨hx, hb, hml, hown, hts, hlk, hK, hfr, hlo, hce, hsl⟩ := X
  unfold o_idiv at h
  split at h
  · rename_i y z S'
    by_cases hy : y = 0
    · rw [if_pos hy] at h
      cases h
    · rw [if_neg hy] at h
      exact lv_idiv hx hb (hy_dqs d) hy (k _ _ _ _ _ _ hL hH hS h)
  · cases h
theorem hs_irem (X : hy_Cx G x own cc nL fr lo) (d : hy_dq cc pc .irem 1 = true) (k : hy_Sn G x nL (pc + 1) b f) : hy_Sn G x nL pc b (o_irem f) := by
  intro L S D ls H locs hL hH hS h
  obtain ⟨p, l, e, R, s, m, args, below, meth, c, cells, slots, Q⟩ := x
  obtain ⟨hx, hb, hml, hown, hts, hlk, hK, hfr, hlo, hce, hsl⟩ := X
  unfold o_irem at h
  split at h
  · rename_i y z S'
    by_cases hy : y = 0
    · rw [if_pos hy] at h
      cases h
    · rw [if_neg hy] at h
      exact lv_irem hx hb (hy_dqs d) hy (k _ _ _ _ _ _ hL hH hS h)
  · cases h
theorem hs_ldiv (X : hy_Cx G x own cc nL fr lo) (d : hy_dq cc pc .ldiv 1 = true) (k : hy_Sn G x nL (pc + 1) b f) : hy_Sn G x nL pc b (o_ldiv f) := by
  intro L S D ls H locs hL hH hS h
  obtain ⟨p, l, e, R, s, m, args, below, meth, c, cells, slots, Q⟩ := x
  obtain ⟨hx, hb, hml, hown, hts, hlk, hK, hfr, hlo, hce, hsl⟩ := X
  unfold o_ldiv at h
  split at h
  · rename_i y z S'
    by_cases hy : y = 0
    · rw [if_pos hy] at h
      cases h
    · rw [if_neg hy] at h
      exact lv_ldiv hx hb (hy_dqs d) hy (k _ _ _ _ _ _ hL hH hS h)
  · cases h
theorem hs_lrem (X : hy_Cx G x own cc nL fr lo) (d : hy_dq cc pc .lrem 1 = true) (k : hy_Sn G x nL (pc + 1) b f) : hy_Sn G x nL pc b (o_lrem f) := by
  intro L S D ls H locs hL hH hS h
  obtain ⟨p, l, e, R, s, m, args, below, meth, c, cells, slots, Q⟩ := x
  obtain ⟨hx, hb, hml, hown, hts, hlk, hK, hfr, hlo, hce, hsl⟩ := X
  unfold o_lrem at h
  split at h
  · rename_i y z S'
    by_cases hy : y = 0
    · rw [if_pos hy] at h
      cases h
    · rw [if_neg hy] at h
      exact lv_lrem hx hb (hy_dqs d) hy (k _ _ _ _ _ _ hL hH hS h)
  · cases h
theorem hs_ineg (X : hy_Cx G x own cc nL fr lo) (d : hy_dq cc pc .ineg 1 = true) (k : hy_Sn G x nL (pc + 1) b f) : hy_Sn G x nL pc b (o_ineg f) := by
  intro L S D ls H locs hL hH hS h
  obtain ⟨p, l, e, R, s, m, args, below, meth, c, cells, slots, Q⟩ := x
  obtain ⟨hx, hb, hml, hown, hts, hlk, hK, hfr, hlo, hce, hsl⟩ := X
  unfold o_ineg at h
  split at h
  · exact lv_ineg hx hb (hy_dqs d) (k _ _ _ _ _ _ hL hH hS h)
  · cases h
theorem hs_i2l (X : hy_Cx G x own cc nL fr lo) (d : hy_dq cc pc .i2l 1 = true) (k : hy_Sn G x nL (pc + 1) b f) : hy_Sn G x nL pc b (o_i2l f) := by
  intro L S D ls H locs hL hH hS h
  obtain ⟨p, l, e, R, s, m, args, below, meth, c, cells, slots, Q⟩ := x
  obtain ⟨hx, hb, hml, hown, hts, hlk, hK, hfr, hlo, hce, hsl⟩ := X
  unfold o_i2l at h
  split at h
  · exact lv_i2l hx hb (hy_dqs d) rfl (k _ _ _ _ _ _ hL hH hS h)
  · cases h
theorem hs_lcmp (X : hy_Cx G x own cc nL fr lo) (d : hy_dq cc pc .lcmp 1 = true) (k : hy_Sn G x nL (pc + 1) b f) : hy_Sn G x nL pc b (o_lcmp f) := by
  intro L S D ls H locs hL hH hS h
  obtain ⟨p, l, e, R, s, m, args, below, meth, c, cells, slots, Q⟩ := x
  obtain ⟨hx, hb, hml, hown, hts, hlk, hK, hfr, hlo, hce, hsl⟩ := X
  unfold o_lcmp at h
  split at h
  · exact W.lcmp hx hb (hy_dqs d) (k _ _ _ _ _ _ hL hH hS h)
  · cases h
theorem hs_dup (X : hy_Cx G x own cc nL fr lo) (d : hy_dq cc pc .dup 1 = true) (k : hy_Sn G x nL (pc + 1) b f) : hy_Sn G x nL pc b (o_dup f) := by
  intro L S D ls H locs hL hH hS h
  obtain ⟨p, l, e, R, s, m, args, below, meth, c, cells, slots, Q⟩ := x
  obtain ⟨hx, hb, hml, hown, hts, hlk, hK, hfr, hlo, hce, hsl⟩ := X
  unfold o_dup at h
  split at h
  · exact lv_dup hx hb (hy_dqs d) rfl (k _ _ _ _ _ _ hL hH hS h)
  · exact lv_dup hx hb (hy_dqs d) rfl (k _ _ _ _ _ _ hL hH hS h)
  · cases h
theorem hs_dup2 (X : hy_Cx G x own cc nL fr lo) (d : hy_dq cc pc .dup2 1 = true) (k : hy_Sn G x nL (pc + 1) b f) : hy_Sn G x nL pc b (o_dup2 f) := by
  intro L S D ls H locs hL hH hS h
  obtain ⟨p, l, e, R, s, m, args, below, meth, c, cells, slots, Q⟩ := x
  obtain ⟨hx, hb, hml, hown, hts, hlk, hK, hfr, hlo, hce, hsl⟩ := X
  unfold o_dup2 at h
  split at h
  · exact lv_dup2_11 hx hb (hy_dqs d) rfl rfl (k _ _ _ _ _ _ hL hH hS h)
  · cases h
theorem hs_pop (X : hy_Cx G x own cc nL fr lo) (d : hy_dq cc pc .pop 1 = true) (k : hy_Sn G x nL (pc + 1) b f) : hy_Sn G x nL pc b (o_pop f) := by
  intro L S D ls H locs hL hH hS h
  obtain ⟨p, l, e, R, s, m, args, below, meth, c, cells, slots, Q⟩ := x
  obtain ⟨hx, hb, hml, hown, hts, hlk, hK, hfr, hlo, hce, hsl⟩ := X
  unfold o_pop at h
  split at h
  · exact lv_pop hx hb (hy_dqs d) rfl (k _ _ _ _ _ _ hL hH hS h)
  · cases h
theorem hs_goto (X : hy_Cx G x own cc nL fr lo) {off : Int} {tgt : Nat} (d : hy_dq cc pc (.goto off) 3 = true) (ht : (pc : Int) + off = (tgt : Int)) (k : hy_Sn G x nL tgt b f) : hy_Sn G x nL pc b f := by
  intro L S D ls H locs hL hH hS h
  obtain ⟨p, l, e, R, s, m, args, below, meth, c, cells, slots, Q⟩ := x
  obtain ⟨hx, hb, hml, hown, hts, hlk, hK, hfr, hlo, hce, hsl⟩ := X
  exact lv_goto hx hb (hy_dqs d) ht (k _ _ _ _ _ _ hL hH hS h)
theorem hs_ceq (X : hy_Cx G x own cc nL fr lo) {off : Int} {tgt : Nat} (d : hy_dq cc pc (.if_icmp .eq off) 3 = true) (ht : (pc : Int) + off = (tgt : Int)) (k1 : hy_Sn G x nL tgt b f) (k2 : hy_Sn G x nL (pc + 3) b g) : hy_Sn G x nL pc b (o_ceq f g) := by
  intro L S D ls H locs hL hH hS h
  obtain ⟨p, l, e, R, s, m, args, below, meth, c, cells, slots, Q⟩ := x
  obtain ⟨hx, hb, hml, hown, hts, hlk, hK, hfr, hlo, hce, hsl⟩ := X
  unfold o_ceq at h
  split at h
  · exact lv_icmp_eq hx hb (hy_dqs d) ht (fun q => k1 _ _ _ _ _ _ hL hH hS (by rw [if_pos q] at h; exact h)) (fun q => k2 _ _ _ _ _ _ hL hH hS (by rw [if_neg q] at h; exact h))
  · cases h
theorem hs_cne (X : hy_Cx G x own cc nL fr lo) {off : Int} {tgt : Nat} (d : hy_dq cc pc (.if_icmp .ne off) 3 = true) (ht : (pc : Int) + off = (tgt : Int)) (k1 : hy_Sn G x nL (pc + 3) b f) (k2 : hy_Sn G x nL tgt b g) : hy_Sn G x nL pc b (o_ceq f g) := by
  intro L S D ls H locs hL hH hS h
  obtain ⟨p, l, e, R, s, m, args, below, meth, c, cells, slots, Q⟩ := x
  obtain ⟨hx, hb, hml, hown, hts, hlk, hK, hfr, hlo, hce, hsl⟩ := X
  unfold o_ceq at h
  split at h
  · exact lv_icmp_ne hx hb (hy_dqs d) ht (fun q => k2 _ _ _ _ _ _ hL hH hS (by rw [if_neg q] at h; exact h)) (fun q => k1 _ _ _ _ _ _ hL hH hS (by rw [if_pos q] at h; exact h))
  · cases h
theorem hs_clt (X : hy_Cx G x own cc nL fr lo) {off : Int} {tgt : Nat} (d : hy_dq cc pc (.if_icmp .lt off) 3 = true) (ht : (pc : Int) + off = (tgt : Int)) (k1 : hy_Sn G x nL tgt b f) (k2 : hy_Sn G x nL (pc + 3) b g) : hy_Sn G x nL pc b (o_clt f g) := by
  intro L S D ls H locs hL hH hS h
  obtain ⟨p, l, e, R, s, m, args, below, meth, c, cells, slots, Q⟩ := x
  obtain ⟨hx, hb, hml, hown, hts, hlk, hK, hfr, hlo, hce, hsl⟩ := X
  unfold o_clt at h
  split at h
  · exact lv_icmp_lt hx hb (hy_dqs d) ht (fun q => k1 _ _ _ _ _ _ hL hH hS (by rw [if_pos q] at h; exact h)) (fun q => k2 _ _ _ _ _ _ hL hH hS (by rw [if_neg q] at h; exact h))
  · cases h
theorem hs_cge (X : hy_Cx G x own cc nL fr lo) {off : Int} {tgt : Nat} (d : hy_dq cc pc (.if_icmp .ge off) 3 = true) (ht : (pc : Int) + off = (tgt : Int)) (k1 : hy_Sn G x nL (pc + 3) b f) (k2 : hy_Sn G x nL tgt b g) : hy_Sn G x nL pc b (o_clt f g) := by
  intro L S D ls H locs hL hH hS h
  obtain ⟨p, l, e, R, s, m, args, below, meth, c, cells, slots, Q⟩ := x
  obtain ⟨hx, hb, hml, hown, hts, hlk, hK, hfr, hlo, hce, hsl⟩ := X
  unfold o_clt at h
  split at h
  · exact lv_icmp_ge hx hb (hy_dqs d) ht (fun q => k2 _ _ _ _ _ _ hL hH hS (by rw [if_neg (Int32.not_lt.mpr q)] at h; exact h)) (fun q => k1 _ _ _ _ _ _ hL hH hS (by rw [if_pos (Int32.not_le.mp q)] at h; exact h))
  · cases h
theorem hs_cgt (X : hy_Cx G x own cc nL fr lo) {off : Int} {tgt : Nat} (d : hy_dq cc pc (.if_icmp .gt off) 3 = true) (ht : (pc : Int) + off = (tgt : Int)) (k1 : hy_Sn G x nL tgt b f) (k2 : hy_Sn G x nL (pc + 3) b g) : hy_Sn G x nL pc b (o_cgt f g) := by
  intro L S D ls H locs hL hH hS h
  obtain ⟨p, l, e, R, s, m, args, below, meth, c, cells, slots, Q⟩ := x
  obtain ⟨hx, hb, hml, hown, hts, hlk, hK, hfr, hlo, hce, hsl⟩ := X
  unfold o_cgt at h
  split at h
  · exact lv_icmp_gt hx hb (hy_dqs d) ht (fun q => k1 _ _ _ _ _ _ hL hH hS (by rw [if_pos q] at h; exact h)) (fun q => k2 _ _ _ _ _ _ hL hH hS (by rw [if_neg q] at h; exact h))
  · cases h
theorem hs_cle (X : hy_Cx G x own cc nL fr lo) {off : Int} {tgt : Nat} (d : hy_dq cc pc (.if_icmp .le off) 3 = true) (ht : (pc : Int) + off = (tgt : Int)) (k1 : hy_Sn G x nL (pc + 3) b f) (k2 : hy_Sn G x nL tgt b g) : hy_Sn G x nL pc b (o_cgt f g) := by
  intro L S D ls H locs hL hH hS h
  obtain ⟨p, l, e, R, s, m, args, below, meth, c, cells, slots, Q⟩ := x
  obtain ⟨hx, hb, hml, hown, hts, hlk, hK, hfr, hlo, hce, hsl⟩ := X
  unfold o_cgt at h
  split at h
  · exact lv_icmp_le hx hb (hy_dqs d) ht (fun q => k2 _ _ _ _ _ _ hL hH hS (by rw [if_neg (Int32.not_lt.mpr q)] at h; exact h)) (fun q => k1 _ _ _ _ _ _ hL hH hS (by rw [if_pos (Int32.not_le.mp q)] at h; exact h))
  · cases h
theorem hs_zeq (X : hy_Cx G x own cc nL fr lo) {off : Int} {tgt : Nat} (d : hy_dq cc pc (.ifCond .eq off) 3 = true) (ht : (pc : Int) + off = (tgt : Int)) (k1 : hy_Sn G x nL tgt b f) (k2 : hy_Sn G x nL (pc + 3) b g) : hy_Sn G x nL pc b (o_zeq f g) := by
  intro L S D ls H locs hL hH hS h
  obtain ⟨p, l, e, R, s, m, args, below, meth, c, cells, slots, Q⟩ := x
  obtain ⟨hx, hb, hml, hown, hts, hlk, hK, hfr, hlo, hce, hsl⟩ := X
  unfold o_zeq at h
  split at h
  · exact lv_if_eq hx hb (hy_dqs d) ht (fun q => k1 _ _ _ _ _ _ hL hH hS (by rw [if_pos q] at h; exact h)) (fun q => k2 _ _ _ _ _ _ hL hH hS (by rw [if_neg q] at h; exact h))
  · cases h
theorem hs_zne (X : hy_Cx G x own cc nL fr lo) {off : Int} {tgt : Nat} (d : hy_dq cc pc (.ifCond .ne off) 3 = true) (ht : (pc : Int) + off = (tgt : Int)) (k1 : hy_Sn G x nL (pc + 3) b f) (k2 : hy_Sn G x nL tgt b g) : hy_Sn G x nL pc b (o_zeq f g) := by
  intro L S D ls H locs hL hH hS h
  obtain ⟨p, l, e, R, s, m, args, below, meth, c, cells, slots, Q⟩ := x
  obtain ⟨hx, hb, hml, hown, hts, hlk, hK, hfr, hlo, hce, hsl⟩ := X
  unfold o_zeq at h
  split at h
  · exact lv_if_ne hx hb (hy_dqs d) ht (fun q => k2 _ _ _ _ _ _ hL hH hS (by rw [if_neg q] at h; exact h)) (fun q => k1 _ _ _ _ _ _ hL hH hS (by rw [if_pos q] at h; exact h))
  · cases h
theorem hs_zlt (X : hy_Cx G x own cc nL fr lo) {off : Int} {tgt : Nat} (d : hy_dq cc pc (.ifCond .lt off) 3 = true) (ht : (pc : Int) + off = (tgt : Int)) (k1 : hy_Sn G x nL tgt b f) (k2 : hy_Sn G x nL (pc + 3) b g) : hy_Sn G x nL pc b (o_zlt f g) := by
  intro L S D ls H locs hL hH hS h
  obtain ⟨p, l, e, R, s, m, args, below, meth, c, cells, slots, Q⟩ := x
  obtain ⟨hx, hb, hml, hown, hts, hlk, hK, hfr, hlo, hce, hsl⟩ := X
  unfold o_zlt at h
  split at h
  · exact lv_if_lt hx hb (hy_dqs d) ht (fun q => k1 _ _ _ _ _ _ hL hH hS (by rw [if_pos q] at h; exact h)) (fun q => k2 _ _ _ _ _ _ hL hH hS (by rw [if_neg q] at h; exact h))
  · cases h
theorem hs_zge (X : hy_Cx G x own cc nL fr lo) {off : Int} {tgt : Nat} (d : hy_dq cc pc (.ifCond .ge off) 3 = true) (ht : (pc : Int) + off = (tgt : Int)) (k1 : hy_Sn G x nL (pc + 3) b f) (k2 : hy_Sn G x nL tgt b g) : hy_Sn G x nL pc b (o_zlt f g) := by
  intro L S D ls H locs hL hH hS h
  obtain ⟨p, l, e, R, s, m, args, below, meth, c, cells, slots, Q⟩ := x
  obtain ⟨hx, hb, hml, hown, hts, hlk, hK, hfr, hlo, hce, hsl⟩ := X
  unfold o_zlt at h
  split at h
  · exact lv_if_ge hx hb (hy_dqs d) ht (fun q => k2 _ _ _ _ _ _ hL hH hS (by rw [if_neg (Int32.not_lt.mpr q)] at h; exact h)) (fun q => k1 _ _ _ _ _ _ hL hH hS (by rw [if_pos (Int32.not_le.mp q)] at h; exact h))
  · cases h
theorem hs_zgt (X : hy_Cx G x own cc nL fr lo) {off : Int} {tgt : Nat} (d : hy_dq cc pc (.ifCond .gt off) 3 = true) (ht : (pc : Int) + off = (tgt : Int)) (k1 : hy_Sn G x nL tgt b f) (k2 : hy_Sn G x nL (pc + 3) b g) : hy_Sn G x nL pc b (o_zgt f g) := by
  intro L S D ls H locs hL hH hS h
  obtain ⟨p, l, e, R, s, m, args, below, meth, c, cells, slots, Q⟩ := x
  obtain ⟨hx, hb, hml, hown, hts, hlk, hK, hfr, hlo, hce, hsl⟩ := X
  unfold o_zgt at h
  split at h
  · exact lv_if_gt hx hb (hy_dqs d) ht (fun q => k1 _ _ _ _ _ _ hL hH hS (by rw [if_pos q] at h; exact h)) (fun q => k2 _ _ _ _ _ _ hL hH hS (by rw [if_neg q] at h; exact h))
  · cases h
theorem hs_zle (X : hy_Cx G x own cc nL fr lo) {off : Int} {tgt : Nat} (d : hy_dq cc pc (.ifCond .le off) 3 = true) (ht : (pc : Int) + off = (tgt : Int)) (k1 : hy_Sn G x nL (pc + 3) b f) (k2 : hy_Sn G x nL tgt b g) : hy_Sn G x nL pc b (o_zgt f g) := by
  intro L S D ls H locs hL hH hS h
  obtain ⟨p, l, e, R, s, m, args, below, meth, c, cells, slots, Q⟩ := x
  obtain ⟨hx, hb, hml, hown, hts, hlk, hK, hfr, hlo, hce, hsl⟩ := X
  unfold o_zgt at h
  split at h
  · exact lv_if_le hx hb (hy_dqs d) ht (fun q => k2 _ _ _ _ _ _ hL hH hS (by rw [if_neg (Int32.not_lt.mpr q)] at h; exact h)) (fun q => k1 _ _ _ _ _ _ hL hH hS (by rw [if_pos (Int32.not_le.mp q)] at h; exact h))
  · cases h
end HS
end
section
/-! ===== the memory's rows ===== -/
theorem hy_oc_spec {c ci k : Nat} {r : Bool} (h : hy_oc c ci k r = true) : ∃ rs, hy_sh c = (2, ci, rs) ∧ ((r = false ∧ rs[k]? = some none) ∨ (r = true ∧ ∃ q, rs[k]? = some (some q) ∧ hy_pr c k = q)) := by
  unfold hy_oc at h
  split at h
  · rename_i ci' rs hsh
    simp only [Bool.and_eq_true, Nat.beq_eq] at h
    obtain ⟨rfl, h⟩ := h
    refine ⟨rs, hsh, ?_⟩
    split at h
    · rename_i q hq
      refine Or.inr ⟨h, q, hq, ?_⟩
      unfold hy_pr
      rw [hsh, List.getD_eq_getElem?_getD, hq]
      rfl
    · rename_i hq
      exact Or.inl ⟨by simpa using h, hq⟩
    · cases h
  · cases h
theorem hy_cl_spec {c ci : Nat} (h : hy_cl c ci = true) : ∃ rs, hy_sh c = (2, ci, rs) := by
  unfold hy_cl at h
  split at h
  · rename_i ci' rs hsh
    simp only [Nat.beq_eq] at h
    subst h
    exact ⟨rs, hsh⟩
  · cases h
theorem hy_wl_spec {r : Nat} (h : 0 < hy_wl r) : ∃ rs, hy_sh r = (0, hy_wl r, rs) := by
  unfold hy_wl at h ⊢
  split at h
  · rename_i n rs hsh
    exact ⟨rs, by rw [hsh]⟩
  · omega
theorem hy_al_spec {r : Nat} (h : 0 < hy_al r) : (∃ rs, hy_sh r = (0, hy_al r, rs)) ∨ (r = 1000 ∧ hy_al r = 8) := by
  unfold hy_al at h ⊢
  split at h
  · rename_i n rs hsh
    exact Or.inl ⟨rs, by rw [hsh]⟩
  · right
    cases hb : Nat.beq r 1000 with
    | false => rw [hb] at h; simp at h
    | true =>
      have e : r = 1000 := Nat.eq_of_beq_eq_true hb
      subst e
      exact ⟨rfl, by decide +kernel⟩
theorem hy_rl_spec {r : Nat} (h : 0 < hy_rl r) : ∃ rs, hy_sh r = (1, hy_rl r, rs) := by
  unfold hy_rl at h ⊢
  split at h
  · rename_i n rs hsh
    exact ⟨rs, by rw [hsh]⟩
  · omega
theorem hy_in_pos {j : Int32} {n : Nat} (h : hy_in j n = true) : j.toNatClampNeg < n := by
  simp only [hy_in, Bool.and_eq_true, Nat.ble_eq] at h
  omega
theorem hy_E_0 {G : hy_G} {D : hy_M} {c n : Nat} {rs : List (Option Nat)} (h : hy_sh c = (0, n, rs)) : hy_E G D c = .inl (G.2.2.2.1, n, .inl (D c)) := by
  unfold hy_E; rw [h]; rfl
theorem hy_E_1 {G : hy_G} {D : hy_M} {c n : Nat} {rs : List (Option Nat)} (h : hy_sh c = (1, n, rs)) : hy_E G D c = .inl (G.2.2.2.2, n, .inr (.inr (.inr (.inr (fun j => if j < n then some (G.1 ((rs.getD j none).getD 0)) else none))))) := by
  unfold hy_E; rw [h]; rfl
theorem hy_E_2 {G : hy_G} {D : hy_M} {c n : Nat} {rs : List (Option Nat)} (h : hy_sh c = (2, n, rs)) : hy_E G D c = .inr (n, hy_fs G.1 D c 0 rs) := by
  unfold hy_E; rw [h]; rfl
theorem hy_HR_put {G : hy_G} {D D' : hy_M} {c : Nat} {e : va_E} {H H1 : Heap} (hH : hy_HR G D H) (hc : c < 81) (he : hy_E G D' c = e) (ho : ∀ c', c' ≠ c → D' c' = D c') (hP : va_P (G.2.1, G.2.2.1) vwCl ((hy_ws G D).set c (G.1 c, e)) H1) : hy_HR G D' H1 := by
  rw [hy_ws_set (D' := D') hc he (fun c' _ h => hy_E_same (ho c' h))] at hP
  exact ⟨hP, fun j hj => by rw [ho 1000 (by omega)]; exact hH.2 j hj⟩
/-- a class's words, by its number -/
def hy_cls (ci : Nat) (C : String) (T : u_T) (N : Nat) (ty : Nat → FieldType) : Prop := vwCl[ci]? = some (C, T, N) ∧ (∀ w ∈ u_ws C T N, w ∈ hy_WT) ∧ (∀ k, k < N → parseFieldDescriptor (T k).2.2.1 = some (ty k)) ∧ ∀ a, a < N → ∀ b, b < N → a ≠ b → (T a).2.1 ≠ (T b).2.1
/-- a pool's entry that names field k of class ci -/
def hy_fl (own : String) (index ci k : Nat) : Prop := ∃ C T N ty, hy_cls ci C T N ty ∧ k < N ∧ Cond.fieldLink own index (T k).1 (T k).2.1 (T k).2.2.1 ∈ hy_WT
/-- .. that may be written, of a type -/
def hy_fp (own : String) (index ci k : Nat) (t : FieldType) : Prop := ∃ C T N ty, hy_cls ci C T N ty ∧ k < N ∧ Cond.fieldLink own index (T k).1 (T k).2.1 (T k).2.2.1 ∈ hy_WT ∧ (T k).2.2.2 = false ∧ ty k = t
section HM
variable {G : hy_G} {x : hy_X} {own : String} {cc : ByteArray} {nL fr lo pc : Nat} {β : Type} {b : β} {f g : hy_C β}
theorem hs_getI (X : hy_Cx G x own cc nL fr lo) {index ci q : Nat} (w : hy_fl own index ci q) (d : hy_dq cc pc (.getfield index) 3 = true) (k : hy_Sn G x nL (pc + 3) b f) : hy_Sn G x nL pc b (o_getI ci q f) := by
  intro L S D ls H locs hL hH hS h
  obtain ⟨p, l, e, R, s, m, args, below, meth, c, cells, slots, Q⟩ := x
  obtain ⟨hx, hb, hml, hown, hts, hlk, hK, hfr, hlo, hce, hsl⟩ := X
  unfold o_getI at h
  split at h
  · rename_i o S'
    cases hok : hy_oc o ci q false with
    | false => rw [hok] at h; cases h
    | true =>
      rw [hok] at h
      obtain ⟨rs, hsh, ⟨-, hrs⟩ | ⟨hf, -⟩⟩ := hy_oc_spec hok
      · obtain ⟨C, T, N, ty, ⟨hc, hu, -⟩, hk, hw⟩ := w
        have hlt := hy_sh_lt hsh (by omega)
        exact va_get hx hb hts hu hown hK.1 hH.1 o (by rw [hy_ws_get hlt, hy_E_2 hsh]) hc q hk (hts _ hw) (fun _ h9 => h9) (v := .int (D o q)) (by rw [hy_fs_get, hrs]; simp) (hy_dqs d) (k _ _ _ _ _ _ hL hH hS h)
      · cases hf
  · cases h
theorem hs_getR (X : hy_Cx G x own cc nL fr lo) {index ci q : Nat} (w : hy_fl own index ci q) (d : hy_dq cc pc (.getfield index) 3 = true) (k : hy_Sn G x nL (pc + 3) b f) : hy_Sn G x nL pc b (o_getR ci q f) := by
  intro L S D ls H locs hL hH hS h
  obtain ⟨p, l, e, R, s, m, args, below, meth, c, cells, slots, Q⟩ := x
  obtain ⟨hx, hb, hml, hown, hts, hlk, hK, hfr, hlo, hce, hsl⟩ := X
  unfold o_getR at h
  split at h
  · rename_i o S'
    cases hok : hy_oc o ci q true with
    | false => rw [hok] at h; cases h
    | true =>
      rw [hok] at h
      obtain ⟨rs, hsh, ⟨hf, -⟩ | ⟨-, r, hr, hp⟩⟩ := hy_oc_spec hok
      · cases hf
      · obtain ⟨C, T, N, ty, ⟨hc, hu, -⟩, hk, hw⟩ := w
        have hlt := hy_sh_lt hsh (by omega)
        exact va_get hx hb hts hu hown hK.1 hH.1 o (by rw [hy_ws_get hlt, hy_E_2 hsh]) hc q hk (hts _ hw) (fun _ h9 => h9) (v := .ref (G.1 (hy_pr o q))) (by rw [hy_fs_get, hr, hp]; rfl) (hy_dqs d) (k _ _ _ _ _ _ hL hH hS h)
  · cases h
theorem hs_putI (X : hy_Cx G x own cc nL fr lo) {index ci q : Nat} (w : hy_fp own index ci q .int) (d : hy_dq cc pc (.putfield index) 3 = true) (k : hy_Sn G x nL (pc + 3) b f) : hy_Sn G x nL pc b (o_putI ci q f) := by
  intro L S D ls H locs hL hH hS h
  obtain ⟨p, l, e, R, s, m, args, below, meth, c, cells, slots, Q⟩ := x
  obtain ⟨hx, hb, hml, hown, hts, hlk, hK, hfr, hlo, hce, hsl⟩ := X
  unfold o_putI at h
  split at h
  · rename_i v o S'
    cases hok : hy_oc o ci q false with
    | false => rw [hok] at h; cases h
    | true =>
      rw [hok] at h
      dsimp only [cond_true] at h
      obtain ⟨rs, hsh, ⟨-, hrs⟩ | ⟨hf, -⟩⟩ := hy_oc_spec hok
      · obtain ⟨C, T, N, ty, ⟨hc, hu, hty, hnm⟩, hk, hw, hfin, ht⟩ := w
        have hlt := hy_sh_lt hsh (by omega)
        exact va_put hx hb hts hu ty hty hnm hown hK.1 hH.1 (hy_D hK.2.2.2.2.2 D) hS o (fs := hy_fs G.1 D o 0 rs) (by rw [hy_ws_get hlt, hy_E_2 hsh]) hc q hk (hts _ hw) (fun _ h9 => h9) hfin (ty := .int) (v := .int v) (by rw [hty q hk, ht]) rfl rfl (by rw [hy_fs_len]; exact (List.getElem?_eq_some_iff.mp hrs).1) (hy_dqs d) (fun H1 locs1 hP1 hD1 hS1 => k _ _ _ _ _ _ hL (hy_HR_put (D' := hy_w D o q v) hH hlt (by rw [hy_E_2 hsh, hy_fs_set hrs]) (fun c' h9 => hy_w_ne h9) hP1) hS1 h)
      · cases hf
  · cases h
theorem hs_putZ (X : hy_Cx G x own cc nL fr lo) {index ci q : Nat} (w : hy_fp own index ci q .boolean) (d : hy_dq cc pc (.putfield index) 3 = true) (k : hy_Sn G x nL (pc + 3) b f) : hy_Sn G x nL pc b (o_putZ ci q f) := by
  intro L S D ls H locs hL hH hS h
  obtain ⟨p, l, e, R, s, m, args, below, meth, c, cells, slots, Q⟩ := x
  obtain ⟨hx, hb, hml, hown, hts, hlk, hK, hfr, hlo, hce, hsl⟩ := X
  unfold o_putZ at h
  split at h
  · rename_i v o S'
    cases hok : hy_oc o ci q false with
    | false => rw [hok] at h; cases h
    | true =>
      rw [hok] at h
      dsimp only [cond_true] at h
      obtain ⟨rs, hsh, ⟨-, hrs⟩ | ⟨hf, -⟩⟩ := hy_oc_spec hok
      · obtain ⟨C, T, N, ty, ⟨hc, hu, hty, hnm⟩, hk, hw, hfin, ht⟩ := w
        have hlt := hy_sh_lt hsh (by omega)
        by_cases hv : v = 0 ∨ v = 1
        · rw [if_pos hv] at h
          have hn : narrow .boolean (.int v) = .int v := by rcases hv with rfl | rfl <;> rfl
          have hfit : fits .boolean (.int v) = true := by rcases hv with rfl | rfl <;> rfl
          exact va_put hx hb hts hu ty hty hnm hown hK.1 hH.1 (hy_D hK.2.2.2.2.2 D) hS o (fs := hy_fs G.1 D o 0 rs) (by rw [hy_ws_get hlt, hy_E_2 hsh]) hc q hk (hts _ hw) (fun _ h9 => h9) hfin (ty := .boolean) (v := .int v) (by rw [hty q hk, ht]) hn hfit (by rw [hy_fs_len]; exact (List.getElem?_eq_some_iff.mp hrs).1) (hy_dqs d) (fun H1 locs1 hP1 hD1 hS1 => k _ _ _ _ _ _ hL (hy_HR_put (D' := hy_w D o q v) hH hlt (by rw [hy_E_2 hsh, hy_fs_set hrs]) (fun c' h9 => hy_w_ne h9) hP1) hS1 h)
        · rw [if_neg hv] at h
          cases h
      · cases hf
  · cases h
theorem hs_iald (X : hy_Cx G x own cc nL fr lo) (d : hy_dq cc pc .iaload 1 = true) (k : hy_Sn G x nL (pc + 1) b f) : hy_Sn G x nL pc b (o_iald f) := by
  intro L S D ls H locs hL hH hS h
  obtain ⟨p, l, e, R, s, m, args, below, meth, c, cells, slots, Q⟩ := x
  obtain ⟨hx, hb, hml, hown, hts, hlk, hK, hfr, hlo, hce, hsl⟩ := X
  unfold o_iald at h
  split at h
  · rename_i j r S'
    by_cases hi : hy_in j (hy_al r) = true
    · rw [if_pos hi] at h
      rcases hy_al_spec (Nat.lt_of_le_of_lt (Nat.zero_le _) (hy_in_pos hi)) with ⟨rs, hsh⟩ | ⟨rfl, h8⟩
      · have hlt := hy_sh_lt hsh (by omega)
        exact va_iald hx hb hK.1 hH.1 r 0 (by rw [hy_ws_get hlt, hy_E_0 hsh]) rfl (hy_in_vp hi) (hy_dqs d) (k _ _ _ _ _ _ hL hH hS h)
      · rw [h8] at hi
        exact va_ti hx hb hK.2.2.1 hS (hy_in_vp hi) (by rw [← hH.2 _ (hy_in_pos hi)]; rfl) (hy_dqs d) (k _ _ _ _ _ _ hL hH hS h)
    · rw [if_neg hi] at h
      cases h
  · cases h
theorem hs_iast (X : hy_Cx G x own cc nL fr lo) (d : hy_dq cc pc .iastore 1 = true) (k : hy_Sn G x nL (pc + 1) b f) : hy_Sn G x nL pc b (o_iast f) := by
  intro L S D ls H locs hL hH hS h
  obtain ⟨p, l, e, R, s, m, args, below, meth, c, cells, slots, Q⟩ := x
  obtain ⟨hx, hb, hml, hown, hts, hlk, hK, hfr, hlo, hce, hsl⟩ := X
  unfold o_iast at h
  split at h
  · rename_i v j r S'
    by_cases hi : hy_in j (hy_wl r) = true
    · rw [if_pos hi] at h
      obtain ⟨rs, hsh⟩ := hy_wl_spec (Nat.lt_of_le_of_lt (Nat.zero_le _) (hy_in_pos hi))
      have hlt := hy_sh_lt hsh (by omega)
      exact va_iast hx hb hK.1 hH.1 (hy_D hK.2.2.2.2.2 D) hS r 0 (by rw [hy_ws_get hlt, hy_E_0 hsh]) rfl (hy_in_vp hi) (hy_dqs d) (fun H1 locs1 hP1 hD1 hS1 => k _ _ _ _ _ _ hL (hy_HR_put (D' := hy_w D r j.toNatClampNeg v) hH hlt (by rw [hy_E_0 hsh, hy_w_same]) (fun c' h9 => hy_w_ne h9) hP1) hS1 h)
    · rw [if_neg hi] at h
      cases h
  · cases h
theorem hs_aald (X : hy_Cx G x own cc nL fr lo) (d : hy_dq cc pc .aaload 1 = true) (k : hy_Sn G x nL (pc + 1) b f) : hy_Sn G x nL pc b (o_aald f) := by
  intro L S D ls H locs hL hH hS h
  obtain ⟨p, l, e, R, s, m, args, below, meth, c, cells, slots, Q⟩ := x
  obtain ⟨hx, hb, hml, hown, hts, hlk, hK, hfr, hlo, hce, hsl⟩ := X
  unfold o_aald at h
  split at h
  · rename_i j r S'
    by_cases hi : hy_in j (hy_rl r) = true
    · rw [if_pos hi] at h
      obtain ⟨rs, hsh⟩ := hy_rl_spec (Nat.lt_of_le_of_lt (Nat.zero_le _) (hy_in_pos hi))
      have hlt := hy_sh_lt hsh (by omega)
      have hcell := hH.1 r _ (hy_ws_get hlt)
      rw [hy_E_1 hsh] at hcell
      have hjl := hy_in_pos hi
      refine W.aald (v := .ref (G.1 (hy_pr r j.toNatClampNeg))) (ty := .array .int) hx hb hcell ((hK.1.2 1 _ rfl).1 (hy_rl r) _) rfl (fun q => by cases q) (by show ¬ (j < 0 ∨ (arrV _ _ _).slots.size ≤ _); rw [arrV_size]; exact hy_in_vp hi) ?_ rfl rfl (hy_dqs d) (k _ _ _ _ _ _ hL hH hS h)
      show (arrV _ _ _).slots[_]? = _
      rw [arrV_read _ _ hjl]
      simp [hjl, va_rf, hy_pr, hsh]
    · rw [if_neg hi] at h
      cases h
  · cases h
theorem hs_gets (X : hy_Cx G x own cc nL fr lo) {index : Nat} (w : Cond.fieldLink own index "HumpYard" "AS_THEY_COME" "[I" ∈ hy_WT) (d : hy_dq cc pc (.getstatic index) 3 = true) (k : hy_Sn G x nL (pc + 3) b f) : hy_Sn G x nL pc b (o_gets f) := by
  intro L S D ls H locs hL hH hS h
  obtain ⟨p, l, e, R, s, m, args, below, meth, c, cells, slots, Q⟩ := x
  obtain ⟨hx, hb, hml, hown, hts, hlk, hK, hfr, hlo, hce, hsl⟩ := X
  exact va_gets hx hb hK.2.1 hS hown (hts _ w) (fun _ h9 => h9) (hy_dqs d) (k _ _ _ _ _ _ hL hH hS h)
theorem hs_getsY (X : hy_Cx G x "HumpYard$Yard" cc nL fr lo) (d : hy_dq cc pc (.getstatic 101) 3 = true) (k : hy_Sn G x nL (pc + 3) b f) : hy_Sn G x nL pc b (o_gets f) := by
  intro L S D ls H locs hL hH hS h
  obtain ⟨p, l, e, R, s, m, args, below, meth, c, cells, slots, Q⟩ := x
  obtain ⟨hx, hb, hml, hown, hts, hlk, hK, hfr, hlo, hce, hsl⟩ := X
  exact va_getsN hx hb hK.2.1 hS hown (va_Nw.use rfl hK.2.2.2.1) (fun _ h9 => h9) (hy_dqs d) (k _ _ _ _ _ _ hL hH hS h)
theorem hs_getsR (X : hy_Cx G x "HumpYard$Renumbering" cc nL fr lo) (d : hy_dq cc pc (.getstatic 28) 3 = true) (k : hy_Sn G x nL (pc + 3) b f) : hy_Sn G x nL pc b (o_gets f) := by
  intro L S D ls H locs hL hH hS h
  obtain ⟨p, l, e, R, s, m, args, below, meth, c, cells, slots, Q⟩ := x
  obtain ⟨hx, hb, hml, hown, hts, hlk, hK, hfr, hlo, hce, hsl⟩ := X
  exact va_getsN hx hb hK.2.1 hS hown (va_Nw.use rfl hK.2.2.2.2.1) (fun _ h9 => h9) (hy_dqs d) (k _ _ _ _ _ _ hL hH hS h)
theorem hy_cat_sum (ad : Nat → Nat) : ∀ S : List Value, ((S.map (hy_v ad)).map fun v => v.category).sum = hy_cat S
  | [] => rfl
  | v :: S => by
    simp only [List.map_cons, List.sum_cons, hy_cat, hy_v_cat]
    rw [hy_cat_sum ad S]
theorem hy_rng_spec {p n : Int32} {k : Nat} (h : hy_rng p n k = true) : ¬ p < 0 ∧ ¬ n < 0 ∧ p.toNatClampNeg + n.toNatClampNeg ≤ k ∧ 0 < k := by
  simp only [hy_rng, Bool.and_eq_true, Bool.not_eq_true', decide_eq_false_iff_not, Nat.ble_eq] at h
  exact ⟨h.1.1.1, h.1.1.2, h.1.2, h.2⟩
theorem hs_acpy (X : hy_Cx G x own cc nL fr lo) {index : Nat} (w1 : Cond.methodLink own index arraycopyName ∈ hy_WT) (w2 : Cond.native arraycopyName ∈ hy_WT) (w3 : Cond.static arraycopyName ∈ hy_WT) (w4 : Cond.initialized "java/lang/System" ∈ hy_WT) (h1 : 1 ≤ fr) (h2 : 26 ≤ lo) (d : hy_dq cc pc (.invokestatic index) 3 = true) (k : hy_Sn G x nL (pc + 3) b f) : hy_Sn G x nL pc b (o_acpy f) := by
  intro L S D ls H locs hL hH hS h
  obtain ⟨p, l, e, R, s, m, args, below, meth, c, cells, slots, Q⟩ := x
  obtain ⟨hx, hb, hml, hown, hts, hlk, hK, hfr, hlo, hce, hsl⟩ := X
  unfold o_acpy at h
  split at h
  · rename_i n dp a1 sp a0 S'
    cases hca : Nat.ble (hy_cat S') 8 with
    | false => rw [hca] at h; cases h
    | true =>
      rw [hca] at h
      dsimp only [cond_true] at h
      by_cases hi : hy_rng sp n (hy_wl a0) = true ∧ hy_rng dp n (hy_wl a1) = true
      · rw [if_pos hi] at h
        obtain ⟨r1, r2, r3, hz0⟩ := hy_rng_spec hi.1
        obtain ⟨r4, -, r6, hz1⟩ := hy_rng_spec hi.2
        obtain ⟨rs0, hsh0⟩ := hy_wl_spec hz0
        obtain ⟨rs1, hsh1⟩ := hy_wl_spec hz1
        have hlt0 := hy_sh_lt hsh0 (by omega)
        have hlt1 := hy_sh_lt hsh1 (by omega)
        refine va_copyi hx hb (hml.trans hL.1.symm) hown (hts _ w1) (hts _ w2) (hts _ w3) (hts _ w4) hK.1 hH.1 (hy_D hK.2.2.2.2.2 D) hS a0 a1 0 0 (ty := .int) (by rw [hy_ws_get hlt0, hy_E_0 hsh0]) (by rw [hy_ws_get hlt1, hy_E_0 hsh1]) rfl rfl rfl r1 r4 r2 r3 r6 (fun _ _ => rfl) (Nat.le_trans h1 hfr) ?_ (hy_dqs d) (fun H1 locs1 hP1 hD1 hS1 => k _ _ _ _ _ _ hL (hy_HR_put (D' := hy_cp D a0 a1 sp.toNatClampNeg dp.toNatClampNeg n.toNatClampNeg) hH hlt1 (by rw [hy_E_0 hsh1]; simp [hy_cp]) (fun c' h9 => by simp [hy_cp, h9]) hP1) hS1 h)
        have e1 := hy_cat_sum G.1 S'
        have e2 := Nat.le_of_ble_eq_true hca
        have e3 : nativeFrameWords "java/lang/System" "arraycopy" 5 = 7 := by decide +kernel
        rw [e3]
        have e4 : 26 ≤ R.locals := Nat.le_trans h2 hlo
        omega
      · rw [if_neg hi] at h
        cases h
  · cases h
end HM
/-! ===== methods and calls ===== -/
def hy_Pc (G : hy_G) (a : List Value) (D : hy_M) : Array Value → State → Prop := fun v U => v = (a.map (hy_v G.1)).toArray ∧ hy_HR G D U.heap ∧ hy_K G U
def hy_Qi (G : hy_G) (r : Int32) (D : hy_M) : Array Value → State → Outcome → State → Prop := fun _ st o t => o = .returned (some (.int r)) ∧ hy_HR G D t.heap ∧ va_F (hy_A G) st t
def hy_Ql (G : hy_G) (r : Int64) (D : hy_M) : Array Value → State → Outcome → State → Prop := fun _ st o t => o = .returned (some (.long r)) ∧ hy_HR G D t.heap ∧ va_F (hy_A G) st t
def hy_Qv (G : hy_G) (D : hy_M) : Array Value → State → Outcome → State → Prop := fun _ st o t => o = .returned none ∧ hy_HR G D t.heap ∧ va_F (hy_A G) st t
abbrev hy_rm (fr lo : Nat) : Room := { frames := fr, cells := 0, slots := 0, locals := lo }
def hy_Mi (l : Launch) (G : hy_G) (y : MethodName) (cc : ByteArray) (nL : Nat) (rt : FieldType) (fr lo : Nat) (g : List Value → hy_M → Option (Int32 × hy_M)) : Prop := ∀ (a : List Value) (D D' : hy_M) (r : Int32), g a D = some (r, D') → Met l y (Cond.code y cc nL (some rt) :: hy_WT) (hy_rm fr lo) (hy_Pc G a D) (hy_Qi G r D') 0 0 (hy_A G)
def hy_Ml (l : Launch) (G : hy_G) (y : MethodName) (cc : ByteArray) (nL fr lo : Nat) (g : List Value → hy_M → Option (Int64 × hy_M)) : Prop := ∀ (a : List Value) (D D' : hy_M) (r : Int64), g a D = some (r, D') → Met l y (Cond.code y cc nL (some .long) :: hy_WT) (hy_rm fr lo) (hy_Pc G a D) (hy_Ql G r D') 0 0 (hy_A G)
def hy_Mv (l : Launch) (G : hy_G) (y : MethodName) (cc : ByteArray) (nL fr lo : Nat) (g : List Value → hy_M → Option hy_M) : Prop := ∀ (a : List Value) (D D' : hy_M), g a D = some D' → Met l y (Cond.code y cc nL none :: hy_WT) (hy_rm fr lo) (hy_Pc G a D) (hy_Qv G D') 0 0 (hy_A G)
theorem hy_K.moved {G : hy_G} {s U : State} {H : Heap} {locs : List Loc} (h : hy_K G s) (hS : va_S (hy_A G) s.heap H locs) (hU : U.heap = H) (hW : s.WarmedH U.vm) : hy_K G U := by
  obtain ⟨h1, h2, h3, h4, h5, h6⟩ := h
  subst hU
  exact ⟨va_K.moved hW.alike h1, va_Z.moved hW.alike (va_Z.kept h2 hS.2.1), va_T.moved hW.alike (va_T.kept h3 hS.2.1), va_Nw.warmF hW h4, va_Nw.warmF hW h5, h6⟩
theorem hy_blind (G : hy_G) (a : List Value) (D : hy_M) : FrameBlind (hy_Pc G a D) := by
  intro v U g mk q
  obtain ⟨q1, q2, k1, k2, k3, k4, k5, k6⟩ := q
  refine ⟨q1, q2, va_K.moved (u := U) (U := U.calling g mk v) (Vm.Alike.refl U.vm) k1, va_Z.moved (u := U) (U := U.calling g mk v) (Vm.Alike.refl U.vm) k2, va_T.moved (u := U) (U := U.calling g mk v) (Vm.Alike.refl U.vm) k3, va_Nw.same rfl rfl k4, va_Nw.same rfl rfl k5, k6⟩
theorem hy_pre {G : hy_G} {s : State} {H : Heap} {locs : List Loc} {a : List Value} {D : hy_M} (hK : hy_K G s) (hH : hy_HR G D H) (hS : va_S (hy_A G) s.heap H locs) : ∀ U : State, U.heap = H → s.WarmedH U.vm → hy_Pc G a D (a.map (hy_v G.1)).toArray U := fun U hU hW => ⟨rfl, by rw [hU]; exact hH, hK.moved hS hU hW⟩
theorem hy_good {w : Cond} (h : w ∈ hy_WT) : GoodIn hy_WT (w :: hy_WT) := by
  intro z hz
  rcases List.mem_cons.mp hz with rfl | hz
  · exact ⟨h, good_of_word (List.mem_filter.mp h).2⟩
  · exact ⟨hz, good_of_word (List.mem_filter.mp hz).2⟩
/-- behind a call -/
theorem hy_after {p : Program} {l : Launch} {e : Env} {R : Room} {s : State} {m : MethodId} {args : Array Value} {below : List Frame} {meth : Method} {c : Code} {H : Heap} {locs : List Loc} {cells slots pc : Nat} {Q : State → Prop} {ls : Array Slot} {st0 rest : List Value} {G : hy_G} {D : hy_M} {v0 : Option Value} {Qa : State → Outcome → State → Prop}
    (hr : va_Run p l e R s m args below meth c H locs cells slots 0 0 (F0 m pc ls st0) rest Qa (hy_A G)) (hQ : ∀ st o t, Qa st o t → o = .returned v0 ∧ hy_HR G D t.heap ∧ va_F (hy_A G) st t) (hS : va_S (hy_A G) s.heap H locs)
    (kk : ∀ (H1 : Heap) (locs1 : List Loc), hy_HR G D H1 → va_S (hy_A G) s.heap H1 locs1 → W p l e R s m args below meth c H1 locs1 cells slots Q (F0 m (pc + 3) ls (v0.toList ++ rest))) : W p l e R s m args below meth c H locs cells slots Q (F0 m pc ls st0) := by
  intro T hT X
  obtain ⟨v, st₀, t, T', L, h0, X', hL, e1, e2, hq, st⟩ := hr T hT X
  obtain ⟨hv, hH, hz, hk⟩ := hQ _ _ _ hq
  cases hv
  rw [h0] at hz hk
  obtain ⟨t2, a1, b1⟩ := kk T'.heap (locs ++ L) (by rw [e1]; exact hH) ⟨Nat.le_trans hS.1 (by rw [e1]; exact hz), fun q h1 h2 => by rw [e1, hk q (Nat.lt_of_lt_of_le h1 hS.1) h2]; exact hS.2.1 q h1 h2, fun q hq => by
      rcases List.mem_append.mp hq with h | h
      · exact hS.2.2 q h
      · exact hL q h⟩ T' rfl X'
  exact ⟨t2, st t2 a1, b1⟩
theorem hy_pop_spec : ∀ {n : Nat} {acc S a S' : List Value}, hy_pop n acc S = some (a, S') → ∃ q : List Value, q.length = n ∧ a = q.reverse ++ acc ∧ S = q ++ S' := by
  intro n
  induction n with
  | zero => intro acc S a S' h; simp only [hy_pop, Option.some.injEq, Prod.mk.injEq] at h; exact ⟨[], rfl, by simp [h.1], by simp [h.2]⟩
  | succ n ih =>
    intro acc S a S' h
    cases S with
    | nil => simp [hy_pop] at h
    | cons v S =>
      simp only [hy_pop] at h
      obtain ⟨q, h1, h2, h3⟩ := ih h
      exact ⟨v :: q, by simp [h1], by simp [h2], by simp [h3]⟩
theorem hy_pop0 {n : Nat} {S a S' : List Value} (h : hy_pop n [] S = some (a, S')) : a.length = n ∧ S = a.reverse ++ S' := by
  obtain ⟨q, h1, h2, h3⟩ := hy_pop_spec h
  simp only [List.append_nil] at h2
  subst h2
  exact ⟨by simp [h1], by simp [h3]⟩
/-- a static callee's words -/
def hy_ys (y : MethodName) (cc : ByteArray) (nL n : Nat) (rt : Option FieldType) : Prop := Cond.static y ∈ hy_WT ∧ Cond.initialized y.cls ∈ hy_WT ∧ Cond.code y cc nL rt ∈ hy_WT ∧ (y.cls ≠ "java/lang/invoke/MethodHandle" ∧ y.cls ≠ "java/lang/invoke/VarHandle" ∧ (parseMethodDescriptor y.desc).map (fun d => d.parameters.length) = some n)
/-- an instance callee's words -/
def hy_yv (y : MethodName) (cc : ByteArray) (nL n ci : Nat) (rt : Option FieldType) : Prop := Cond.instanceMethod y ∈ hy_WT ∧ Cond.selects y.cls y y ∈ hy_WT ∧ Cond.initialized y.cls ∈ hy_WT ∧ Cond.code y cc nL rt ∈ hy_WT ∧ (y.cls ≠ "java/lang/invoke/MethodHandle" ∧ y.cls ≠ "java/lang/invoke/VarHandle" ∧ (parseMethodDescriptor y.desc).map (fun d => d.parameters.length) = some n) ∧ ∃ q : vw_C, vwCl[ci]? = some q ∧ q.1 = y.cls
theorem hy_goodS {own : String} {index : Nat} {y : MethodName} {cc : ByteArray} {nL : Nat} {rt : Option FieldType} (w : Cond.methodLink own index y ∈ hy_WT) (h1 : Cond.static y ∈ hy_WT) (h2 : Cond.initialized y.cls ∈ hy_WT) (h3 : Cond.code y cc nL rt ∈ hy_WT) : GoodIn hy_WT (va_wsS own index y (Cond.code y cc nL rt :: hy_WT)) := by
  intro z hz
  unfold va_wsS at hz
  rcases List.mem_append.mp hz with hz | hz
  · have hz' : z ∈ hy_WT := by
      simp only [List.mem_cons, List.not_mem_nil, or_false] at hz
      rcases hz with rfl | rfl | rfl <;> assumption
    exact ⟨hz', good_of_word (List.mem_filter.mp hz').2⟩
  · exact hy_good h3 z hz
theorem hy_goodV {own : String} {index : Nat} {y : MethodName} {cc : ByteArray} {nL : Nat} {rt : Option FieldType} (w : Cond.methodLink own index y ∈ hy_WT) (h0 : Cond.instanceMethod y ∈ hy_WT) (h1 : Cond.selects y.cls y y ∈ hy_WT) (h2 : Cond.initialized y.cls ∈ hy_WT) (h3 : Cond.code y cc nL rt ∈ hy_WT) : GoodIn hy_WT (wsV own index y.cls y (Cond.code y cc nL rt :: hy_WT)) := by
  intro z hz
  unfold wsV at hz
  rcases List.mem_append.mp hz with hz | hz
  · have hz' : z ∈ hy_WT := by
      simp only [List.mem_cons, List.not_mem_nil, or_false] at hz
      rcases hz with rfl | rfl | rfl | rfl <;> assumption
    exact ⟨hz', good_of_word (List.mem_filter.mp hz').2⟩
  · exact hy_good h3 z hz
section HC
variable {G : hy_G} {x : hy_X} {own : String} {cc : ByteArray} {nL fr lo pc : Nat} {β : Type} {b : β} {f g : hy_C β} {y : MethodName} {c' : ByteArray} {nL' fr' lo' n index ci : Nat} {rt : FieldType}
theorem hs_cali (X : hy_Cx G x own cc nL fr lo) {u : List Value → hy_M → Option (Int32 × hy_M)} (M : ∀ l, hy_Mi l G y c' nL' rt fr' lo' u) (Y : hy_ys y c' nL' n (some rt)) (w : Cond.methodLink own index y ∈ hy_WT) (d : hy_dq cc pc (.invokestatic index) 3 = true) (h1 : fr' + 1 ≤ fr) (h2 : 19 + nL' + lo' ≤ lo) (k : hy_Sn G x nL (pc + 3) b f) : hy_Sn G x nL pc b (o_cali n u f) := by
  intro L S D ls H locs hL hH hS h
  obtain ⟨p, l, e, R, s, m, args, below, meth, c, cells, slots, Q⟩ := x
  obtain ⟨hx, hb, hml, hown, hts, hlk, hK, hfr, hlo, hce, hsl⟩ := X
  unfold o_cali at h
  split at h
  · rename_i a S' hp
    cases hca : Nat.ble (hy_cat S') 8 with
    | false => rw [hca] at h; cases h
    | true =>
      rw [hca] at h
      dsimp only [cond_true] at h
      obtain ⟨⟨r, D1⟩, he, hf2⟩ := Option.bind_eq_some_iff.mp h
      obtain ⟨y1, y2, y3, y4⟩ := Y
      obtain ⟨p1, p2⟩ := hy_pop0 hp
      subst p2
      have cw := va_cwS (R := R) (rm := hy_rm fr' lo') n hts (hy_goodS w y1 y2 y3) rfl rfl rfl y4 ⟨Nat.le_trans h1 hfr, by show 8 + (nL' + 11) + lo' ≤ R.locals; omega⟩
      have e1 := hy_cat_sum G.1 S'
      have e2 := Nat.le_of_ble_eq_true hca
      exact hy_after (va_runS (As := a.map (hy_v G.1)) (rest := S'.map (hy_v G.1)) ⟨hx, hb, hml, hown, hts⟩ (M l a D D1 r he) cw ⟨hy_blind G a D, hy_pre hK hH hS⟩ rfl (by simp [p1]) hL.1 (by simp) (lv_room (by omega)) (hy_dqs d) ⟨hce, hsl⟩) (v0 := some (.int r)) (fun _ _ _ q => q) hS (fun H1 locs1 hH1 hS1 => k _ (.int r :: S') _ _ _ _ hL hH1 hS1 hf2)
  · cases h
theorem hs_vali (X : hy_Cx G x own cc nL fr lo) {u : List Value → hy_M → Option (Int32 × hy_M)} (M : ∀ l, hy_Mi l G y c' nL' rt fr' lo' u) (Y : hy_yv y c' nL' n ci (some rt)) (w : Cond.methodLink own index y ∈ hy_WT) (d : hy_dq cc pc (.invokevirtual index) 3 = true) (h1 : fr' + 1 ≤ fr) (h2 : 19 + nL' + lo' ≤ lo) (k : hy_Sn G x nL (pc + 3) b f) : hy_Sn G x nL pc b (o_vali ci (n + 1) u f) := by
  intro L S D ls H locs hL hH hS h
  obtain ⟨p, l, e, R, s, m, args, below, meth, c, cells, slots, Q⟩ := x
  obtain ⟨hx, hb, hml, hown, hts, hlk, hK, hfr, hlo, hce, hsl⟩ := X
  unfold o_vali at h
  split at h
  · rename_i a S' hp
    cases hca : hy_rc ci a && Nat.ble (hy_cat S') 8 with
    | false => rw [hca] at h; cases h
    | true =>
      rw [hca] at h
      dsimp only [cond_true] at h
      obtain ⟨⟨r, D1⟩, he, hf2⟩ := Option.bind_eq_some_iff.mp h
      obtain ⟨y0, y1, y2, y3, y4, qc, y5, y6⟩ := Y
      obtain ⟨p1, p2⟩ := hy_pop0 hp
      subst p2
      simp only [Bool.and_eq_true] at hca
      unfold hy_rc at hca
      split at hca
      · rename_i o As
        obtain ⟨rs, hsh⟩ := hy_cl_spec hca.1
        have hlt := hy_sh_lt hsh (by omega)
        have cw := cwV (R := R) (rm := hy_rm fr' lo') n hts (hy_goodV w y0 y1 y2 y3) rfl rfl rfl ⟨rfl, y4⟩ ⟨Nat.le_trans h1 hfr, by show 8 + (nL' + 11) + lo' ≤ R.locals; omega⟩
        have e1 := hy_cat_sum G.1 S'
        have e2 := Nat.le_of_ble_eq_true hca.2
        have hrc := va_recv hK.1 hH.1 (ci := ci) (q0 := o) y5 (by rw [hy_ws_get hlt, hy_E_2 hsh])
        rw [y6] at hrc
        exact hy_after (va_runV (As := As.map (hy_v G.1)) (rest := S'.map (hy_v G.1)) ⟨hx, hb, hml, hown, hts⟩ (M l (.ref o :: As) D D1 r he) cw ⟨hy_blind G (.ref o :: As) D, hrc, hy_pre hK hH hS⟩ rfl (by simpa using p1) hL.1 (by simp [hy_v]) (lv_room (by omega)) (hy_dqs d) ⟨hce, hsl⟩) (v0 := some (.int r)) (fun _ _ _ q => q) hS (fun H1 locs1 hH1 hS1 => k _ (.int r :: S') _ _ _ _ hL hH1 hS1 hf2)
      · exact absurd hca.1 (by simp)
  · cases h
theorem hs_call (X : hy_Cx G x own cc nL fr lo) {u : List Value → hy_M → Option (Int64 × hy_M)} (M : ∀ l, hy_Ml l G y c' nL' fr' lo' u) (Y : hy_ys y c' nL' n (some .long)) (w : Cond.methodLink own index y ∈ hy_WT) (d : hy_dq cc pc (.invokestatic index) 3 = true) (h1 : fr' + 1 ≤ fr) (h2 : 19 + nL' + lo' ≤ lo) (k : hy_Sn G x nL (pc + 3) b f) : hy_Sn G x nL pc b (o_call n u f) := by
  intro L S D ls H locs hL hH hS h
  obtain ⟨p, l, e, R, s, m, args, below, meth, c, cells, slots, Q⟩ := x
  obtain ⟨hx, hb, hml, hown, hts, hlk, hK, hfr, hlo, hce, hsl⟩ := X
  unfold o_call at h
  split at h
  · rename_i a S' hp
    cases hca : Nat.ble (hy_cat S') 8 with
    | false => rw [hca] at h; cases h
    | true =>
      rw [hca] at h
      dsimp only [cond_true] at h
      obtain ⟨⟨r, D1⟩, he, hf2⟩ := Option.bind_eq_some_iff.mp h
      obtain ⟨y1, y2, y3, y4⟩ := Y
      obtain ⟨p1, p2⟩ := hy_pop0 hp
      subst p2
      have cw := va_cwS (R := R) (rm := hy_rm fr' lo') n hts (hy_goodS w y1 y2 y3) rfl rfl rfl y4 ⟨Nat.le_trans h1 hfr, by show 8 + (nL' + 11) + lo' ≤ R.locals; omega⟩
      have e1 := hy_cat_sum G.1 S'
      have e2 := Nat.le_of_ble_eq_true hca
      exact hy_after (va_runS (As := a.map (hy_v G.1)) (rest := S'.map (hy_v G.1)) ⟨hx, hb, hml, hown, hts⟩ (M l a D D1 r he) cw ⟨hy_blind G a D, hy_pre hK hH hS⟩ rfl (by simp [p1]) hL.1 (by simp) (lv_room (by omega)) (hy_dqs d) ⟨hce, hsl⟩) (v0 := some (.long r)) (fun _ _ _ q => q) hS (fun H1 locs1 hH1 hS1 => k _ (.long r :: S') _ _ _ _ hL hH1 hS1 hf2)
  · cases h
theorem hs_vall (X : hy_Cx G x own cc nL fr lo) {u : List Value → hy_M → Option (Int64 × hy_M)} (M : ∀ l, hy_Ml l G y c' nL' fr' lo' u) (Y : hy_yv y c' nL' n ci (some .long)) (w : Cond.methodLink own index y ∈ hy_WT) (d : hy_dq cc pc (.invokevirtual index) 3 = true) (h1 : fr' + 1 ≤ fr) (h2 : 19 + nL' + lo' ≤ lo) (k : hy_Sn G x nL (pc + 3) b f) : hy_Sn G x nL pc b (o_vall ci (n + 1) u f) := by
  intro L S D ls H locs hL hH hS h
  obtain ⟨p, l, e, R, s, m, args, below, meth, c, cells, slots, Q⟩ := x
  obtain ⟨hx, hb, hml, hown, hts, hlk, hK, hfr, hlo, hce, hsl⟩ := X
  unfold o_vall at h
  split at h
  · rename_i a S' hp
    cases hca : hy_rc ci a && Nat.ble (hy_cat S') 8 with
    | false => rw [hca] at h; cases h
    | true =>
      rw [hca] at h
      dsimp only [cond_true] at h
      obtain ⟨⟨r, D1⟩, he, hf2⟩ := Option.bind_eq_some_iff.mp h
      obtain ⟨y0, y1, y2, y3, y4, qc, y5, y6⟩ := Y
      obtain ⟨p1, p2⟩ := hy_pop0 hp
      subst p2
      simp only [Bool.and_eq_true] at hca
      unfold hy_rc at hca
      split at hca
      · rename_i o As
        obtain ⟨rs, hsh⟩ := hy_cl_spec hca.1
        have hlt := hy_sh_lt hsh (by omega)
        have cw := cwV (R := R) (rm := hy_rm fr' lo') n hts (hy_goodV w y0 y1 y2 y3) rfl rfl rfl ⟨rfl, y4⟩ ⟨Nat.le_trans h1 hfr, by show 8 + (nL' + 11) + lo' ≤ R.locals; omega⟩
        have e1 := hy_cat_sum G.1 S'
        have e2 := Nat.le_of_ble_eq_true hca.2
        have hrc := va_recv hK.1 hH.1 (ci := ci) (q0 := o) y5 (by rw [hy_ws_get hlt, hy_E_2 hsh])
        rw [y6] at hrc
        exact hy_after (va_runV (As := As.map (hy_v G.1)) (rest := S'.map (hy_v G.1)) ⟨hx, hb, hml, hown, hts⟩ (M l (.ref o :: As) D D1 r he) cw ⟨hy_blind G (.ref o :: As) D, hrc, hy_pre hK hH hS⟩ rfl (by simpa using p1) hL.1 (by simp [hy_v]) (lv_room (by omega)) (hy_dqs d) ⟨hce, hsl⟩) (v0 := some (.long r)) (fun _ _ _ q => q) hS (fun H1 locs1 hH1 hS1 => k _ (.long r :: S') _ _ _ _ hL hH1 hS1 hf2)
      · exact absurd hca.1 (by simp)
  · cases h
theorem hs_calv (X : hy_Cx G x own cc nL fr lo) {u : List Value → hy_M → Option hy_M} (M : ∀ l, hy_Mv l G y c' nL' fr' lo' u) (Y : hy_ys y c' nL' n (none)) (w : Cond.methodLink own index y ∈ hy_WT) (d : hy_dq cc pc (.invokestatic index) 3 = true) (h1 : fr' + 1 ≤ fr) (h2 : 19 + nL' + lo' ≤ lo) (k : hy_Sn G x nL (pc + 3) b f) : hy_Sn G x nL pc b (o_calv n u f) := by
  intro L S D ls H locs hL hH hS h
  obtain ⟨p, l, e, R, s, m, args, below, meth, c, cells, slots, Q⟩ := x
  obtain ⟨hx, hb, hml, hown, hts, hlk, hK, hfr, hlo, hce, hsl⟩ := X
  unfold o_calv at h
  split at h
  · rename_i a S' hp
    cases hca : Nat.ble (hy_cat S') 8 with
    | false => rw [hca] at h; cases h
    | true =>
      rw [hca] at h
      dsimp only [cond_true] at h
      obtain ⟨D1, he, hf2⟩ := Option.bind_eq_some_iff.mp h
      obtain ⟨y1, y2, y3, y4⟩ := Y
      obtain ⟨p1, p2⟩ := hy_pop0 hp
      subst p2
      have cw := va_cwS (R := R) (rm := hy_rm fr' lo') n hts (hy_goodS w y1 y2 y3) rfl rfl rfl y4 ⟨Nat.le_trans h1 hfr, by show 8 + (nL' + 11) + lo' ≤ R.locals; omega⟩
      have e1 := hy_cat_sum G.1 S'
      have e2 := Nat.le_of_ble_eq_true hca
      exact hy_after (va_runS (As := a.map (hy_v G.1)) (rest := S'.map (hy_v G.1)) ⟨hx, hb, hml, hown, hts⟩ (M l a D D1 he) cw ⟨hy_blind G a D, hy_pre hK hH hS⟩ rfl (by simp [p1]) hL.1 (by simp) (lv_room (by omega)) (hy_dqs d) ⟨hce, hsl⟩) (v0 := none) (fun _ _ _ q => q) hS (fun H1 locs1 hH1 hS1 => k _ ( S') _ _ _ _ hL hH1 hS1 hf2)
  · cases h
theorem hs_valv (X : hy_Cx G x own cc nL fr lo) {u : List Value → hy_M → Option hy_M} (M : ∀ l, hy_Mv l G y c' nL' fr' lo' u) (Y : hy_yv y c' nL' n ci (none)) (w : Cond.methodLink own index y ∈ hy_WT) (d : hy_dq cc pc (.invokevirtual index) 3 = true) (h1 : fr' + 1 ≤ fr) (h2 : 19 + nL' + lo' ≤ lo) (k : hy_Sn G x nL (pc + 3) b f) : hy_Sn G x nL pc b (o_valv ci (n + 1) u f) := by
  intro L S D ls H locs hL hH hS h
  obtain ⟨p, l, e, R, s, m, args, below, meth, c, cells, slots, Q⟩ := x
  obtain ⟨hx, hb, hml, hown, hts, hlk, hK, hfr, hlo, hce, hsl⟩ := X
  unfold o_valv at h
  split at h
  · rename_i a S' hp
    cases hca : hy_rc ci a && Nat.ble (hy_cat S') 8 with
    | false => rw [hca] at h; cases h
    | true =>
      rw [hca] at h
      dsimp only [cond_true] at h
      obtain ⟨D1, he, hf2⟩ := Option.bind_eq_some_iff.mp h
      obtain ⟨y0, y1, y2, y3, y4, qc, y5, y6⟩ := Y
      obtain ⟨p1, p2⟩ := hy_pop0 hp
      subst p2
      simp only [Bool.and_eq_true] at hca
      unfold hy_rc at hca
      split at hca
      · rename_i o As
        obtain ⟨rs, hsh⟩ := hy_cl_spec hca.1
        have hlt := hy_sh_lt hsh (by omega)
        have cw := cwV (R := R) (rm := hy_rm fr' lo') n hts (hy_goodV w y0 y1 y2 y3) rfl rfl rfl ⟨rfl, y4⟩ ⟨Nat.le_trans h1 hfr, by show 8 + (nL' + 11) + lo' ≤ R.locals; omega⟩
        have e1 := hy_cat_sum G.1 S'
        have e2 := Nat.le_of_ble_eq_true hca.2
        have hrc := va_recv hK.1 hH.1 (ci := ci) (q0 := o) y5 (by rw [hy_ws_get hlt, hy_E_2 hsh])
        rw [y6] at hrc
        exact hy_after (va_runV (As := As.map (hy_v G.1)) (rest := S'.map (hy_v G.1)) ⟨hx, hb, hml, hown, hts⟩ (M l (.ref o :: As) D D1 he) cw ⟨hy_blind G (.ref o :: As) D, hrc, hy_pre hK hH hS⟩ rfl (by simpa using p1) hL.1 (by simp [hy_v]) (lv_room (by omega)) (hy_dqs d) ⟨hce, hsl⟩) (v0 := none) (fun _ _ _ q => q) hS (fun H1 locs1 hH1 hS1 => k _ ( S') _ _ _ _ hL hH1 hS1 hf2)
      · exact absurd hca.1 (by simp)
  · cases h
end HC
end
section
/-! ===== ends, methods ===== -/
def hy_Ri (G : hy_G) (x : hy_X) (b : Int32 × hy_M) (rt : FieldType) : Prop := match x with
  | (_, _, _, _, s, _, args, below, meth, _, cells, slots, Q) => Q = MQ below (hy_Qi G b.1 b.2) args s cells slots (hy_A G) ∧ meth.sig.returnType = some rt
def hy_Rl (G : hy_G) (x : hy_X) (b : Int64 × hy_M) : Prop := match x with
  | (_, _, _, _, s, _, args, below, meth, _, cells, slots, Q) => Q = MQ below (hy_Ql G b.1 b.2) args s cells slots (hy_A G) ∧ meth.sig.returnType = some .long
def hy_Rv (G : hy_G) (x : hy_X) (b : hy_M) : Prop := match x with
  | (_, _, _, _, s, _, args, below, meth, _, cells, slots, Q) => Q = MQ below (hy_Qv G b) args s cells slots (hy_A G) ∧ meth.sig.returnType = none
section HE
variable {G : hy_G} {x : hy_X} {own : String} {cc : ByteArray} {nL fr lo pc : Nat}
theorem hs_iret {b : Int32 × hy_M} (X : hy_Cx G x own cc nL fr lo) (r : hy_Ri G x b .int) (d : hy_dq cc pc .ireturn 1 = true) : hy_Sn G x nL pc b o_iret := by
  intro L S D ls H locs hL hH hS h
  obtain ⟨p, l, e, R, s, m, args, below, meth, c, cells, slots, Q⟩ := x
  obtain ⟨hx, hb, hml, hown, hts, hlk, hK, hfr, hlo, hce, hsl⟩ := X
  obtain ⟨rfl, hr⟩ := r
  unfold o_iret at h
  split at h
  · cases h
    exact W.iret hx hb hr (fun t ht hW => ⟨rfl, by rw [ht]; exact hH, hS.F ht⟩) hS.2.2 (hy_dqs d) hlk
  · cases h
theorem hs_zret {b : Int32 × hy_M} (X : hy_Cx G x own cc nL fr lo) (r : hy_Ri G x b .boolean) (d : hy_dq cc pc .ireturn 1 = true) : hy_Sn G x nL pc b o_zret := by
  intro L S D ls H locs hL hH hS h
  obtain ⟨p, l, e, R, s, m, args, below, meth, c, cells, slots, Q⟩ := x
  obtain ⟨hx, hb, hml, hown, hts, hlk, hK, hfr, hlo, hce, hsl⟩ := X
  obtain ⟨rfl, hr⟩ := r
  unfold o_zret at h
  split at h
  · rename_i v
    by_cases hv : v = 0 ∨ v = 1
    · rw [if_pos hv] at h
      cases h
      exact W.zret hx hb hr (by rcases hv with rfl | rfl <;> rfl) (fun t ht hW => ⟨rfl, by rw [ht]; exact hH, hS.F ht⟩) hS.2.2 (hy_dqs d) hlk
    · rw [if_neg hv] at h
      cases h
  · cases h
theorem hs_lret {b : Int64 × hy_M} (X : hy_Cx G x own cc nL fr lo) (r : hy_Rl G x b) (d : hy_dq cc pc .lreturn 1 = true) : hy_Sn G x nL pc b o_lret := by
  intro L S D ls H locs hL hH hS h
  obtain ⟨p, l, e, R, s, m, args, below, meth, c, cells, slots, Q⟩ := x
  obtain ⟨hx, hb, hml, hown, hts, hlk, hK, hfr, hlo, hce, hsl⟩ := X
  obtain ⟨rfl, hr⟩ := r
  unfold o_lret at h
  split at h
  · cases h
    exact W.lret hx hb hr (fun t ht hW => ⟨rfl, by rw [ht]; exact hH, hS.F ht⟩) hS.2.2 (hy_dqs d) hlk
  · cases h
theorem hs_vret {b : hy_M} (X : hy_Cx G x own cc nL fr lo) (r : hy_Rv G x b) (d : hy_dq cc pc .return_ 1 = true) : hy_Sn G x nL pc b o_vret := by
  intro L S D ls H locs hL hH hS h
  obtain ⟨p, l, e, R, s, m, args, below, meth, c, cells, slots, Q⟩ := x
  obtain ⟨hx, hb, hml, hown, hts, hlk, hK, hfr, hlo, hce, hsl⟩ := X
  obtain ⟨rfl, hr⟩ := r
  unfold o_vret at h
  split at h
  · cases h
    exact W.vret hx hb hr (fun t ht hW => ⟨rfl, by rw [ht]; exact hH, hS.F ht⟩) hS.2.2 (hy_dqs d) hlk
  · cases h
end HE
theorem hy_lg_len : ∀ (ad : Nat → Nat) (a : List Value), (lg_sl (a.map (hy_v ad))).length = hy_wd a
  | ad, [] => rfl
  | ad, v :: a => by
    have ih := hy_lg_len ad a
    simp only [lg_sl, List.map_cons, List.flatMap_cons, List.length_append, hy_wd, hy_v_cat] at ih ⊢
    rw [ih]
    rcases lv_cat v with h | h <;> simp [h]
theorem hy_lget_rep : ∀ (k i : Nat), hy_lget i (List.replicate k none) = none
  | 0, i => by cases i <;> rfl
  | k + 1, 0 => rfl
  | k + 1, i + 1 => by simp only [List.replicate_succ, hy_lget]; exact hy_lget_rep k i
theorem hy_lo_args (ad : Nat → Nat) (k : Nat) : ∀ (a : List Value) (i j : Nat) (v : Value), hy_lget i (hy_lo a ++ List.replicate k none) = some v → (j + i, hy_v ad v) ∈ lv_args j (a.map (hy_v ad)) := by
  intro a
  induction a with
  | nil =>
    intro i j v h
    simp only [hy_lo, List.nil_append] at h
    rw [hy_lget_rep] at h
    cases h
  | cons w a ih =>
    intro i j v h
    have one : ∀ (hc : w.category = 1) (hl : hy_lo (w :: a) = some w :: hy_lo a), (j + i, hy_v ad v) ∈ lv_args j ((w :: a).map (hy_v ad)) := by
      intro hc hl
      rw [hl] at h
      simp only [List.map_cons, lv_args, hy_v_cat, hc]
      cases i with
      | zero =>
        simp only [List.cons_append, hy_lget, Option.some.injEq] at h
        subst h
        exact List.mem_cons_self
      | succ i =>
        simp only [List.cons_append, hy_lget] at h
        have := ih i (j + 1) v h
        rw [show j + 1 + i = j + (i + 1) by omega] at this
        exact List.mem_cons_of_mem _ (by simpa using this)
    have two : ∀ (hc : w.category = 2) (hl : hy_lo (w :: a) = some w :: none :: hy_lo a), (j + i, hy_v ad v) ∈ lv_args j ((w :: a).map (hy_v ad)) := by
      intro hc hl
      rw [hl] at h
      simp only [List.map_cons, lv_args, hy_v_cat, hc]
      cases i with
      | zero =>
        simp only [List.cons_append, hy_lget, Option.some.injEq] at h
        subst h
        exact List.mem_cons_self
      | succ i =>
        cases i with
        | zero => simp [hy_lget] at h
        | succ i =>
          simp only [List.cons_append, hy_lget] at h
          have := ih i (j + 2) v h
          rw [show j + 2 + i = j + (i + 1 + 1) by omega] at this
          exact List.mem_cons_of_mem _ (by simpa using this)
    cases w with
    | long z => exact two rfl rfl
    | double z => exact two rfl rfl
    | int z => exact one rfl rfl
    | float z => exact one rfl rfl
    | null => exact one rfl rfl
    | ref z => exact one rfl rfl
    | retAddr z => exact one rfl rfl
theorem hy_entry {ad : Nat → Nat} {a : List Value} {nL : Nat} (h : hy_wd a ≤ nL) : hy_LR ad nL (hy_lo a ++ List.replicate (nL - hy_wd a) none) ((lg_sl (a.map (hy_v ad)) ++ List.replicate (nL - (lg_sl (a.map (hy_v ad))).length) Slot.unset).toArray) := by
  have hl := lv_entry (a.map (hy_v ad)) (n := nL) (by rw [hy_lg_len]; exact h)
  refine ⟨hl.1, hl.2.1, fun i v hi => ?_⟩
  have := hl.2.2 _ (hy_lo_args ad _ a i 0 v hi)
  simpa using this
section HT
variable {G : hy_G} {y : MethodName} {cc : ByteArray} {nL fr lo : Nat}
theorem hy_meti {rt : FieldType} {f : hy_C (Int32 × hy_M)} (hp : plainName y.cls = true) (body : ∀ (x : hy_X) (b : Int32 × hy_M), hy_Cx G x y.cls cc nL fr lo → hy_Ri G x b rt → hy_Sn G x nL 0 b f) : ∀ l, hy_Mi l G y cc nL rt fr lo (hy_g nL f) := by
  intro l a D D' r hg
  refine Met.ofW (cc := cc) (maxL := nL) (ret := some rt) hp rfl ?_
  intro p e s m args below meth c s₁ B hml hv
  obtain ⟨rfl, hH, hK⟩ := hv
  have hts := atoms_spec (ws := Cond.code y cc nL (some rt) :: hy_WT) B.pre
  unfold hy_g at hg
  cases hle : Nat.ble (hy_wd a) nL with
  | false => rw [hle] at hg; cases hg
  | true =>
    rw [hle] at hg
    rw [lg_entry_eq]
    exact body (p, l, e, _, s, m, _, below, meth, c, 0, 0, _) (r, D') ⟨B.exec, B.bytes, hml, findClass_of_methodNamed B.named, fun w hw => hts w (List.mem_cons_of_mem _ hw), B.notSynchronized, hK, Nat.le_refl _, Nat.le_refl _, Nat.zero_le _, Nat.zero_le _⟩ ⟨rfl, B.returns⟩ _ [] D _ s.heap [] (hy_entry (Nat.le_of_ble_eq_true hle)) hH va_S.rf hg
theorem hy_metl {f : hy_C (Int64 × hy_M)} (hp : plainName y.cls = true) (body : ∀ (x : hy_X) (b : Int64 × hy_M), hy_Cx G x y.cls cc nL fr lo → hy_Rl G x b → hy_Sn G x nL 0 b f) : ∀ l, hy_Ml l G y cc nL fr lo (hy_g nL f) := by
  intro l a D D' r hg
  refine Met.ofW (cc := cc) (maxL := nL) (ret := some .long) hp rfl ?_
  intro p e s m args below meth c s₁ B hml hv
  obtain ⟨rfl, hH, hK⟩ := hv
  have hts := atoms_spec (ws := Cond.code y cc nL (some .long) :: hy_WT) B.pre
  unfold hy_g at hg
  cases hle : Nat.ble (hy_wd a) nL with
  | false => rw [hle] at hg; cases hg
  | true =>
    rw [hle] at hg
    rw [lg_entry_eq]
    exact body (p, l, e, _, s, m, _, below, meth, c, 0, 0, _) (r, D') ⟨B.exec, B.bytes, hml, findClass_of_methodNamed B.named, fun w hw => hts w (List.mem_cons_of_mem _ hw), B.notSynchronized, hK, Nat.le_refl _, Nat.le_refl _, Nat.zero_le _, Nat.zero_le _⟩ ⟨rfl, B.returns⟩ _ [] D _ s.heap [] (hy_entry (Nat.le_of_ble_eq_true hle)) hH va_S.rf hg
theorem hy_metv {f : hy_C hy_M} (hp : plainName y.cls = true) (body : ∀ (x : hy_X) (b : hy_M), hy_Cx G x y.cls cc nL fr lo → hy_Rv G x b → hy_Sn G x nL 0 b f) : ∀ l, hy_Mv l G y cc nL fr lo (hy_g nL f) := by
  intro l a D D' hg
  refine Met.ofW (cc := cc) (maxL := nL) (ret := none) hp rfl ?_
  intro p e s m args below meth c s₁ B hml hv
  obtain ⟨rfl, hH, hK⟩ := hv
  have hts := atoms_spec (ws := Cond.code y cc nL none :: hy_WT) B.pre
  unfold hy_g at hg
  cases hle : Nat.ble (hy_wd a) nL with
  | false => rw [hle] at hg; cases hg
  | true =>
    rw [hle] at hg
    rw [lg_entry_eq]
    exact body (p, l, e, _, s, m, _, below, meth, c, 0, 0, _) D' ⟨B.exec, B.bytes, hml, findClass_of_methodNamed B.named, fun w hw => hts w (List.mem_cons_of_mem _ hw), B.notSynchronized, hK, Nat.le_refl _, Nat.le_refl _, Nat.zero_le _, Nat.zero_le _⟩ ⟨rfl, B.returns⟩ _ [] D _ s.heap [] (hy_entry (Nat.le_of_ble_eq_true hle)) hH va_S.rf hg
end HT
/-! ===== a table of branches ===== -/
def hy_tabS (G : hy_G) (x : hy_X) (nL pc : Nat) {β : Type} (b : β) : Nat → List Int → List (Int32 × hy_C β) → Prop
  | _, [], [] => True
  | i, off :: os, (k, f) :: ks => (k = nI i ∧ ∃ tgt : Nat, (pc : Int) + off = (tgt : Int) ∧ hy_Sn G x nL tgt b f) ∧ hy_tabS G x nL pc b (i + 1) os ks
  | _, _, _ => False
theorem hs_tabN {G : hy_G} {x : hy_X} {nL pc : Nat} {β : Type} {b : β} {i : Nat} : hy_tabS G x nL pc b i [] ([] : List (Int32 × hy_C β)) := trivial
theorem hs_tabC {G : hy_G} {x : hy_X} {nL pc : Nat} {β : Type} {b : β} {i : Nat} {off : Int} {os : List Int} {v : Int32} {f : hy_C β} {ks : List (Int32 × hy_C β)} {tgt : Nat} (hv : v = nI i) (ht : (pc : Int) + off = (tgt : Int)) (k : hy_Sn G x nL tgt b f) (r : hy_tabS G x nL pc b (i + 1) os ks) : hy_tabS G x nL pc b i (off :: os) ((v, f) :: ks) := ⟨⟨hv, tgt, ht, k⟩, r⟩
theorem hy_tab_find {G : hy_G} {x : hy_X} {nL pc : Nat} {β : Type} {b : β} {z : Int32} {L : hy_L} {S : List Value} {D : hy_M} {d : hy_C β} : ∀ (ks : List (Int32 × hy_C β)) (os : List Int) (i : Nat), hy_tabS G x nL pc b i os ks → hy_tab z L S D d ks = some b →
    (∃ (j : Nat) (off : Int) (tgt : Nat) (f : hy_C β), os[j]? = some off ∧ z = nI (i + j) ∧ (pc : Int) + off = (tgt : Int) ∧ hy_Sn G x nL tgt b f ∧ f L S D = some b) ∨ ((∀ j, j < os.length → z ≠ nI (i + j)) ∧ d L S D = some b)
  | [], [], i, _, h => Or.inr ⟨fun j hj => by simp at hj, h⟩
  | [], _ :: _, i, hs, _ => hs.elim
  | _ :: _, [], i, hs, _ => hs.elim
  | (v, f) :: ks, off :: os, i, hs, h => by
    obtain ⟨⟨hv, tgt, ht, hk⟩, hr⟩ := hs
    unfold hy_tab at h
    by_cases e : z = v
    · rw [if_pos e] at h
      exact Or.inl ⟨0, off, tgt, f, rfl, by rw [e, hv]; rfl, ht, hk, h⟩
    · rw [if_neg e] at h
      rcases hy_tab_find ks os (i + 1) hr h with ⟨j, off', tgt', f', h1, h2, h3, h4, h5⟩ | ⟨h1, h2⟩
      · exact Or.inl ⟨j + 1, off', tgt', f', by simpa using h1, by rw [h2]; congr 1; omega, h3, h4, h5⟩
      · refine Or.inr ⟨fun j hj => ?_, h2⟩
        cases j with
        | zero => rw [Nat.add_zero, ← hv]; exact e
        | succ j =>
          have := h1 j (by simpa using hj)
          rw [show i + 1 + j = i + (j + 1) by omega] at this
          exact this
theorem hs_tab {G : hy_G} {x : hy_X} {own : String} {cc : ByteArray} {nL fr lo pc : Nat} {β : Type} {b : β} (X : hy_Cx G x own cc nL fr lo) {dflt hi : Int} {os : List Int} {len tgt : Nat} {ks : List (Int32 × hy_C β)} {dd : hy_C β} (d : hy_dq cc pc (.tableswitch dflt 0 hi os.toArray) len = true) (hhi : hi + 1 = (os.length : Int)) (hsm : os.length < 1000) (ht : (pc : Int) + dflt = (tgt : Int)) (kd : hy_Sn G x nL tgt b dd) (ks' : hy_tabS G x nL pc b 0 os ks) : hy_Sn G x nL pc b (o_tab ks dd) := by
  intro L S D ls H locs hL hH hS h
  obtain ⟨p, l, e, R, s, m, args, below, meth, c, cells, slots, Q⟩ := x
  obtain ⟨hx, hb, hml, hown, hts, hlk, hK, hfr, hlo, hce, hsl⟩ := X
  unfold o_tab at h
  split at h
  · rename_i z S'
    rcases hy_tab_find ks os 0 ks' h with ⟨j, off, tgt', f, h1, h2, h3, h4, h5⟩ | ⟨h1, h2⟩
    · have hj : j < os.length := (List.getElem?_eq_some_iff.mp h1).1
      have hz : z.toInt = (j : Int) := by rw [h2, Nat.zero_add]; exact nI_toInt (by omega)
      exact lv_tableIn hx hb (hy_dqs d) (by omega) (by omega) (by rw [hz]; simpa using h1) h3 (h4 _ _ _ _ _ _ hL hH hS h5)
    · refine lv_tableOut hx hb (hy_dqs d) ?_ ht (kd _ _ _ _ _ _ hL hH hS h2)
      by_cases hz : z.toInt < 0
      · exact Or.inl hz
      · right
        apply Classical.byContradiction
        intro hn
        obtain ⟨j, hj⟩ : ∃ j : Nat, z.toInt = (j : Int) := ⟨z.toInt.toNat, by omega⟩
        refine h1 j (by omega) ?_
        rw [Nat.zero_add]
        apply Int32.toInt_inj.mp
        rw [hj, nI_toInt (by omega)]
  · cases h
end
section
theorem cls_0 : hy_cls 0 RX0 TX0 8 tyX0 := ⟨rfl, fun w hw => (by
  have h : ∀ w ∈ u_ws RX0 TX0 8, (w ∈ tables_1 ∧ goodWord w = true) := by decide +kernel
  exact hy_WT_in (List.mem_append_right _ (h w hw).1) (h w hw).2), tyX0_ok, nmX0⟩
theorem cls_1 : hy_cls 1 RX2 TX2 2 tyX2 := ⟨rfl, fun w hw => (by
  have h : ∀ w ∈ u_ws RX2 TX2 2, (w ∈ tables_1 ∧ goodWord w = true) := by decide +kernel
  exact hy_WT_in (List.mem_append_right _ (h w hw).1) (h w hw).2), tyX2_ok, nmX2⟩
theorem cls_2 : hy_cls 2 RX3 TX3 2 tyX3 := ⟨rfl, fun w hw => (by
  have h : ∀ w ∈ u_ws RX3 TX3 2, (w ∈ tables_1 ∧ goodWord w = true) := by decide +kernel
  exact hy_WT_in (List.mem_append_right _ (h w hw).1) (h w hw).2), tyX3_ok, nmX3⟩
theorem cls_3 : hy_cls 3 RX4 TX4 2 tyX4 := ⟨rfl, fun w hw => (by
  have h : ∀ w ∈ u_ws RX4 TX4 2, (w ∈ tables_1 ∧ goodWord w = true) := by decide +kernel
  exact hy_WT_in (List.mem_append_right _ (h w hw).1) (h w hw).2), tyX4_ok, nmX4⟩
theorem cls_4 : hy_cls 4 RX5 TX5 5 tyX5 := ⟨rfl, fun w hw => (by
  have h : ∀ w ∈ u_ws RX5 TX5 5, (w ∈ tables_1 ∧ goodWord w = true) := by decide +kernel
  exact hy_WT_in (List.mem_append_right _ (h w hw).1) (h w hw).2), tyX5_ok, nmX5⟩
theorem cls_5 : hy_cls 5 RX6 TX6 2 tyX6 := ⟨rfl, fun w hw => (by
  have h : ∀ w ∈ u_ws RX6 TX6 2, (w ∈ tables_1 ∧ goodWord w = true) := by decide +kernel
  exact hy_WT_in (List.mem_append_right _ (h w hw).1) (h w hw).2), tyX6_ok, nmX6⟩
theorem cls_6 : hy_cls 6 RX7 TX7 12 tyX7 := ⟨rfl, fun w hw => (by
  have h : ∀ w ∈ u_ws RX7 TX7 12, (w ∈ tables_1 ∧ goodWord w = true) := by decide +kernel
  exact hy_WT_in (List.mem_append_right _ (h w hw).1) (h w hw).2), tyX7_ok, nmX7⟩
theorem cls_7 : hy_cls 7 RX8 TX8 10 tyX8 := ⟨rfl, fun w hw => (by
  have h : ∀ w ∈ u_ws RX8 TX8 10, (w ∈ tables_1 ∧ goodWord w = true) := by decide +kernel
  exact hy_WT_in (List.mem_append_right _ (h w hw).1) (h w hw).2), tyX8_ok, nmX8⟩
theorem cls_8 : hy_cls 8 RX9 TX9 20 tyX9 := ⟨rfl, fun w hw => (by
  have h : ∀ w ∈ u_ws RX9 TX9 20, (w ∈ tables_1 ∧ goodWord w = true) := by decide +kernel
  exact hy_WT_in (List.mem_append_right _ (h w hw).1) (h w hw).2), tyX9_ok, nmX9⟩
theorem fl_X8_12 : hy_fl RX8 12 7 0 := ⟨RX8, TX8, 10, tyX8, cls_7, by decide, hy_in_tb (i := 212) (by decide +kernel) rfl⟩
theorem fl_X8_18 : hy_fl RX8 18 7 1 := ⟨RX8, TX8, 10, tyX8, cls_7, by decide, hy_in_tb (i := 213) (by decide +kernel) rfl⟩
theorem fl_X8_21 : hy_fl RX8 21 7 2 := ⟨RX8, TX8, 10, tyX8, cls_7, by decide, hy_in_tb (i := 214) (by decide +kernel) rfl⟩
theorem fl_X8_28 : hy_fl RX8 28 7 3 := ⟨RX8, TX8, 10, tyX8, cls_7, by decide, hy_in_tb (i := 215) (by decide +kernel) rfl⟩
theorem fl_X8_35 : hy_fl RX8 35 7 4 := ⟨RX8, TX8, 10, tyX8, cls_7, by decide, hy_in_tb (i := 216) (by decide +kernel) rfl⟩
theorem fl_X8_42 : hy_fl RX8 42 7 5 := ⟨RX8, TX8, 10, tyX8, cls_7, by decide, hy_in_tb (i := 217) (by decide +kernel) rfl⟩
theorem fl_X8_49 : hy_fl RX8 49 7 6 := ⟨RX8, TX8, 10, tyX8, cls_7, by decide, hy_in_tb (i := 218) (by decide +kernel) rfl⟩
theorem fl_X8_56 : hy_fl RX8 56 7 7 := ⟨RX8, TX8, 10, tyX8, cls_7, by decide, hy_in_tb (i := 219) (by decide +kernel) rfl⟩
theorem fl_X8_63 : hy_fl RX8 63 7 8 := ⟨RX8, TX8, 10, tyX8, cls_7, by decide, hy_in_tb (i := 220) (by decide +kernel) rfl⟩
theorem fl_X8_67 : hy_fl RX8 67 7 9 := ⟨RX8, TX8, 10, tyX8, cls_7, by decide, hy_in_tb (i := 221) (by decide +kernel) rfl⟩
theorem fl_X8_75 : hy_fl RX8 75 5 1 := ⟨RX6, TX6, 2, tyX6, cls_5, by decide, hy_in_tb (i := 114) (by decide +kernel) rfl⟩
theorem fl_X8_91 : hy_fl RX8 91 6 0 := ⟨RX7, TX7, 12, tyX7, cls_6, by decide, hy_in_tb (i := 52) (by decide +kernel) rfl⟩
theorem fl_X8_94 : hy_fl RX8 94 6 2 := ⟨RX7, TX7, 12, tyX7, cls_6, by decide, hy_in_tb (i := 57) (by decide +kernel) rfl⟩
theorem fl_X8_101 : hy_fl RX8 101 6 5 := ⟨RX7, TX7, 12, tyX7, cls_6, by decide, hy_in_tb (i := 64) (by decide +kernel) rfl⟩
theorem fl_X8_111 : hy_fl RX8 111 6 4 := ⟨RX7, TX7, 12, tyX7, cls_6, by decide, hy_in_tb (i := 61) (by decide +kernel) rfl⟩
theorem fl_X8_117 : hy_fl RX8 117 6 10 := ⟨RX7, TX7, 12, tyX7, cls_6, by decide, hy_in_tb (i := 76) (by decide +kernel) rfl⟩
theorem fl_X8_120 : hy_fl RX8 120 6 1 := ⟨RX7, TX7, 12, tyX7, cls_6, by decide, hy_in_tb (i := 55) (by decide +kernel) rfl⟩
theorem fl_X8_123 : hy_fl RX8 123 6 6 := ⟨RX7, TX7, 12, tyX7, cls_6, by decide, hy_in_tb (i := 67) (by decide +kernel) rfl⟩
theorem fl_X8_126 : hy_fl RX8 126 6 7 := ⟨RX7, TX7, 12, tyX7, cls_6, by decide, hy_in_tb (i := 70) (by decide +kernel) rfl⟩
theorem fl_X8_149 : hy_fl RX8 149 6 9 := ⟨RX7, TX7, 12, tyX7, cls_6, by decide, hy_in_tb (i := 74) (by decide +kernel) rfl⟩
theorem fl_X8_156 : hy_fl RX8 156 6 11 := ⟨RX7, TX7, 12, tyX7, cls_6, by decide, hy_in_tb (i := 79) (by decide +kernel) rfl⟩
theorem fl_X8_206 : hy_fl RX8 206 0 7 := ⟨RX0, TX0, 8, tyX0, cls_0, by decide, hy_in_tb (i := 166) (by decide +kernel) rfl⟩
theorem fl_X8_233 : hy_fl RX8 233 6 3 := ⟨RX7, TX7, 12, tyX7, cls_6, by decide, hy_in_tb (i := 59) (by decide +kernel) rfl⟩
theorem fl_X8_249 : hy_fl RX8 249 1 1 := ⟨RX2, TX2, 2, tyX2, cls_1, by decide, hy_in_tb (i := 42) (by decide +kernel) rfl⟩
theorem fl_X8_258 : hy_fl RX8 258 3 1 := ⟨RX4, TX4, 2, tyX4, cls_3, by decide, hy_in_tb (i := 130) (by decide +kernel) rfl⟩
theorem fl_X8_271 : hy_fl RX8 271 3 0 := ⟨RX4, TX4, 2, tyX4, cls_3, by decide, hy_in_tb (i := 128) (by decide +kernel) rfl⟩
theorem fl_X8_277 : hy_fl RX8 277 4 2 := ⟨RX5, TX5, 5, tyX5, cls_4, by decide, hy_in_tb (i := 194) (by decide +kernel) rfl⟩
theorem fl_X8_280 : hy_fl RX8 280 4 3 := ⟨RX5, TX5, 5, tyX5, cls_4, by decide, hy_in_tb (i := 196) (by decide +kernel) rfl⟩
theorem fl_X8_283 : hy_fl RX8 283 4 4 := ⟨RX5, TX5, 5, tyX5, cls_4, by decide, hy_in_tb (i := 198) (by decide +kernel) rfl⟩
theorem fl_X8_289 : hy_fl RX8 289 4 1 := ⟨RX5, TX5, 5, tyX5, cls_4, by decide, hy_in_tb (i := 192) (by decide +kernel) rfl⟩
theorem fl_X8_307 : hy_fl RX8 307 2 1 := ⟨RX3, TX3, 2, tyX3, cls_2, by decide, hy_in_tb (i := 146) (by decide +kernel) rfl⟩
theorem fl_X8_313 : hy_fl RX8 313 2 0 := ⟨RX3, TX3, 2, tyX3, cls_2, by decide, hy_in_tb (i := 144) (by decide +kernel) rfl⟩
theorem fl_X8_327 : hy_fl RX8 327 1 0 := ⟨RX2, TX2, 2, tyX2, cls_1, by decide, hy_in_tb (i := 39) (by decide +kernel) rfl⟩
theorem fl_X0_9 : hy_fl RX0 9 0 0 := ⟨RX0, TX0, 8, tyX0, cls_0, by decide, hy_in_tb (i := 158) (by decide +kernel) rfl⟩
theorem fl_X0_15 : hy_fl RX0 15 0 1 := ⟨RX0, TX0, 8, tyX0, cls_0, by decide, hy_in_tb (i := 159) (by decide +kernel) rfl⟩
theorem fl_X0_19 : hy_fl RX0 19 0 2 := ⟨RX0, TX0, 8, tyX0, cls_0, by decide, hy_in_tb (i := 160) (by decide +kernel) rfl⟩
theorem fl_X0_22 : hy_fl RX0 22 0 3 := ⟨RX0, TX0, 8, tyX0, cls_0, by decide, hy_in_tb (i := 161) (by decide +kernel) rfl⟩
theorem fl_X0_25 : hy_fl RX0 25 0 4 := ⟨RX0, TX0, 8, tyX0, cls_0, by decide, hy_in_tb (i := 162) (by decide +kernel) rfl⟩
theorem fl_X0_28 : hy_fl RX0 28 0 5 := ⟨RX0, TX0, 8, tyX0, cls_0, by decide, hy_in_tb (i := 163) (by decide +kernel) rfl⟩
theorem fl_X0_31 : hy_fl RX0 31 0 6 := ⟨RX0, TX0, 8, tyX0, cls_0, by decide, hy_in_tb (i := 164) (by decide +kernel) rfl⟩
theorem fl_X0_34 : hy_fl RX0 34 0 7 := ⟨RX0, TX0, 8, tyX0, cls_0, by decide, hy_in_tb (i := 165) (by decide +kernel) rfl⟩
theorem fl_X0_37 : hy_fl RX0 37 6 0 := ⟨RX7, TX7, 12, tyX7, cls_6, by decide, hy_in_tb (i := 50) (by decide +kernel) rfl⟩
theorem fl_X0_46 : hy_fl RX0 46 6 1 := ⟨RX7, TX7, 12, tyX7, cls_6, by decide, hy_in_tb (i := 54) (by decide +kernel) rfl⟩
theorem fl_X0_82 : hy_fl RX0 82 6 6 := ⟨RX7, TX7, 12, tyX7, cls_6, by decide, hy_in_tb (i := 66) (by decide +kernel) rfl⟩
theorem fl_X0_85 : hy_fl RX0 85 6 9 := ⟨RX7, TX7, 12, tyX7, cls_6, by decide, hy_in_tb (i := 73) (by decide +kernel) rfl⟩
theorem fl_X0_91 : hy_fl RX0 91 6 7 := ⟨RX7, TX7, 12, tyX7, cls_6, by decide, hy_in_tb (i := 69) (by decide +kernel) rfl⟩
theorem fl_X0_100 : hy_fl RX0 100 6 4 := ⟨RX7, TX7, 12, tyX7, cls_6, by decide, hy_in_tb (i := 62) (by decide +kernel) rfl⟩
theorem fl_X0_106 : hy_fl RX0 106 6 10 := ⟨RX7, TX7, 12, tyX7, cls_6, by decide, hy_in_tb (i := 77) (by decide +kernel) rfl⟩
theorem fl_X2_13 : hy_fl RX2 13 1 0 := ⟨RX2, TX2, 2, tyX2, cls_1, by decide, hy_in_tb (i := 37) (by decide +kernel) rfl⟩
theorem fl_X2_16 : hy_fl RX2 16 1 1 := ⟨RX2, TX2, 2, tyX2, cls_1, by decide, hy_in_tb (i := 40) (by decide +kernel) rfl⟩
theorem fl_X3_11 : hy_fl RX3 11 2 0 := ⟨RX3, TX3, 2, tyX3, cls_2, by decide, hy_in_tb (i := 143) (by decide +kernel) rfl⟩
theorem fl_X3_16 : hy_fl RX3 16 2 1 := ⟨RX3, TX3, 2, tyX3, cls_2, by decide, hy_in_tb (i := 145) (by decide +kernel) rfl⟩
theorem fl_X4_9 : hy_fl RX4 9 3 0 := ⟨RX4, TX4, 2, tyX4, cls_3, by decide, hy_in_tb (i := 127) (by decide +kernel) rfl⟩
theorem fl_X4_15 : hy_fl RX4 15 3 1 := ⟨RX4, TX4, 2, tyX4, cls_3, by decide, hy_in_tb (i := 129) (by decide +kernel) rfl⟩
theorem fl_X5_9 : hy_fl RX5 9 4 0 := ⟨RX5, TX5, 5, tyX5, cls_4, by decide, hy_in_tb (i := 190) (by decide +kernel) rfl⟩
theorem fl_X5_15 : hy_fl RX5 15 4 1 := ⟨RX5, TX5, 5, tyX5, cls_4, by decide, hy_in_tb (i := 191) (by decide +kernel) rfl⟩
theorem fl_X5_18 : hy_fl RX5 18 4 2 := ⟨RX5, TX5, 5, tyX5, cls_4, by decide, hy_in_tb (i := 193) (by decide +kernel) rfl⟩
theorem fl_X5_25 : hy_fl RX5 25 4 4 := ⟨RX5, TX5, 5, tyX5, cls_4, by decide, hy_in_tb (i := 197) (by decide +kernel) rfl⟩
theorem fl_X5_44 : hy_fl RX5 44 6 0 := ⟨RX7, TX7, 12, tyX7, cls_6, by decide, hy_in_tb (i := 51) (by decide +kernel) rfl⟩
theorem fl_X6_9 : hy_fl RX6 9 5 0 := ⟨RX6, TX6, 2, tyX6, cls_5, by decide, hy_in_tb (i := 111) (by decide +kernel) rfl⟩
theorem fl_X6_15 : hy_fl RX6 15 5 1 := ⟨RX6, TX6, 2, tyX6, cls_5, by decide, hy_in_tb (i := 113) (by decide +kernel) rfl⟩
theorem fl_X7_9 : hy_fl RX7 9 6 0 := ⟨RX7, TX7, 12, tyX7, cls_6, by decide, hy_in_tb (i := 49) (by decide +kernel) rfl⟩
theorem fl_X7_15 : hy_fl RX7 15 6 1 := ⟨RX7, TX7, 12, tyX7, cls_6, by decide, hy_in_tb (i := 53) (by decide +kernel) rfl⟩
theorem fl_X7_18 : hy_fl RX7 18 6 2 := ⟨RX7, TX7, 12, tyX7, cls_6, by decide, hy_in_tb (i := 56) (by decide +kernel) rfl⟩
theorem fl_X7_22 : hy_fl RX7 22 6 3 := ⟨RX7, TX7, 12, tyX7, cls_6, by decide, hy_in_tb (i := 58) (by decide +kernel) rfl⟩
theorem fl_X7_25 : hy_fl RX7 25 6 4 := ⟨RX7, TX7, 12, tyX7, cls_6, by decide, hy_in_tb (i := 60) (by decide +kernel) rfl⟩
theorem fl_X7_29 : hy_fl RX7 29 6 5 := ⟨RX7, TX7, 12, tyX7, cls_6, by decide, hy_in_tb (i := 63) (by decide +kernel) rfl⟩
theorem fl_X7_32 : hy_fl RX7 32 6 6 := ⟨RX7, TX7, 12, tyX7, cls_6, by decide, hy_in_tb (i := 65) (by decide +kernel) rfl⟩
theorem fl_X7_35 : hy_fl RX7 35 6 7 := ⟨RX7, TX7, 12, tyX7, cls_6, by decide, hy_in_tb (i := 68) (by decide +kernel) rfl⟩
theorem fl_X7_40 : hy_fl RX7 40 6 8 := ⟨RX7, TX7, 12, tyX7, cls_6, by decide, hy_in_tb (i := 71) (by decide +kernel) rfl⟩
theorem fl_X7_43 : hy_fl RX7 43 6 9 := ⟨RX7, TX7, 12, tyX7, cls_6, by decide, hy_in_tb (i := 72) (by decide +kernel) rfl⟩
theorem fl_X7_46 : hy_fl RX7 46 6 10 := ⟨RX7, TX7, 12, tyX7, cls_6, by decide, hy_in_tb (i := 75) (by decide +kernel) rfl⟩
theorem fl_X7_52 : hy_fl RX7 52 6 11 := ⟨RX7, TX7, 12, tyX7, cls_6, by decide, hy_in_tb (i := 78) (by decide +kernel) rfl⟩
theorem fl_X7_66 : hy_fl RX7 66 5 1 := ⟨RX6, TX6, 2, tyX6, cls_5, by decide, hy_in_tb (i := 115) (by decide +kernel) rfl⟩
theorem fl_X7_71 : hy_fl RX7 71 5 0 := ⟨RX6, TX6, 2, tyX6, cls_5, by decide, hy_in_tb (i := 112) (by decide +kernel) rfl⟩
theorem fl_X7_137 : hy_fl RX7 137 1 1 := ⟨RX2, TX2, 2, tyX2, cls_1, by decide, hy_in_tb (i := 41) (by decide +kernel) rfl⟩
theorem fl_X7_140 : hy_fl RX7 140 1 0 := ⟨RX2, TX2, 2, tyX2, cls_1, by decide, hy_in_tb (i := 38) (by decide +kernel) rfl⟩
theorem fl_X9_9 : hy_fl RX9 9 8 0 := ⟨RX9, TX9, 20, tyX9, cls_8, by decide, hy_in_tb (i := 719) (by decide +kernel) rfl⟩
theorem fl_X9_15 : hy_fl RX9 15 8 1 := ⟨RX9, TX9, 20, tyX9, cls_8, by decide, hy_in_tb (i := 720) (by decide +kernel) rfl⟩
theorem fl_X9_18 : hy_fl RX9 18 8 2 := ⟨RX9, TX9, 20, tyX9, cls_8, by decide, hy_in_tb (i := 721) (by decide +kernel) rfl⟩
theorem fl_X9_21 : hy_fl RX9 21 8 4 := ⟨RX9, TX9, 20, tyX9, cls_8, by decide, hy_in_tb (i := 723) (by decide +kernel) rfl⟩
theorem fl_X9_24 : hy_fl RX9 24 8 6 := ⟨RX9, TX9, 20, tyX9, cls_8, by decide, hy_in_tb (i := 725) (by decide +kernel) rfl⟩
theorem fl_X9_27 : hy_fl RX9 27 8 7 := ⟨RX9, TX9, 20, tyX9, cls_8, by decide, hy_in_tb (i := 726) (by decide +kernel) rfl⟩
theorem fl_X9_30 : hy_fl RX9 30 8 8 := ⟨RX9, TX9, 20, tyX9, cls_8, by decide, hy_in_tb (i := 727) (by decide +kernel) rfl⟩
theorem fl_X9_33 : hy_fl RX9 33 8 9 := ⟨RX9, TX9, 20, tyX9, cls_8, by decide, hy_in_tb (i := 728) (by decide +kernel) rfl⟩
theorem fl_X9_36 : hy_fl RX9 36 8 10 := ⟨RX9, TX9, 20, tyX9, cls_8, by decide, hy_in_tb (i := 729) (by decide +kernel) rfl⟩
theorem fl_X9_39 : hy_fl RX9 39 8 15 := ⟨RX9, TX9, 20, tyX9, cls_8, by decide, hy_in_tb (i := 734) (by decide +kernel) rfl⟩
theorem fl_X9_42 : hy_fl RX9 42 8 17 := ⟨RX9, TX9, 20, tyX9, cls_8, by decide, hy_in_tb (i := 736) (by decide +kernel) rfl⟩
theorem fl_X9_45 : hy_fl RX9 45 8 18 := ⟨RX9, TX9, 20, tyX9, cls_8, by decide, hy_in_tb (i := 737) (by decide +kernel) rfl⟩
theorem fl_X9_48 : hy_fl RX9 48 8 19 := ⟨RX9, TX9, 20, tyX9, cls_8, by decide, hy_in_tb (i := 738) (by decide +kernel) rfl⟩
theorem fl_X9_65 : hy_fl RX9 65 8 5 := ⟨RX9, TX9, 20, tyX9, cls_8, by decide, hy_in_tb (i := 724) (by decide +kernel) rfl⟩
theorem fl_X9_168 : hy_fl RX9 168 8 11 := ⟨RX9, TX9, 20, tyX9, cls_8, by decide, hy_in_tb (i := 730) (by decide +kernel) rfl⟩
theorem fl_X9_171 : hy_fl RX9 171 8 12 := ⟨RX9, TX9, 20, tyX9, cls_8, by decide, hy_in_tb (i := 731) (by decide +kernel) rfl⟩
theorem fl_X9_212 : hy_fl RX9 212 8 13 := ⟨RX9, TX9, 20, tyX9, cls_8, by decide, hy_in_tb (i := 732) (by decide +kernel) rfl⟩
theorem fl_X9_215 : hy_fl RX9 215 8 14 := ⟨RX9, TX9, 20, tyX9, cls_8, by decide, hy_in_tb (i := 733) (by decide +kernel) rfl⟩
theorem fl_X9_255 : hy_fl RX9 255 8 16 := ⟨RX9, TX9, 20, tyX9, cls_8, by decide, hy_in_tb (i := 735) (by decide +kernel) rfl⟩
theorem fl_X9_281 : hy_fl RX9 281 8 3 := ⟨RX9, TX9, 20, tyX9, cls_8, by decide, hy_in_tb (i := 722) (by decide +kernel) rfl⟩
theorem fp_X8_21 : hy_fp RX8 21 7 2 .boolean := ⟨RX8, TX8, 10, tyX8, cls_7, by decide, hy_in_tb (i := 214) (by decide +kernel) rfl, rfl, rfl⟩
theorem fp_X8_75 : hy_fp RX8 75 5 1 .int := ⟨RX6, TX6, 2, tyX6, cls_5, by decide, hy_in_tb (i := 114) (by decide +kernel) rfl, rfl, rfl⟩
theorem fp_X8_94 : hy_fp RX8 94 6 2 .boolean := ⟨RX7, TX7, 12, tyX7, cls_6, by decide, hy_in_tb (i := 57) (by decide +kernel) rfl, rfl, rfl⟩
theorem fp_X8_120 : hy_fp RX8 120 6 1 .int := ⟨RX7, TX7, 12, tyX7, cls_6, by decide, hy_in_tb (i := 55) (by decide +kernel) rfl, rfl, rfl⟩
theorem fp_X8_233 : hy_fp RX8 233 6 3 .int := ⟨RX7, TX7, 12, tyX7, cls_6, by decide, hy_in_tb (i := 59) (by decide +kernel) rfl, rfl, rfl⟩
theorem fp_X8_258 : hy_fp RX8 258 3 1 .int := ⟨RX4, TX4, 2, tyX4, cls_3, by decide, hy_in_tb (i := 130) (by decide +kernel) rfl, rfl, rfl⟩
theorem fp_X0_15 : hy_fp RX0 15 0 1 .int := ⟨RX0, TX0, 8, tyX0, cls_0, by decide, hy_in_tb (i := 159) (by decide +kernel) rfl, rfl, rfl⟩
theorem fp_X0_31 : hy_fp RX0 31 0 6 .int := ⟨RX0, TX0, 8, tyX0, cls_0, by decide, hy_in_tb (i := 164) (by decide +kernel) rfl, rfl, rfl⟩
theorem fp_X4_15 : hy_fp RX4 15 3 1 .int := ⟨RX4, TX4, 2, tyX4, cls_3, by decide, hy_in_tb (i := 129) (by decide +kernel) rfl, rfl, rfl⟩
theorem fp_X5_18 : hy_fp RX5 18 4 2 .int := ⟨RX5, TX5, 5, tyX5, cls_4, by decide, hy_in_tb (i := 193) (by decide +kernel) rfl, rfl, rfl⟩
theorem fp_X5_22 : hy_fp RX5 22 4 3 .int := ⟨RX5, TX5, 5, tyX5, cls_4, by decide, hy_in_tb (i := 195) (by decide +kernel) rfl, rfl, rfl⟩
theorem fp_X5_25 : hy_fp RX5 25 4 4 .int := ⟨RX5, TX5, 5, tyX5, cls_4, by decide, hy_in_tb (i := 197) (by decide +kernel) rfl, rfl, rfl⟩
theorem fp_X6_15 : hy_fp RX6 15 5 1 .int := ⟨RX6, TX6, 2, tyX6, cls_5, by decide, hy_in_tb (i := 113) (by decide +kernel) rfl, rfl, rfl⟩
theorem fp_X7_9 : hy_fp RX7 9 6 0 .int := ⟨RX7, TX7, 12, tyX7, cls_6, by decide, hy_in_tb (i := 49) (by decide +kernel) rfl, rfl, rfl⟩
theorem fp_X7_15 : hy_fp RX7 15 6 1 .int := ⟨RX7, TX7, 12, tyX7, cls_6, by decide, hy_in_tb (i := 53) (by decide +kernel) rfl, rfl, rfl⟩
theorem fp_X7_18 : hy_fp RX7 18 6 2 .boolean := ⟨RX7, TX7, 12, tyX7, cls_6, by decide, hy_in_tb (i := 56) (by decide +kernel) rfl, rfl, rfl⟩
theorem fp_X7_22 : hy_fp RX7 22 6 3 .int := ⟨RX7, TX7, 12, tyX7, cls_6, by decide, hy_in_tb (i := 58) (by decide +kernel) rfl, rfl, rfl⟩
theorem fp_X9_65 : hy_fp RX9 65 8 5 .int := ⟨RX9, TX9, 20, tyX9, cls_8, by decide, hy_in_tb (i := 724) (by decide +kernel) rfl, rfl, rfl⟩
theorem fp_X9_168 : hy_fp RX9 168 8 11 .int := ⟨RX9, TX9, 20, tyX9, cls_8, by decide, hy_in_tb (i := 730) (by decide +kernel) rfl, rfl, rfl⟩
theorem fp_X9_171 : hy_fp RX9 171 8 12 .int := ⟨RX9, TX9, 20, tyX9, cls_8, by decide, hy_in_tb (i := 731) (by decide +kernel) rfl, rfl, rfl⟩
theorem fp_X9_212 : hy_fp RX9 212 8 13 .int := ⟨RX9, TX9, 20, tyX9, cls_8, by decide, hy_in_tb (i := 732) (by decide +kernel) rfl, rfl, rfl⟩
theorem fp_X9_215 : hy_fp RX9 215 8 14 .boolean := ⟨RX9, TX9, 20, tyX9, cls_8, by decide, hy_in_tb (i := 733) (by decide +kernel) rfl, rfl, rfl⟩
theorem fp_X9_255 : hy_fp RX9 255 8 16 .int := ⟨RX9, TX9, 20, tyX9, cls_8, by decide, hy_in_tb (i := 735) (by decide +kernel) rfl, rfl, rfl⟩
theorem fp_X9_281 : hy_fp RX9 281 8 3 .boolean := ⟨RX9, TX9, 20, tyX9, cls_8, by decide, hy_in_tb (i := 722) (by decide +kernel) rfl, rfl, rfl⟩
theorem k_X5_37 : Cond.constant RX5 37 1103515245 ∈ hy_WT := hy_in_tb (i := 631) (by decide +kernel) rfl
theorem k_X9_264 : Cond.constant RX9 264 1103515245 ∈ hy_WT := hy_in_tb (i := 1097) (by decide +kernel) rfl
theorem k_J6_265 : Cond.constant RJ6 265 1431655765 ∈ hy_WT := hy_in_tb (i := 265) (by decide +kernel) rfl
theorem k_J6_266 : Cond.constant RJ6 266 858993459 ∈ hy_WT := hy_in_tb (i := 266) (by decide +kernel) rfl
theorem k_J6_267 : Cond.constant RJ6 267 252645135 ∈ hy_WT := hy_in_tb (i := 267) (by decide +kernel) rfl
theorem kl_X8_215 : Cond.constantLong RX8 215 (-9223372036854775808) ∈ hy_WT := hy_in_tb (i := 505) (by decide +kernel) rfl
theorem kl_X9_55 : Cond.constantLong RX9 55 2 ∈ hy_WT := hy_in_tb (i := 830) (by decide +kernel) rfl
theorem kl_X9_61 : Cond.constantLong RX9 61 4 ∈ hy_WT := hy_in_tb (i := 784) (by decide +kernel) rfl
theorem kl_X9_63 : Cond.constantLong RX9 63 127 ∈ hy_WT := hy_in_tb (i := 788) (by decide +kernel) rfl
theorem kl_X9_69 : Cond.constantLong RX9 69 7 ∈ hy_WT := hy_in_tb (i := 797) (by decide +kernel) rfl
theorem kl_X9_82 : Cond.constantLong RX9 82 48 ∈ hy_WT := hy_in_tb (i := 812) (by decide +kernel) rfl
theorem kl_X9_84 : Cond.constantLong RX9 84 55 ∈ hy_WT := hy_in_tb (i := 813) (by decide +kernel) rfl
theorem kl_X9_90 : Cond.constantLong RX9 90 3 ∈ hy_WT := hy_in_tb (i := 822) (by decide +kernel) rfl
theorem kl_X9_95 : Cond.constantLong RX9 95 24 ∈ hy_WT := hy_in_tb (i := 831) (by decide +kernel) rfl
theorem kl_X9_134 : Cond.constantLong RX9 134 (-1) ∈ hy_WT := hy_in_tb (i := 890) (by decide +kernel) rfl
theorem kl_X9_142 : Cond.constantLong RX9 142 10 ∈ hy_WT := hy_in_tb (i := 903) (by decide +kernel) rfl
theorem kl_X9_147 : Cond.constantLong RX9 147 17 ∈ hy_WT := hy_in_tb (i := 916) (by decide +kernel) rfl
theorem kl_X9_210 : Cond.constantLong RX9 210 (-9223372036854775808) ∈ hy_WT := hy_in_tb (i := 1002) (by decide +kernel) rfl
theorem kl_X9_245 : Cond.constantLong RX9 245 50 ∈ hy_WT := hy_in_tb (i := 1064) (by decide +kernel) rfl
theorem kl_X9_247 : Cond.constantLong RX9 247 5 ∈ hy_WT := hy_in_tb (i := 1059) (by decide +kernel) rfl
theorem kl_X9_268 : Cond.constantLong RX9 268 20 ∈ hy_WT := hy_in_tb (i := 1102) (by decide +kernel) rfl
theorem kl_X9_270 : Cond.constantLong RX9 270 8 ∈ hy_WT := hy_in_tb (i := 1103) (by decide +kernel) rfl
theorem gs_X8_170 : Cond.fieldLink RX8 170 "HumpYard" "AS_THEY_COME" "[I" ∈ hy_WT := hy_in_tb (i := 351) (by decide +kernel) rfl
theorem acp_n : Cond.native arraycopyName ∈ hy_WT := hy_in_tb (i := 500) (by decide +kernel) rfl
theorem acp_s : Cond.static arraycopyName ∈ hy_WT := hy_in_tb (i := 499) (by decide +kernel) rfl
theorem acp_i : Cond.initialized "java/lang/System" ∈ hy_WT := hy_in_tb (i := 13) (by decide +kernel) rfl
theorem ml_X8_71 : Cond.methodLink RX8 71 yX6_takes ∈ hy_WT := hy_in_tb (i := 247) (by decide +kernel) rfl
theorem ml_X8_79 : Cond.methodLink RX8 79 yX6_append ∈ hy_WT := hy_in_tb (i := 250) (by decide +kernel) rfl
theorem ml_X8_83 : Cond.methodLink RX8 83 yX6_faultOfYard ∈ hy_WT := hy_in_tb (i := 258) (by decide +kernel) rfl
theorem ml_X8_87 : Cond.methodLink RX8 87 yX7_becomeNew ∈ hy_WT := hy_in_tb (i := 272) (by decide +kernel) rfl
theorem ml_X8_97 : Cond.methodLink RX8 97 yX6_faultOfFigures ∈ hy_WT := hy_in_tb (i := 292) (by decide +kernel) rfl
theorem ml_X8_104 : Cond.methodLink RX8 104 yX6_figureAt ∈ hy_WT := hy_in_tb (i := 300) (by decide +kernel) rfl
theorem ml_X8_108 : Cond.methodLink RX8 108 yX7_hasWagon ∈ hy_WT := hy_in_tb (i := 305) (by decide +kernel) rfl
theorem ml_X8_114 : Cond.methodLink RX8 114 yX8_isTrack ∈ hy_WT := hy_in_tb (i := 313) (by decide +kernel) rfl
theorem ml_X8_129 : Cond.methodLink RX8 129 yX7_chainOf ∈ hy_WT := hy_in_tb (i := 324) (by decide +kernel) rfl
theorem ml_X8_132 : Cond.methodLink RX8 132 yX8_whereIs ∈ hy_WT := hy_in_tb (i := 338) (by decide +kernel) rfl
theorem ml_X8_135 : Cond.methodLink RX8 135 yJ6_bitCount_0f7a4 ∈ hy_WT := hy_in_tb (i := 346) (by decide +kernel) rfl
theorem ml_X8_140 : Cond.methodLink RX8 140 yX8_fewestNow ∈ hy_WT := hy_in_tb (i := 347) (by decide +kernel) rfl
theorem ml_X8_143 : Cond.methodLink RX8 143 yX8_presortedCode ∈ hy_WT := hy_in_tb (i := 376) (by decide +kernel) rfl
theorem ml_X8_146 : Cond.methodLink RX8 146 yX8_isTrain ∈ hy_WT := hy_in_tb (i := 385) (by decide +kernel) rfl
theorem ml_X8_152 : Cond.methodLink RX8 152 yX7_wantedAt ∈ hy_WT := hy_in_tb (i := 388) (by decide +kernel) rfl
theorem ml_X8_159 : Cond.methodLink RX8 159 yX7_lengthsOn ∈ hy_WT := hy_in_tb (i := 393) (by decide +kernel) rfl
theorem ml_X8_163 : Cond.methodLink RX8 163 yX7_loadOf ∈ hy_WT := hy_in_tb (i := 397) (by decide +kernel) rfl
theorem ml_X8_167 : Cond.methodLink RX8 167 yX2_wagonAt ∈ hy_WT := hy_in_tb (i := 401) (by decide +kernel) rfl
theorem ml_X8_173 : Cond.methodLink RX8 173 yX7_needOf ∈ hy_WT := hy_in_tb (i := 352) (by decide +kernel) rfl
theorem ml_X8_177 : Cond.methodLink RX8 177 yX7_chainsOf ∈ hy_WT := hy_in_tb (i := 409) (by decide +kernel) rfl
theorem ml_X8_181 : Cond.methodLink RX8 181 yX1_howMany ∈ hy_WT := hy_in_tb (i := 414) (by decide +kernel) rfl
theorem ml_X8_186 : Cond.methodLink RX8 186 yX1_mayBe ∈ hy_WT := hy_in_tb (i := 417) (by decide +kernel) rfl
theorem ml_X8_190 : Cond.methodLink RX8 190 yX7_stepsOf ∈ hy_WT := hy_in_tb (i := 422) (by decide +kernel) rfl
theorem ml_X8_193 : Cond.methodLink RX8 193 yX7_firstNotRight ∈ hy_WT := hy_in_tb (i := 431) (by decide +kernel) rfl
theorem ml_X8_196 : Cond.methodLink RX8 196 yX7_judgeCodes ∈ hy_WT := hy_in_tb (i := 435) (by decide +kernel) rfl
theorem ml_X8_199 : Cond.methodLink RX8 199 yX7_rollsOf ∈ hy_WT := hy_in_tb (i := 442) (by decide +kernel) rfl
theorem ml_X8_202 : Cond.methodLink RX8 202 yX0_findBest ∈ hy_WT := hy_in_tb (i := 451) (by decide +kernel) rfl
theorem ml_X8_209 : Cond.methodLink RX8 209 arraycopyName ∈ hy_WT := hy_in_tb (i := 498) (by decide +kernel) rfl
theorem ml_X8_217 : Cond.methodLink RX8 217 yX8_partOfLowest ∈ hy_WT := hy_in_tb (i := 506) (by decide +kernel) rfl
theorem ml_X8_221 : Cond.methodLink RX8 221 yX7_humpInto ∈ hy_WT := hy_in_tb (i := 513) (by decide +kernel) rfl
theorem ml_X8_225 : Cond.methodLink RX8 225 yX7_isOverfull ∈ hy_WT := hy_in_tb (i := 528) (by decide +kernel) rfl
theorem ml_X8_229 : Cond.methodLink RX8 229 yX2_become ∈ hy_WT := hy_in_tb (i := 533) (by decide +kernel) rfl
theorem ml_X8_236 : Cond.methodLink RX8 236 yX2_countOut ∈ hy_WT := hy_in_tb (i := 538) (by decide +kernel) rfl
theorem ml_X8_239 : Cond.methodLink RX8 239 yX7_pullIn ∈ hy_WT := hy_in_tb (i := 547) (by decide +kernel) rfl
theorem ml_X8_243 : Cond.methodLink RX8 243 yX7_becomeCleared ∈ hy_WT := hy_in_tb (i := 555) (by decide +kernel) rfl
theorem ml_X8_246 : Cond.methodLink RX8 246 yX2_outOf ∈ hy_WT := hy_in_tb (i := 560) (by decide +kernel) rfl
theorem ml_X8_252 : Cond.methodLink RX8 252 yX7_firstWrong ∈ hy_WT := hy_in_tb (i := 565) (by decide +kernel) rfl
theorem ml_X8_255 : Cond.methodLink RX8 255 yX8_replayed ∈ hy_WT := hy_in_tb (i := 573) (by decide +kernel) rfl
theorem ml_X8_259 : Cond.methodLink RX8 259 yX4_append ∈ hy_WT := hy_in_tb (i := 589) (by decide +kernel) rfl
theorem ml_X8_260 : Cond.methodLink RX8 260 yX7_laneBehind ∈ hy_WT := hy_in_tb (i := 593) (by decide +kernel) rfl
theorem ml_X8_264 : Cond.methodLink RX8 264 yX4_appendRoll ∈ hy_WT := hy_in_tb (i := 594) (by decide +kernel) rfl
theorem ml_X8_268 : Cond.methodLink RX8 268 yX8_spellPull ∈ hy_WT := hy_in_tb (i := 600) (by decide +kernel) rfl
theorem ml_X8_274 : Cond.methodLink RX8 274 yX5_findElsewhere ∈ hy_WT := hy_in_tb (i := 612) (by decide +kernel) rfl
theorem ml_X8_286 : Cond.methodLink RX8 286 yX5_drawRow ∈ hy_WT := hy_in_tb (i := 626) (by decide +kernel) rfl
theorem ml_X8_292 : Cond.methodLink RX8 292 yX1_fewestFor ∈ hy_WT := hy_in_tb (i := 363) (by decide +kernel) rfl
theorem ml_X8_295 : Cond.methodLink RX8 295 yX3_isList ∈ hy_WT := hy_in_tb (i := 640) (by decide +kernel) rfl
theorem ml_X8_298 : Cond.methodLink RX8 298 yX3_holds ∈ hy_WT := hy_in_tb (i := 643) (by decide +kernel) rfl
theorem ml_X8_301 : Cond.methodLink RX8 301 yX7_runWhole ∈ hy_WT := hy_in_tb (i := 647) (by decide +kernel) rfl
theorem ml_X8_304 : Cond.methodLink RX8 304 yX8_tellsOut ∈ hy_WT := hy_in_tb (i := 653) (by decide +kernel) rfl
theorem ml_X8_308 : Cond.methodLink RX8 308 yJ9_min_7cf53 ∈ hy_WT := hy_in_tb (i := 661) (by decide +kernel) rfl
theorem ml_X8_317 : Cond.methodLink RX8 317 yX3_makeZeros ∈ hy_WT := hy_in_tb (i := 666) (by decide +kernel) rfl
theorem ml_X8_320 : Cond.methodLink RX8 320 yX3_hasPlace ∈ hy_WT := hy_in_tb (i := 674) (by decide +kernel) rfl
theorem ml_X8_323 : Cond.methodLink RX8 323 yX3_layRow ∈ hy_WT := hy_in_tb (i := 686) (by decide +kernel) rfl
theorem ml_X8_328 : Cond.methodLink RX8 328 yX7_become ∈ hy_WT := hy_in_tb (i := 695) (by decide +kernel) rfl
theorem ml_X8_331 : Cond.methodLink RX8 331 yX2_countOnTracks ∈ hy_WT := hy_in_tb (i := 709) (by decide +kernel) rfl
theorem ml_X8_334 : Cond.methodLink RX8 334 yX1_codeOfRank ∈ hy_WT := hy_in_tb (i := 380) (by decide +kernel) rfl
theorem ml_X8_337 : Cond.methodLink RX8 337 yX2_laneOf ∈ hy_WT := hy_in_tb (i := 342) (by decide +kernel) rfl
theorem ml_X8_340 : Cond.methodLink RX8 340 yX2_tracksInUse ∈ hy_WT := hy_in_tb (i := 577) (by decide +kernel) rfl
theorem ml_X8_343 : Cond.methodLink RX8 343 yX8_wrongInThought ∈ hy_WT := hy_in_tb (i := 581) (by decide +kernel) rfl
theorem ml_X0_42 : Cond.methodLink RX0 42 yX7_chainOf ∈ hy_WT := hy_in_tb (i := 455) (by decide +kernel) rfl
theorem ml_X0_49 : Cond.methodLink RX0 49 yX0_allowBelow ∈ hy_WT := hy_in_tb (i := 456) (by decide +kernel) rfl
theorem ml_X0_53 : Cond.methodLink RX0 53 yX0_foresee ∈ hy_WT := hy_in_tb (i := 461) (by decide +kernel) rfl
theorem ml_X0_57 : Cond.methodLink RX0 57 yX0_choose ∈ hy_WT := hy_in_tb (i := 474) (by decide +kernel) rfl
theorem ml_X0_61 : Cond.methodLink RX0 61 yX1_mayBe ∈ hy_WT := hy_in_tb (i := 460) (by decide +kernel) rfl
theorem ml_X0_67 : Cond.methodLink RX0 67 yX0_highest ∈ hy_WT := hy_in_tb (i := 465) (by decide +kernel) rfl
theorem ml_X0_71 : Cond.methodLink RX0 71 yJ6_bitCount_0f7a4 ∈ hy_WT := hy_in_tb (i := 470) (by decide +kernel) rfl
theorem ml_X0_76 : Cond.methodLink RX0 76 yJ9_min_7cf53 ∈ hy_WT := hy_in_tb (i := 471) (by decide +kernel) rfl
theorem ml_X0_88 : Cond.methodLink RX0 88 yX7_wantedAt ∈ hy_WT := hy_in_tb (i := 469) (by decide +kernel) rfl
theorem ml_X0_94 : Cond.methodLink RX0 94 yX0_highFor ∈ hy_WT := hy_in_tb (i := 478) (by decide +kernel) rfl
theorem ml_X0_97 : Cond.methodLink RX0 97 yX0_lowFor ∈ hy_WT := hy_in_tb (i := 482) (by decide +kernel) rfl
theorem ml_X0_103 : Cond.methodLink RX0 103 yX0_addLoad ∈ hy_WT := hy_in_tb (i := 486) (by decide +kernel) rfl
theorem ml_X0_109 : Cond.methodLink RX0 109 yX0_loadsFit ∈ hy_WT := hy_in_tb (i := 490) (by decide +kernel) rfl
theorem ml_X1_9 : Cond.methodLink RX1 9 yJ6_bitCount_0f7a4 ∈ hy_WT := hy_in_tb (i := 372) (by decide +kernel) rfl
theorem ml_X1_15 : Cond.methodLink RX1 15 yX1_mayBe ∈ hy_WT := hy_in_tb (i := 369) (by decide +kernel) rfl
theorem ml_X1_21 : Cond.methodLink RX1 21 yX1_codeOfRank ∈ hy_WT := hy_in_tb (i := 366) (by decide +kernel) rfl
theorem ml_X1_25 : Cond.methodLink RX1 25 yX1_widthOf ∈ hy_WT := hy_in_tb (i := 373) (by decide +kernel) rfl
theorem ml_X2_20 : Cond.methodLink RX2 20 arraycopyName ∈ hy_WT := hy_in_tb (i := 537) (by decide +kernel) rfl
theorem ml_X2_26 : Cond.methodLink RX2 26 yX2_outOf ∈ hy_WT := hy_in_tb (i := 542) (by decide +kernel) rfl
theorem ml_X3_20 : Cond.methodLink RX3 20 yX3_hasPlace ∈ hy_WT := hy_in_tb (i := 690) (by decide +kernel) rfl
theorem ml_X4_19 : Cond.methodLink RX4 19 yX4_append ∈ hy_WT := hy_in_tb (i := 598) (by decide +kernel) rfl
theorem ml_X4_23 : Cond.methodLink RX4 23 yX2_outOf ∈ hy_WT := hy_in_tb (i := 599) (by decide +kernel) rfl
theorem ml_X5_31 : Cond.methodLink RX5 31 arraycopyName ∈ hy_WT := hy_in_tb (i := 630) (by decide +kernel) rfl
theorem ml_X5_38 : Cond.methodLink RX5 38 yX7_needOf ∈ hy_WT := hy_in_tb (i := 617) (by decide +kernel) rfl
theorem ml_X5_47 : Cond.methodLink RX5 47 yX5_moveTo ∈ hy_WT := hy_in_tb (i := 618) (by decide +kernel) rfl
theorem ml_X6_19 : Cond.methodLink RX6 19 yJ6_bitCount_0f7a4 ∈ hy_WT := hy_in_tb (i := 262) (by decide +kernel) rfl
theorem ml_X6_25 : Cond.methodLink RX6 25 yX6_firstLetterFrom ∈ hy_WT := hy_in_tb (i := 268) (by decide +kernel) rfl
theorem ml_X6_28 : Cond.methodLink RX6 28 yX6_figureAt ∈ hy_WT := hy_in_tb (i := 296) (by decide +kernel) rfl
theorem ml_X7_56 : Cond.methodLink RX7 56 arraycopyName ∈ hy_WT := hy_in_tb (i := 699) (by decide +kernel) rfl
theorem ml_X7_62 : Cond.methodLink RX7 62 yX2_become ∈ hy_WT := hy_in_tb (i := 700) (by decide +kernel) rfl
theorem ml_X7_74 : Cond.methodLink RX7 74 yX7_addWanted ∈ hy_WT := hy_in_tb (i := 276) (by decide +kernel) rfl
theorem ml_X7_78 : Cond.methodLink RX7 78 yX7_becomeCleared ∈ hy_WT := hy_in_tb (i := 280) (by decide +kernel) rfl
theorem ml_X7_81 : Cond.methodLink RX7 81 yX2_empty ∈ hy_WT := hy_in_tb (i := 284) (by decide +kernel) rfl
theorem ml_X7_84 : Cond.methodLink RX7 84 yX7_wantedAt ∈ hy_WT := hy_in_tb (i := 334) (by decide +kernel) rfl
theorem ml_X7_88 : Cond.methodLink RX7 88 yX7_isCut ∈ hy_WT := hy_in_tb (i := 330) (by decide +kernel) rfl
theorem ml_X7_92 : Cond.methodLink RX7 92 yX7_chainsOf ∈ hy_WT := hy_in_tb (i := 356) (by decide +kernel) rfl
theorem ml_X7_96 : Cond.methodLink RX7 96 yJ9_max_7cf53 ∈ hy_WT := hy_in_tb (i := 360) (by decide +kernel) rfl
theorem ml_X7_104 : Cond.methodLink RX7 104 yX1_widthOf ∈ hy_WT := hy_in_tb (i := 426) (by decide +kernel) rfl
theorem ml_X7_110 : Cond.methodLink RX7 110 yJ6_bitCount_0f7a4 ∈ hy_WT := hy_in_tb (i := 446) (by decide +kernel) rfl
theorem ml_X7_115 : Cond.methodLink RX7 115 yX1_mayBe ∈ hy_WT := hy_in_tb (i := 439) (by decide +kernel) rfl
theorem ml_X7_119 : Cond.methodLink RX7 119 yX7_firstNotRight ∈ hy_WT := hy_in_tb (i := 440) (by decide +kernel) rfl
theorem ml_X7_123 : Cond.methodLink RX7 123 yX7_loadOf ∈ hy_WT := hy_in_tb (i := 441) (by decide +kernel) rfl
theorem ml_X7_127 : Cond.methodLink RX7 127 yX2_outOf ∈ hy_WT := hy_in_tb (i := 521) (by decide +kernel) rfl
theorem ml_X7_130 : Cond.methodLink RX7 130 yX7_laneBehind ∈ hy_WT := hy_in_tb (i := 517) (by decide +kernel) rfl
theorem ml_X7_134 : Cond.methodLink RX7 134 yX2_append ∈ hy_WT := hy_in_tb (i := 524) (by decide +kernel) rfl
theorem ml_X7_143 : Cond.methodLink RX7 143 yX7_humpInto ∈ hy_WT := hy_in_tb (i := 651) (by decide +kernel) rfl
theorem ml_X7_147 : Cond.methodLink RX7 147 yX7_pullIn ∈ hy_WT := hy_in_tb (i := 652) (by decide +kernel) rfl
theorem ml_X7_151 : Cond.methodLink RX7 151 yX7_lengthsOn ∈ hy_WT := hy_in_tb (i := 532) (by decide +kernel) rfl
theorem ml_X9_51 : Cond.methodLink RX9 51 yX9_isIn ∈ hy_WT := hy_in_tb (i := 785) (by decide +kernel) rfl
theorem ml_X9_57 : Cond.methodLink RX9 57 yX9_ones ∈ hy_WT := hy_in_tb (i := 801) (by decide +kernel) rfl
theorem ml_X9_71 : Cond.methodLink RX9 71 yX9_has ∈ hy_WT := hy_in_tb (i := 798) (by decide +kernel) rfl
theorem ml_X9_75 : Cond.methodLink RX9 75 yX9_yardFault ∈ hy_WT := hy_in_tb (i := 793) (by decide +kernel) rfl
theorem ml_X9_79 : Cond.methodLink RX9 79 yX9_clears ∈ hy_WT := hy_in_tb (i := 804) (by decide +kernel) rfl
theorem ml_X9_86 : Cond.methodLink RX9 86 yX9_isWagon ∈ hy_WT := hy_in_tb (i := 818) (by decide +kernel) rfl
theorem ml_X9_92 : Cond.methodLink RX9 92 yX9_isTrack ∈ hy_WT := hy_in_tb (i := 827) (by decide +kernel) rfl
theorem ml_X9_97 : Cond.methodLink RX9 97 yX9_wantedAt ∈ hy_WT := hy_in_tb (i := 844) (by decide +kernel) rfl
theorem ml_X9_101 : Cond.methodLink RX9 101 yX9_chainsOf ∈ hy_WT := hy_in_tb (i := 868) (by decide +kernel) rfl
theorem ml_X9_104 : Cond.methodLink RX9 104 yX9_mayBe ∈ hy_WT := hy_in_tb (i := 876) (by decide +kernel) rfl
theorem ml_X9_107 : Cond.methodLink RX9 107 yX9_placeOf ∈ hy_WT := hy_in_tb (i := 840) (by decide +kernel) rfl
theorem ml_X9_110 : Cond.methodLink RX9 110 yX9_asTheyAre ∈ hy_WT := hy_in_tb (i := 860) (by decide +kernel) rfl
theorem ml_X9_113 : Cond.methodLink RX9 113 yX9_need ∈ hy_WT := hy_in_tb (i := 864) (by decide +kernel) rfl
theorem ml_X9_116 : Cond.methodLink RX9 116 yX9_fewestFor ∈ hy_WT := hy_in_tb (i := 872) (by decide +kernel) rfl
theorem ml_X9_119 : Cond.methodLink RX9 119 yX9_chainOf ∈ hy_WT := hy_in_tb (i := 848) (by decide +kernel) rfl
theorem ml_X9_122 : Cond.methodLink RX9 122 yX9_whereIs ∈ hy_WT := hy_in_tb (i := 852) (by decide +kernel) rfl
theorem ml_X9_125 : Cond.methodLink RX9 125 yX9_fewestNow ∈ hy_WT := hy_in_tb (i := 856) (by decide +kernel) rfl
theorem ml_X9_128 : Cond.methodLink RX9 128 yX9_codeOf ∈ hy_WT := hy_in_tb (i := 879) (by decide +kernel) rfl
theorem ml_X9_131 : Cond.methodLink RX9 131 yX9_isTrain ∈ hy_WT := hy_in_tb (i := 887) (by decide +kernel) rfl
theorem ml_X9_136 : Cond.methodLink RX9 136 yX9_lengthsOn ∈ hy_WT := hy_in_tb (i := 895) (by decide +kernel) rfl
theorem ml_X9_139 : Cond.methodLink RX9 139 yX9_loadOf ∈ hy_WT := hy_in_tb (i := 899) (by decide +kernel) rfl
theorem ml_X9_144 : Cond.methodLink RX9 144 yX9_mayAll ∈ hy_WT := hy_in_tb (i := 912) (by decide +kernel) rfl
theorem ml_X9_149 : Cond.methodLink RX9 149 yX9_stepsOf ∈ hy_WT := hy_in_tb (i := 925) (by decide +kernel) rfl
theorem ml_X9_152 : Cond.methodLink RX9 152 yX9_stepsNow ∈ hy_WT := hy_in_tb (i := 921) (by decide +kernel) rfl
theorem ml_X9_155 : Cond.methodLink RX9 155 yX9_notRight ∈ hy_WT := hy_in_tb (i := 932) (by decide +kernel) rfl
theorem ml_X9_158 : Cond.methodLink RX9 158 yX9_mayAllCodes ∈ hy_WT := hy_in_tb (i := 936) (by decide +kernel) rfl
theorem ml_X9_162 : Cond.methodLink RX9 162 yX9_tooLoaded ∈ hy_WT := hy_in_tb (i := 940) (by decide +kernel) rfl
theorem ml_X9_165 : Cond.methodLink RX9 165 yX9_rollsNow ∈ hy_WT := hy_in_tb (i := 944) (by decide +kernel) rfl
theorem ml_X9_174 : Cond.methodLink RX9 174 yX9_loads ∈ hy_WT := hy_in_tb (i := 968) (by decide +kernel) rfl
theorem ml_X9_178 : Cond.methodLink RX9 178 yX9_isRoomy ∈ hy_WT := hy_in_tb (i := 972) (by decide +kernel) rfl
theorem ml_X9_181 : Cond.methodLink RX9 181 yX9_isHopeless ∈ hy_WT := hy_in_tb (i := 976) (by decide +kernel) rfl
theorem ml_X9_184 : Cond.methodLink RX9 184 yX9_orders ∈ hy_WT := hy_in_tb (i := 956) (by decide +kernel) rfl
theorem ml_X9_187 : Cond.methodLink RX9 187 yX9_isBest ∈ hy_WT := hy_in_tb (i := 960) (by decide +kernel) rfl
theorem ml_X9_190 : Cond.methodLink RX9 190 yX9_goesOn ∈ hy_WT := hy_in_tb (i := 964) (by decide +kernel) rfl
theorem ml_X9_193 : Cond.methodLink RX9 193 yX9_lowAt ∈ hy_WT := hy_in_tb (i := 980) (by decide +kernel) rfl
theorem ml_X9_196 : Cond.methodLink RX9 196 yX9_isBetter ∈ hy_WT := hy_in_tb (i := 984) (by decide +kernel) rfl
theorem ml_X9_199 : Cond.methodLink RX9 199 yX9_findBounded ∈ hy_WT := hy_in_tb (i := 952) (by decide +kernel) rfl
theorem ml_X9_202 : Cond.methodLink RX9 202 yX9_common ∈ hy_WT := hy_in_tb (i := 999) (by decide +kernel) rfl
theorem ml_X9_206 : Cond.methodLink RX9 206 yX9_partOf ∈ hy_WT := hy_in_tb (i := 996) (by decide +kernel) rfl
theorem ml_X9_219 : Cond.methodLink RX9 219 yX9_says ∈ hy_WT := hy_in_tb (i := 1019) (by decide +kernel) rfl
theorem ml_X9_223 : Cond.methodLink RX9 223 yX9_rolls ∈ hy_WT := hy_in_tb (i := 1015) (by decide +kernel) rfl
theorem ml_X9_226 : Cond.methodLink RX9 226 yX9_copies ∈ hy_WT := hy_in_tb (i := 1007) (by decide +kernel) rfl
theorem ml_X9_230 : Cond.methodLink RX9 230 yX9_humps ∈ hy_WT := hy_in_tb (i := 1011) (by decide +kernel) rfl
theorem ml_X9_233 : Cond.methodLink RX9 233 yX9_isOver ∈ hy_WT := hy_in_tb (i := 1023) (by decide +kernel) rfl
theorem ml_X9_236 : Cond.methodLink RX9 236 yX9_outs ∈ hy_WT := hy_in_tb (i := 1027) (by decide +kernel) rfl
theorem ml_X9_239 : Cond.methodLink RX9 239 yX9_pulls ∈ hy_WT := hy_in_tb (i := 1035) (by decide +kernel) rfl
theorem ml_X9_242 : Cond.methodLink RX9 242 yX9_wrongOf ∈ hy_WT := hy_in_tb (i := 1051) (by decide +kernel) rfl
theorem ml_X9_249 : Cond.methodLink RX9 249 yX9_pullsFault ∈ hy_WT := hy_in_tb (i := 1060) (by decide +kernel) rfl
theorem ml_X9_252 : Cond.methodLink RX9 252 yX9_replayed ∈ hy_WT := hy_in_tb (i := 1065) (by decide +kernel) rfl
theorem ml_X9_258 : Cond.methodLink RX9 258 yX9_wholeRun ∈ hy_WT := hy_in_tb (i := 1073) (by decide +kernel) rfl
theorem ml_X9_261 : Cond.methodLink RX9 261 yX9_moves ∈ hy_WT := hy_in_tb (i := 1085) (by decide +kernel) rfl
theorem ml_X9_265 : Cond.methodLink RX9 265 yX9_draws ∈ hy_WT := hy_in_tb (i := 1093) (by decide +kernel) rfl
theorem ml_X9_272 : Cond.methodLink RX9 272 yX9_isList ∈ hy_WT := hy_in_tb (i := 1108) (by decide +kernel) rfl
theorem ml_X9_275 : Cond.methodLink RX9 275 yX9_isSeen ∈ hy_WT := hy_in_tb (i := 1111) (by decide +kernel) rfl
theorem ml_X9_278 : Cond.methodLink RX9 278 yX9_judged ∈ hy_WT := hy_in_tb (i := 1119) (by decide +kernel) rfl
theorem ml_X9_284 : Cond.methodLink RX9 284 yX9_lying ∈ hy_WT := hy_in_tb (i := 1151) (by decide +kernel) rfl
set_option maxRecDepth 100000 in
theorem yv_X7_wantedAt : hy_yv yX7_wantedAt cX7_wantedAt 3 2 6 (some .int) := ⟨hy_in_tb (i := 335) (by decide +kernel) rfl, hy_in_tb (i := 336) (by decide +kernel) rfl, hy_in_tb (i := 2) (by decide +kernel) rfl, hy_in_tb (i := 337) rfl rfl, by decide +kernel, _, rfl, rfl⟩
set_option maxRecDepth 100000 in
theorem yv_X7_isCut : hy_yv yX7_isCut cX7_isCut 4 3 6 (some .boolean) := ⟨hy_in_tb (i := 332) (by decide +kernel) rfl, hy_in_sel (i := 2) (by decide +kernel) rfl, hy_in_tb (i := 2) (by decide +kernel) rfl, hy_in_tb (i := 333) rfl rfl, by decide +kernel, _, rfl, rfl⟩
set_option maxRecDepth 100000 in
theorem yv_X7_chainOf : hy_yv yX7_chainOf cX7_chainOf 4 1 6 (some .int) := ⟨hy_in_tb (i := 325) (by decide +kernel) rfl, hy_in_tb (i := 326) (by decide +kernel) rfl, hy_in_tb (i := 2) (by decide +kernel) rfl, hy_in_tb (i := 327) rfl rfl, by decide +kernel, _, rfl, rfl⟩
set_option maxRecDepth 100000 in
theorem ys_J6_bitCount_0f7a4 : hy_ys yJ6_bitCount_0f7a4 cJ6_bitCount_0f7a4 1 1 (some .int) := ⟨hy_in_tb (i := 263) (by decide +kernel) rfl, hy_in_tb (i := 10) (by decide +kernel) rfl, hy_in_tb (i := 264) rfl rfl, by decide +kernel⟩
set_option maxRecDepth 100000 in
theorem ys_X1_mayBe : hy_ys yX1_mayBe cX1_mayBe 3 2 (some .boolean) := ⟨hy_in_tb (i := 370) (by decide +kernel) rfl, hy_in_tb (i := 12) (by decide +kernel) rfl, hy_in_tb (i := 371) rfl rfl, by decide +kernel⟩
set_option maxRecDepth 100000 in
theorem yv_X0_allowBelow : hy_yv yX0_allowBelow cX0_allowBelow 4 2 0 none := ⟨hy_in_tb (i := 458) (by decide +kernel) rfl, hy_in_sel (i := 6) (by decide +kernel) rfl, hy_in_tb (i := 7) (by decide +kernel) rfl, hy_in_tb (i := 459) rfl rfl, by decide +kernel, _, rfl, rfl⟩
set_option maxRecDepth 100000 in
theorem yv_X0_highest : hy_yv yX0_highest cX0_highest 5 2 0 (some .int) := ⟨hy_in_tb (i := 467) (by decide +kernel) rfl, hy_in_sel (i := 8) (by decide +kernel) rfl, hy_in_tb (i := 7) (by decide +kernel) rfl, hy_in_tb (i := 468) rfl rfl, by decide +kernel, _, rfl, rfl⟩
set_option maxRecDepth 100000 in
theorem ys_J9_min_7cf53 : hy_ys yJ9_min_7cf53 cJ9_min_7cf53 2 2 (some .int) := ⟨hy_in_tb (i := 472) (by decide +kernel) rfl, hy_in_tb (i := 11) (by decide +kernel) rfl, hy_in_tb (i := 473) rfl rfl, by decide +kernel⟩
set_option maxRecDepth 100000 in
theorem yv_X0_foresee : hy_yv yX0_foresee cX0_foresee 5 1 0 none := ⟨hy_in_tb (i := 463) (by decide +kernel) rfl, hy_in_sel (i := 7) (by decide +kernel) rfl, hy_in_tb (i := 7) (by decide +kernel) rfl, hy_in_tb (i := 464) rfl rfl, by decide +kernel, _, rfl, rfl⟩
set_option maxRecDepth 100000 in
theorem yv_X0_highFor : hy_yv yX0_highFor cX0_highFor 6 2 0 (some .int) := ⟨hy_in_tb (i := 480) (by decide +kernel) rfl, hy_in_sel (i := 10) (by decide +kernel) rfl, hy_in_tb (i := 7) (by decide +kernel) rfl, hy_in_tb (i := 481) rfl rfl, by decide +kernel, _, rfl, rfl⟩
set_option maxRecDepth 100000 in
theorem yv_X0_lowFor : hy_yv yX0_lowFor cX0_lowFor 6 2 0 (some .int) := ⟨hy_in_tb (i := 484) (by decide +kernel) rfl, hy_in_sel (i := 11) (by decide +kernel) rfl, hy_in_tb (i := 7) (by decide +kernel) rfl, hy_in_tb (i := 485) rfl rfl, by decide +kernel, _, rfl, rfl⟩
set_option maxRecDepth 100000 in
theorem yv_X0_addLoad : hy_yv yX0_addLoad cX0_addLoad 4 2 0 none := ⟨hy_in_tb (i := 488) (by decide +kernel) rfl, hy_in_sel (i := 12) (by decide +kernel) rfl, hy_in_tb (i := 7) (by decide +kernel) rfl, hy_in_tb (i := 489) rfl rfl, by decide +kernel, _, rfl, rfl⟩
set_option maxRecDepth 100000 in
theorem yv_X0_loadsFit : hy_yv yX0_loadsFit cX0_loadsFit 3 1 0 (some .boolean) := ⟨hy_in_tb (i := 492) (by decide +kernel) rfl, hy_in_sel (i := 13) (by decide +kernel) rfl, hy_in_tb (i := 7) (by decide +kernel) rfl, hy_in_tb (i := 493) rfl rfl, by decide +kernel, _, rfl, rfl⟩
set_option maxRecDepth 100000 in
theorem yv_X0_choose : hy_yv yX0_choose cX0_choose 8 3 0 none := ⟨hy_in_tb (i := 476) (by decide +kernel) rfl, hy_in_sel (i := 9) (by decide +kernel) rfl, hy_in_tb (i := 7) (by decide +kernel) rfl, hy_in_tb (i := 477) rfl rfl, by decide +kernel, _, rfl, rfl⟩
set_option maxRecDepth 100000 in
theorem yv_X0_findBest : hy_yv yX0_findBest cX0_findBest 3 1 0 (some .boolean) := ⟨hy_in_tb (i := 452) (by decide +kernel) rfl, hy_in_tb (i := 453) (by decide +kernel) rfl, hy_in_tb (i := 7) (by decide +kernel) rfl, hy_in_tb (i := 454) rfl rfl, by decide +kernel, _, rfl, rfl⟩
set_option maxRecDepth 100000 in
theorem ys_X1_howMany : hy_ys yX1_howMany cX1_howMany 3 1 (some .int) := ⟨hy_in_tb (i := 415) (by decide +kernel) rfl, hy_in_tb (i := 12) (by decide +kernel) rfl, hy_in_tb (i := 416) rfl rfl, by decide +kernel⟩
set_option maxRecDepth 100000 in
theorem ys_X1_codeOfRank : hy_ys yX1_codeOfRank cX1_codeOfRank 4 2 (some .int) := ⟨hy_in_tb (i := 367) (by decide +kernel) rfl, hy_in_tb (i := 12) (by decide +kernel) rfl, hy_in_tb (i := 368) rfl rfl, by decide +kernel⟩
set_option maxRecDepth 100000 in
theorem ys_X1_widthOf : hy_ys yX1_widthOf cX1_widthOf 2 1 (some .int) := ⟨hy_in_tb (i := 374) (by decide +kernel) rfl, hy_in_tb (i := 12) (by decide +kernel) rfl, hy_in_tb (i := 375) rfl rfl, by decide +kernel⟩
set_option maxRecDepth 100000 in
theorem ys_X1_fewestFor : hy_ys yX1_fewestFor cX1_fewestFor 2 2 (some .int) := ⟨hy_in_tb (i := 364) (by decide +kernel) rfl, hy_in_tb (i := 12) (by decide +kernel) rfl, hy_in_tb (i := 365) rfl rfl, by decide +kernel⟩
set_option maxRecDepth 100000 in
theorem ys_X2_outOf : hy_ys yX2_outOf cX2_outOf 1 1 (some .int) := ⟨hy_in_tb (i := 522) (by decide +kernel) rfl, hy_in_tb (i := 3) (by decide +kernel) rfl, hy_in_tb (i := 523) rfl rfl, by decide +kernel⟩
set_option maxRecDepth 100000 in
theorem yv_X2_empty : hy_yv yX2_empty cX2_empty 2 0 1 none := ⟨hy_in_tb (i := 285) (by decide +kernel) rfl, hy_in_tb (i := 286) (by decide +kernel) rfl, hy_in_tb (i := 3) (by decide +kernel) rfl, hy_in_tb (i := 287) rfl rfl, by decide +kernel, _, rfl, rfl⟩
set_option maxRecDepth 100000 in
theorem yv_X2_become : hy_yv yX2_become cX2_become 3 1 1 none := ⟨hy_in_tb (i := 534) (by decide +kernel) rfl, hy_in_tb (i := 535) (by decide +kernel) rfl, hy_in_tb (i := 3) (by decide +kernel) rfl, hy_in_tb (i := 536) rfl rfl, by decide +kernel, _, rfl, rfl⟩
set_option maxRecDepth 100000 in
theorem yv_X2_append : hy_yv yX2_append cX2_append 3 2 1 none := ⟨hy_in_tb (i := 525) (by decide +kernel) rfl, hy_in_tb (i := 526) (by decide +kernel) rfl, hy_in_tb (i := 3) (by decide +kernel) rfl, hy_in_tb (i := 527) rfl rfl, by decide +kernel, _, rfl, rfl⟩
set_option maxRecDepth 100000 in
theorem yv_X2_wagonAt : hy_yv yX2_wagonAt cX2_wagonAt 3 2 1 (some .int) := ⟨hy_in_tb (i := 402) (by decide +kernel) rfl, hy_in_tb (i := 403) (by decide +kernel) rfl, hy_in_tb (i := 3) (by decide +kernel) rfl, hy_in_tb (i := 404) rfl rfl, by decide +kernel, _, rfl, rfl⟩
set_option maxRecDepth 100000 in
theorem yv_X2_laneOf : hy_yv yX2_laneOf cX2_laneOf 4 1 1 (some .int) := ⟨hy_in_tb (i := 343) (by decide +kernel) rfl, hy_in_tb (i := 344) (by decide +kernel) rfl, hy_in_tb (i := 3) (by decide +kernel) rfl, hy_in_tb (i := 345) rfl rfl, by decide +kernel, _, rfl, rfl⟩
set_option maxRecDepth 100000 in
theorem yv_X2_countOut : hy_yv yX2_countOut cX2_countOut 1 0 1 (some .int) := ⟨hy_in_tb (i := 539) (by decide +kernel) rfl, hy_in_tb (i := 540) (by decide +kernel) rfl, hy_in_tb (i := 3) (by decide +kernel) rfl, hy_in_tb (i := 541) rfl rfl, by decide +kernel, _, rfl, rfl⟩
set_option maxRecDepth 100000 in
theorem yv_X2_countOnTracks : hy_yv yX2_countOnTracks cX2_countOnTracks 3 0 1 (some .int) := ⟨hy_in_tb (i := 710) (by decide +kernel) rfl, hy_in_tb (i := 711) (by decide +kernel) rfl, hy_in_tb (i := 3) (by decide +kernel) rfl, hy_in_tb (i := 712) rfl rfl, by decide +kernel, _, rfl, rfl⟩
set_option maxRecDepth 100000 in
theorem yv_X2_tracksInUse : hy_yv yX2_tracksInUse cX2_tracksInUse 3 0 1 (some .int) := ⟨hy_in_tb (i := 578) (by decide +kernel) rfl, hy_in_tb (i := 579) (by decide +kernel) rfl, hy_in_tb (i := 3) (by decide +kernel) rfl, hy_in_tb (i := 580) rfl rfl, by decide +kernel, _, rfl, rfl⟩
set_option maxRecDepth 100000 in
theorem ys_X3_isList : hy_ys yX3_isList cX3_isList 1 1 (some .boolean) := ⟨hy_in_tb (i := 641) (by decide +kernel) rfl, hy_in_tb (i := 6) (by decide +kernel) rfl, hy_in_tb (i := 642) rfl rfl, by decide +kernel⟩
set_option maxRecDepth 100000 in
theorem yv_X3_holds : hy_yv yX3_holds cX3_holds 2 1 2 (some .boolean) := ⟨hy_in_tb (i := 644) (by decide +kernel) rfl, hy_in_tb (i := 645) (by decide +kernel) rfl, hy_in_tb (i := 6) (by decide +kernel) rfl, hy_in_tb (i := 646) rfl rfl, by decide +kernel, _, rfl, rfl⟩
set_option maxRecDepth 100000 in
theorem yv_X3_hasPlace : hy_yv yX3_hasPlace cX3_hasPlace 3 2 2 (some .boolean) := ⟨hy_in_tb (i := 675) (by decide +kernel) rfl, hy_in_tb (i := 676) (by decide +kernel) rfl, hy_in_tb (i := 6) (by decide +kernel) rfl, hy_in_tb (i := 677) rfl rfl, by decide +kernel, _, rfl, rfl⟩
set_option maxRecDepth 100000 in
theorem yv_X3_makeZeros : hy_yv yX3_makeZeros cX3_makeZeros 4 2 2 none := ⟨hy_in_tb (i := 667) (by decide +kernel) rfl, hy_in_tb (i := 668) (by decide +kernel) rfl, hy_in_tb (i := 6) (by decide +kernel) rfl, hy_in_tb (i := 669) rfl rfl, by decide +kernel, _, rfl, rfl⟩
set_option maxRecDepth 100000 in
theorem yv_X3_layRow : hy_yv yX3_layRow cX3_layRow 6 4 2 (some .int) := ⟨hy_in_tb (i := 687) (by decide +kernel) rfl, hy_in_tb (i := 688) (by decide +kernel) rfl, hy_in_tb (i := 6) (by decide +kernel) rfl, hy_in_tb (i := 689) rfl rfl, by decide +kernel, _, rfl, rfl⟩
set_option maxRecDepth 100000 in
theorem yv_X4_append : hy_yv yX4_append cX4_append 2 1 3 none := ⟨hy_in_tb (i := 590) (by decide +kernel) rfl, hy_in_tb (i := 591) (by decide +kernel) rfl, hy_in_tb (i := 5) (by decide +kernel) rfl, hy_in_tb (i := 592) rfl rfl, by decide +kernel, _, rfl, rfl⟩
set_option maxRecDepth 100000 in
theorem yv_X4_appendRoll : hy_yv yX4_appendRoll cX4_appendRoll 3 2 3 none := ⟨hy_in_tb (i := 595) (by decide +kernel) rfl, hy_in_tb (i := 596) (by decide +kernel) rfl, hy_in_tb (i := 5) (by decide +kernel) rfl, hy_in_tb (i := 597) rfl rfl, by decide +kernel, _, rfl, rfl⟩
set_option maxRecDepth 100000 in
theorem yv_X5_drawRow : hy_yv yX5_drawRow cX5_drawRow 7 2 4 none := ⟨hy_in_tb (i := 627) (by decide +kernel) rfl, hy_in_tb (i := 628) (by decide +kernel) rfl, hy_in_tb (i := 8) (by decide +kernel) rfl, hy_in_tb (i := 629) rfl rfl, by decide +kernel, _, rfl, rfl⟩
set_option maxRecDepth 100000 in
theorem yv_X7_chainsOf : hy_yv yX7_chainsOf cX7_chainsOf 5 2 6 (some .int) := ⟨hy_in_tb (i := 357) (by decide +kernel) rfl, hy_in_tb (i := 358) (by decide +kernel) rfl, hy_in_tb (i := 2) (by decide +kernel) rfl, hy_in_tb (i := 359) rfl rfl, by decide +kernel, _, rfl, rfl⟩
set_option maxRecDepth 100000 in
theorem ys_J9_max_7cf53 : hy_ys yJ9_max_7cf53 cJ9_max_7cf53 2 2 (some .int) := ⟨hy_in_tb (i := 361) (by decide +kernel) rfl, hy_in_tb (i := 11) (by decide +kernel) rfl, hy_in_tb (i := 362) rfl rfl, by decide +kernel⟩
set_option maxRecDepth 100000 in
theorem yv_X7_needOf : hy_yv yX7_needOf cX7_needOf 2 1 6 (some .int) := ⟨hy_in_tb (i := 353) (by decide +kernel) rfl, hy_in_tb (i := 354) (by decide +kernel) rfl, hy_in_tb (i := 2) (by decide +kernel) rfl, hy_in_tb (i := 355) rfl rfl, by decide +kernel, _, rfl, rfl⟩
set_option maxRecDepth 100000 in
theorem yv_X5_moveTo : hy_yv yX5_moveTo cX5_moveTo 6 3 4 none := ⟨hy_in_tb (i := 620) (by decide +kernel) rfl, hy_in_sel (i := 17) (by decide +kernel) rfl, hy_in_tb (i := 8) (by decide +kernel) rfl, hy_in_tb (i := 621) rfl rfl, by decide +kernel, _, rfl, rfl⟩
set_option maxRecDepth 100000 in
theorem yv_X5_findElsewhere : hy_yv yX5_findElsewhere cX5_findElsewhere 5 1 4 (some .boolean) := ⟨hy_in_tb (i := 613) (by decide +kernel) rfl, hy_in_tb (i := 614) (by decide +kernel) rfl, hy_in_tb (i := 8) (by decide +kernel) rfl, hy_in_tb (i := 615) rfl rfl, by decide +kernel, _, rfl, rfl⟩
set_option maxRecDepth 100000 in
theorem ys_X6_takes : hy_ys yX6_takes cX6_takes 1 1 (some .boolean) := ⟨hy_in_tb (i := 248) (by decide +kernel) rfl, hy_in_tb (i := 4) (by decide +kernel) rfl, hy_in_tb (i := 249) rfl rfl, by decide +kernel⟩
set_option maxRecDepth 100000 in
theorem yv_X6_append : hy_yv yX6_append cX6_append 2 1 5 none := ⟨hy_in_tb (i := 251) (by decide +kernel) rfl, hy_in_tb (i := 252) (by decide +kernel) rfl, hy_in_tb (i := 4) (by decide +kernel) rfl, hy_in_tb (i := 253) rfl rfl, by decide +kernel, _, rfl, rfl⟩
set_option maxRecDepth 100000 in
theorem yv_X6_figureAt : hy_yv yX6_figureAt cX6_figureAt 2 1 5 (some .int) := ⟨hy_in_tb (i := 297) (by decide +kernel) rfl, hy_in_tb (i := 298) (by decide +kernel) rfl, hy_in_tb (i := 4) (by decide +kernel) rfl, hy_in_tb (i := 299) rfl rfl, by decide +kernel, _, rfl, rfl⟩
set_option maxRecDepth 100000 in
theorem yv_X6_firstLetterFrom : hy_yv yX6_firstLetterFrom cX6_firstLetterFrom 3 1 5 (some .int) := ⟨hy_in_tb (i := 270) (by decide +kernel) rfl, hy_in_sel (i := 0) (by decide +kernel) rfl, hy_in_tb (i := 4) (by decide +kernel) rfl, hy_in_tb (i := 271) rfl rfl, by decide +kernel, _, rfl, rfl⟩
set_option maxRecDepth 100000 in
theorem yv_X6_faultOfYard : hy_yv yX6_faultOfYard cX6_faultOfYard 5 0 5 (some .int) := ⟨hy_in_tb (i := 259) (by decide +kernel) rfl, hy_in_tb (i := 260) (by decide +kernel) rfl, hy_in_tb (i := 4) (by decide +kernel) rfl, hy_in_tb (i := 261) rfl rfl, by decide +kernel, _, rfl, rfl⟩
set_option maxRecDepth 100000 in
theorem yv_X6_faultOfFigures : hy_yv yX6_faultOfFigures cX6_faultOfFigures 5 3 5 (some .int) := ⟨hy_in_tb (i := 293) (by decide +kernel) rfl, hy_in_tb (i := 294) (by decide +kernel) rfl, hy_in_tb (i := 4) (by decide +kernel) rfl, hy_in_tb (i := 295) rfl rfl, by decide +kernel, _, rfl, rfl⟩
set_option maxRecDepth 100000 in
theorem yv_X7_become : hy_yv yX7_become cX7_become 3 1 6 none := ⟨hy_in_tb (i := 696) (by decide +kernel) rfl, hy_in_tb (i := 697) (by decide +kernel) rfl, hy_in_tb (i := 2) (by decide +kernel) rfl, hy_in_tb (i := 698) rfl rfl, by decide +kernel, _, rfl, rfl⟩
set_option maxRecDepth 100000 in
theorem yv_X7_addWanted : hy_yv yX7_addWanted cX7_addWanted 3 2 6 none := ⟨hy_in_tb (i := 278) (by decide +kernel) rfl, hy_in_sel (i := 1) (by decide +kernel) rfl, hy_in_tb (i := 2) (by decide +kernel) rfl, hy_in_tb (i := 279) rfl rfl, by decide +kernel, _, rfl, rfl⟩
set_option maxRecDepth 100000 in
theorem yv_X7_becomeCleared : hy_yv yX7_becomeCleared cX7_becomeCleared 1 0 6 none := ⟨hy_in_tb (i := 281) (by decide +kernel) rfl, hy_in_tb (i := 282) (by decide +kernel) rfl, hy_in_tb (i := 2) (by decide +kernel) rfl, hy_in_tb (i := 283) rfl rfl, by decide +kernel, _, rfl, rfl⟩
set_option maxRecDepth 100000 in
theorem yv_X7_becomeNew : hy_yv yX7_becomeNew cX7_becomeNew 4 1 6 none := ⟨hy_in_tb (i := 273) (by decide +kernel) rfl, hy_in_tb (i := 274) (by decide +kernel) rfl, hy_in_tb (i := 2) (by decide +kernel) rfl, hy_in_tb (i := 275) rfl rfl, by decide +kernel, _, rfl, rfl⟩
set_option maxRecDepth 100000 in
theorem yv_X7_hasWagon : hy_yv yX7_hasWagon cX7_hasWagon 2 1 6 (some .boolean) := ⟨hy_in_tb (i := 306) (by decide +kernel) rfl, hy_in_tb (i := 307) (by decide +kernel) rfl, hy_in_tb (i := 2) (by decide +kernel) rfl, hy_in_tb (i := 308) rfl rfl, by decide +kernel, _, rfl, rfl⟩
set_option maxRecDepth 100000 in
theorem yv_X7_firstNotRight : hy_yv yX7_firstNotRight cX7_firstNotRight 7 1 6 (some .int) := ⟨hy_in_tb (i := 432) (by decide +kernel) rfl, hy_in_tb (i := 433) (by decide +kernel) rfl, hy_in_tb (i := 2) (by decide +kernel) rfl, hy_in_tb (i := 434) rfl rfl, by decide +kernel, _, rfl, rfl⟩
set_option maxRecDepth 100000 in
theorem yv_X7_loadOf : hy_yv yX7_loadOf cX7_loadOf 5 2 6 (some .int) := ⟨hy_in_tb (i := 398) (by decide +kernel) rfl, hy_in_tb (i := 399) (by decide +kernel) rfl, hy_in_tb (i := 2) (by decide +kernel) rfl, hy_in_tb (i := 400) rfl rfl, by decide +kernel, _, rfl, rfl⟩
set_option maxRecDepth 100000 in
theorem yv_X7_stepsOf : hy_yv yX7_stepsOf cX7_stepsOf 4 1 6 (some .int) := ⟨hy_in_tb (i := 423) (by decide +kernel) rfl, hy_in_tb (i := 424) (by decide +kernel) rfl, hy_in_tb (i := 2) (by decide +kernel) rfl, hy_in_tb (i := 425) rfl rfl, by decide +kernel, _, rfl, rfl⟩
set_option maxRecDepth 100000 in
theorem yv_X7_rollsOf : hy_yv yX7_rollsOf cX7_rollsOf 4 1 6 (some .int) := ⟨hy_in_tb (i := 443) (by decide +kernel) rfl, hy_in_tb (i := 444) (by decide +kernel) rfl, hy_in_tb (i := 2) (by decide +kernel) rfl, hy_in_tb (i := 445) rfl rfl, by decide +kernel, _, rfl, rfl⟩
set_option maxRecDepth 100000 in
theorem yv_X7_judgeCodes : hy_yv yX7_judgeCodes cX7_judgeCodes 5 2 6 (some .int) := ⟨hy_in_tb (i := 436) (by decide +kernel) rfl, hy_in_tb (i := 437) (by decide +kernel) rfl, hy_in_tb (i := 2) (by decide +kernel) rfl, hy_in_tb (i := 438) rfl rfl, by decide +kernel, _, rfl, rfl⟩
set_option maxRecDepth 100000 in
theorem yv_X7_laneBehind : hy_yv yX7_laneBehind cX7_laneBehind 5 3 6 (some .int) := ⟨hy_in_tb (i := 518) (by decide +kernel) rfl, hy_in_tb (i := 519) (by decide +kernel) rfl, hy_in_tb (i := 2) (by decide +kernel) rfl, hy_in_tb (i := 520) rfl rfl, by decide +kernel, _, rfl, rfl⟩
set_option maxRecDepth 100000 in
theorem yv_X7_humpInto : hy_yv yX7_humpInto cX7_humpInto 4 2 6 none := ⟨hy_in_tb (i := 514) (by decide +kernel) rfl, hy_in_tb (i := 515) (by decide +kernel) rfl, hy_in_tb (i := 2) (by decide +kernel) rfl, hy_in_tb (i := 516) rfl rfl, by decide +kernel, _, rfl, rfl⟩
set_option maxRecDepth 100000 in
theorem yv_X7_pullIn : hy_yv yX7_pullIn cX7_pullIn 7 3 6 (some .int) := ⟨hy_in_tb (i := 548) (by decide +kernel) rfl, hy_in_tb (i := 549) (by decide +kernel) rfl, hy_in_tb (i := 2) (by decide +kernel) rfl, hy_in_tb (i := 550) rfl rfl, by decide +kernel, _, rfl, rfl⟩
set_option maxRecDepth 100000 in
theorem yv_X7_runWhole : hy_yv yX7_runWhole cX7_runWhole 4 2 6 none := ⟨hy_in_tb (i := 648) (by decide +kernel) rfl, hy_in_tb (i := 649) (by decide +kernel) rfl, hy_in_tb (i := 2) (by decide +kernel) rfl, hy_in_tb (i := 650) rfl rfl, by decide +kernel, _, rfl, rfl⟩
set_option maxRecDepth 100000 in
theorem yv_X7_lengthsOn : hy_yv yX7_lengthsOn cX7_lengthsOn 5 2 6 (some .int) := ⟨hy_in_tb (i := 394) (by decide +kernel) rfl, hy_in_tb (i := 395) (by decide +kernel) rfl, hy_in_tb (i := 2) (by decide +kernel) rfl, hy_in_tb (i := 396) rfl rfl, by decide +kernel, _, rfl, rfl⟩
set_option maxRecDepth 100000 in
theorem yv_X7_isOverfull : hy_yv yX7_isOverfull cX7_isOverfull 3 1 6 (some .boolean) := ⟨hy_in_tb (i := 529) (by decide +kernel) rfl, hy_in_tb (i := 530) (by decide +kernel) rfl, hy_in_tb (i := 2) (by decide +kernel) rfl, hy_in_tb (i := 531) rfl rfl, by decide +kernel, _, rfl, rfl⟩
set_option maxRecDepth 100000 in
theorem yv_X7_firstWrong : hy_yv yX7_firstWrong cX7_firstWrong 5 2 6 (some .int) := ⟨hy_in_tb (i := 566) (by decide +kernel) rfl, hy_in_tb (i := 567) (by decide +kernel) rfl, hy_in_tb (i := 2) (by decide +kernel) rfl, hy_in_tb (i := 568) rfl rfl, by decide +kernel, _, rfl, rfl⟩
set_option maxRecDepth 100000 in
theorem yv_X8_feed : hy_yv yX8_feed cX8_feed 6 5 7 (some .int) := ⟨hy_in_tb (i := 244) (by decide +kernel) rfl, hy_in_tb (i := 245) (by decide +kernel) rfl, hy_in_tb (i := 1) (by decide +kernel) rfl, hy_in_tb (i := 246) rfl rfl, by decide +kernel, _, rfl, rfl⟩
set_option maxRecDepth 100000 in
theorem yv_X8_yard : hy_yv yX8_yard cX8_yard 2 0 7 (some .int) := ⟨hy_in_tb (i := 255) (by decide +kernel) rfl, hy_in_tb (i := 256) (by decide +kernel) rfl, hy_in_tb (i := 1) (by decide +kernel) rfl, hy_in_tb (i := 257) rfl rfl, by decide +kernel, _, rfl, rfl⟩
set_option maxRecDepth 100000 in
theorem yv_X8_codes : hy_yv yX8_codes cX8_codes 3 0 7 (some .int) := ⟨hy_in_tb (i := 289) (by decide +kernel) rfl, hy_in_tb (i := 290) (by decide +kernel) rfl, hy_in_tb (i := 1) (by decide +kernel) rfl, hy_in_tb (i := 291) rfl rfl, by decide +kernel, _, rfl, rfl⟩
set_option maxRecDepth 100000 in
theorem yv_X8_set : hy_yv yX8_set cX8_set 7 3 7 (some .int) := ⟨hy_in_tb (i := 302) (by decide +kernel) rfl, hy_in_tb (i := 303) (by decide +kernel) rfl, hy_in_tb (i := 1) (by decide +kernel) rfl, hy_in_tb (i := 304) rfl rfl, by decide +kernel, _, rfl, rfl⟩
set_option maxRecDepth 100000 in
theorem ys_X8_isTrack : hy_ys yX8_isTrack cX8_isTrack 1 1 (some .boolean) := ⟨hy_in_tb (i := 314) (by decide +kernel) rfl, hy_in_tb (i := 1) (by decide +kernel) rfl, hy_in_tb (i := 315) rfl rfl, by decide +kernel⟩
set_option maxRecDepth 100000 in
theorem yv_X8_room : hy_yv yX8_room cX8_room 4 2 7 (some .int) := ⟨hy_in_tb (i := 310) (by decide +kernel) rfl, hy_in_tb (i := 311) (by decide +kernel) rfl, hy_in_tb (i := 1) (by decide +kernel) rfl, hy_in_tb (i := 312) rfl rfl, by decide +kernel, _, rfl, rfl⟩
set_option maxRecDepth 100000 in
theorem yv_X8_brand : hy_yv yX8_brand cX8_brand 3 1 7 (some .int) := ⟨hy_in_tb (i := 317) (by decide +kernel) rfl, hy_in_tb (i := 318) (by decide +kernel) rfl, hy_in_tb (i := 1) (by decide +kernel) rfl, hy_in_tb (i := 319) rfl rfl, by decide +kernel, _, rfl, rfl⟩
set_option maxRecDepth 100000 in
theorem yv_X8_whereIs : hy_yv yX8_whereIs cX8_whereIs 3 1 7 (some .int) := ⟨hy_in_tb (i := 340) (by decide +kernel) rfl, hy_in_sel (i := 3) (by decide +kernel) rfl, hy_in_tb (i := 1) (by decide +kernel) rfl, hy_in_tb (i := 341) rfl rfl, by decide +kernel, _, rfl, rfl⟩
set_option maxRecDepth 100000 in
theorem yv_X8_fewestNow : hy_yv yX8_fewestNow cX8_fewestNow 1 0 7 (some .int) := ⟨hy_in_tb (i := 349) (by decide +kernel) rfl, hy_in_sel (i := 4) (by decide +kernel) rfl, hy_in_tb (i := 1) (by decide +kernel) rfl, hy_in_tb (i := 350) rfl rfl, by decide +kernel, _, rfl, rfl⟩
set_option maxRecDepth 100000 in
theorem yv_X8_presortedCode : hy_yv yX8_presortedCode cX8_presortedCode 2 1 7 (some .int) := ⟨hy_in_tb (i := 378) (by decide +kernel) rfl, hy_in_sel (i := 5) (by decide +kernel) rfl, hy_in_tb (i := 1) (by decide +kernel) rfl, hy_in_tb (i := 379) rfl rfl, by decide +kernel, _, rfl, rfl⟩
set_option maxRecDepth 100000 in
theorem yv_X8_wagon : hy_yv yX8_wagon cX8_wagon 3 2 7 (some .int) := ⟨hy_in_tb (i := 321) (by decide +kernel) rfl, hy_in_tb (i := 322) (by decide +kernel) rfl, hy_in_tb (i := 1) (by decide +kernel) rfl, hy_in_tb (i := 323) rfl rfl, by decide +kernel, _, rfl, rfl⟩
set_option maxRecDepth 100000 in
theorem ys_X8_isTrain : hy_ys yX8_isTrain cX8_isTrain 1 1 (some .boolean) := ⟨hy_in_tb (i := 386) (by decide +kernel) rfl, hy_in_tb (i := 1) (by decide +kernel) rfl, hy_in_tb (i := 387) rfl rfl, by decide +kernel⟩
set_option maxRecDepth 100000 in
theorem yv_X8_wanted : hy_yv yX8_wanted cX8_wanted 3 2 7 (some .int) := ⟨hy_in_tb (i := 382) (by decide +kernel) rfl, hy_in_tb (i := 383) (by decide +kernel) rfl, hy_in_tb (i := 1) (by decide +kernel) rfl, hy_in_tb (i := 384) rfl rfl, by decide +kernel, _, rfl, rfl⟩
set_option maxRecDepth 100000 in
theorem yv_X8_track : hy_yv yX8_track cX8_track 3 2 7 (some .int) := ⟨hy_in_tb (i := 390) (by decide +kernel) rfl, hy_in_tb (i := 391) (by decide +kernel) rfl, hy_in_tb (i := 1) (by decide +kernel) rfl, hy_in_tb (i := 392) rfl rfl, by decide +kernel, _, rfl, rfl⟩
set_option maxRecDepth 100000 in
theorem yv_X8_chains : hy_yv yX8_chains cX8_chains 2 1 7 (some .int) := ⟨hy_in_tb (i := 406) (by decide +kernel) rfl, hy_in_tb (i := 407) (by decide +kernel) rfl, hy_in_tb (i := 1) (by decide +kernel) rfl, hy_in_tb (i := 408) rfl rfl, by decide +kernel, _, rfl, rfl⟩
set_option maxRecDepth 100000 in
theorem yv_X8_fewest : hy_yv yX8_fewest cX8_fewest 2 1 7 (some .int) := ⟨hy_in_tb (i := 411) (by decide +kernel) rfl, hy_in_tb (i := 412) (by decide +kernel) rfl, hy_in_tb (i := 1) (by decide +kernel) rfl, hy_in_tb (i := 413) rfl rfl, by decide +kernel, _, rfl, rfl⟩
set_option maxRecDepth 100000 in
theorem yv_X8_presort : hy_yv yX8_presort cX8_presort 2 0 7 (some .int) := ⟨hy_in_tb (i := 419) (by decide +kernel) rfl, hy_in_tb (i := 420) (by decide +kernel) rfl, hy_in_tb (i := 1) (by decide +kernel) rfl, hy_in_tb (i := 421) rfl rfl, by decide +kernel, _, rfl, rfl⟩
set_option maxRecDepth 100000 in
theorem yv_X8_right : hy_yv yX8_right cX8_right 2 1 7 (some .int) := ⟨hy_in_tb (i := 428) (by decide +kernel) rfl, hy_in_tb (i := 429) (by decide +kernel) rfl, hy_in_tb (i := 1) (by decide +kernel) rfl, hy_in_tb (i := 430) rfl rfl, by decide +kernel, _, rfl, rfl⟩
set_option maxRecDepth 100000 in
theorem yv_X8_bounded : hy_yv yX8_bounded cX8_bounded 3 1 7 (some .int) := ⟨hy_in_tb (i := 448) (by decide +kernel) rfl, hy_in_tb (i := 449) (by decide +kernel) rfl, hy_in_tb (i := 1) (by decide +kernel) rfl, hy_in_tb (i := 450) rfl rfl, by decide +kernel, _, rfl, rfl⟩
set_option maxRecDepth 100000 in
theorem yv_X8_bind : hy_yv yX8_bind cX8_bind 1 0 7 (some .int) := ⟨hy_in_tb (i := 495) (by decide +kernel) rfl, hy_in_tb (i := 496) (by decide +kernel) rfl, hy_in_tb (i := 1) (by decide +kernel) rfl, hy_in_tb (i := 497) rfl rfl, by decide +kernel, _, rfl, rfl⟩
set_option maxRecDepth 100000 in
theorem ys_X8_partOfLowest : hy_ys yX8_partOfLowest cX8_partOfLowest 7 3 (some .long) := ⟨hy_in_tb (i := 507) (by decide +kernel) rfl, hy_in_tb (i := 1) (by decide +kernel) rfl, hy_in_tb (i := 508) rfl rfl, by decide +kernel⟩
set_option maxRecDepth 100000 in
theorem yv_X8_mean : hy_yv yX8_mean cX8_mean 2 1 7 (some .long) := ⟨hy_in_tb (i := 502) (by decide +kernel) rfl, hy_in_tb (i := 503) (by decide +kernel) rfl, hy_in_tb (i := 1) (by decide +kernel) rfl, hy_in_tb (i := 504) rfl rfl, by decide +kernel, _, rfl, rfl⟩
set_option maxRecDepth 100000 in
theorem yv_X8_hump : hy_yv yX8_hump cX8_hump 1 0 7 (some .int) := ⟨hy_in_tb (i := 510) (by decide +kernel) rfl, hy_in_tb (i := 511) (by decide +kernel) rfl, hy_in_tb (i := 1) (by decide +kernel) rfl, hy_in_tb (i := 512) rfl rfl, by decide +kernel, _, rfl, rfl⟩
set_option maxRecDepth 100000 in
theorem yv_X8_pull : hy_yv yX8_pull cX8_pull 3 1 7 (some .int) := ⟨hy_in_tb (i := 544) (by decide +kernel) rfl, hy_in_tb (i := 545) (by decide +kernel) rfl, hy_in_tb (i := 1) (by decide +kernel) rfl, hy_in_tb (i := 546) rfl rfl, by decide +kernel, _, rfl, rfl⟩
set_option maxRecDepth 100000 in
theorem yv_X8_clear : hy_yv yX8_clear cX8_clear 2 0 7 (some .int) := ⟨hy_in_tb (i := 552) (by decide +kernel) rfl, hy_in_tb (i := 553) (by decide +kernel) rfl, hy_in_tb (i := 1) (by decide +kernel) rfl, hy_in_tb (i := 554) rfl rfl, by decide +kernel, _, rfl, rfl⟩
set_option maxRecDepth 100000 in
theorem yv_X8_out : hy_yv yX8_out cX8_out 4 2 7 (some .int) := ⟨hy_in_tb (i := 557) (by decide +kernel) rfl, hy_in_tb (i := 558) (by decide +kernel) rfl, hy_in_tb (i := 1) (by decide +kernel) rfl, hy_in_tb (i := 559) rfl rfl, by decide +kernel, _, rfl, rfl⟩
set_option maxRecDepth 100000 in
theorem yv_X8_wrong : hy_yv yX8_wrong cX8_wrong 2 1 7 (some .int) := ⟨hy_in_tb (i := 562) (by decide +kernel) rfl, hy_in_tb (i := 563) (by decide +kernel) rfl, hy_in_tb (i := 1) (by decide +kernel) rfl, hy_in_tb (i := 564) rfl rfl, by decide +kernel, _, rfl, rfl⟩
set_option maxRecDepth 100000 in
theorem yv_X8_wrongInThought : hy_yv yX8_wrongInThought cX8_wrongInThought 3 1 7 (some .int) := ⟨hy_in_tb (i := 583) (by decide +kernel) rfl, hy_in_sel (i := 15) (by decide +kernel) rfl, hy_in_tb (i := 1) (by decide +kernel) rfl, hy_in_tb (i := 584) rfl rfl, by decide +kernel, _, rfl, rfl⟩
set_option maxRecDepth 100000 in
theorem yv_X8_replayed : hy_yv yX8_replayed cX8_replayed 5 1 7 (some .int) := ⟨hy_in_tb (i := 575) (by decide +kernel) rfl, hy_in_sel (i := 14) (by decide +kernel) rfl, hy_in_tb (i := 1) (by decide +kernel) rfl, hy_in_tb (i := 576) rfl rfl, by decide +kernel, _, rfl, rfl⟩
set_option maxRecDepth 100000 in
theorem yv_X8_replay : hy_yv yX8_replay cX8_replay 4 1 7 (some .int) := ⟨hy_in_tb (i := 570) (by decide +kernel) rfl, hy_in_tb (i := 571) (by decide +kernel) rfl, hy_in_tb (i := 1) (by decide +kernel) rfl, hy_in_tb (i := 572) rfl rfl, by decide +kernel, _, rfl, rfl⟩
set_option maxRecDepth 100000 in
theorem yv_X8_spellPull : hy_yv yX8_spellPull cX8_spellPull 5 1 7 none := ⟨hy_in_tb (i := 602) (by decide +kernel) rfl, hy_in_sel (i := 16) (by decide +kernel) rfl, hy_in_tb (i := 1) (by decide +kernel) rfl, hy_in_tb (i := 603) rfl rfl, by decide +kernel, _, rfl, rfl⟩
set_option maxRecDepth 100000 in
theorem yv_X8_spell : hy_yv yX8_spell cX8_spell 2 0 7 (some .int) := ⟨hy_in_tb (i := 586) (by decide +kernel) rfl, hy_in_tb (i := 587) (by decide +kernel) rfl, hy_in_tb (i := 1) (by decide +kernel) rfl, hy_in_tb (i := 588) rfl rfl, by decide +kernel, _, rfl, rfl⟩
set_option maxRecDepth 100000 in
theorem yv_X8_paper : hy_yv yX8_paper cX8_paper 2 1 7 (some .int) := ⟨hy_in_tb (i := 605) (by decide +kernel) rfl, hy_in_tb (i := 606) (by decide +kernel) rfl, hy_in_tb (i := 1) (by decide +kernel) rfl, hy_in_tb (i := 607) rfl rfl, by decide +kernel, _, rfl, rfl⟩
set_option maxRecDepth 100000 in
theorem yv_X8_elsewhere : hy_yv yX8_elsewhere cX8_elsewhere 2 1 7 (some .int) := ⟨hy_in_tb (i := 609) (by decide +kernel) rfl, hy_in_tb (i := 610) (by decide +kernel) rfl, hy_in_tb (i := 1) (by decide +kernel) rfl, hy_in_tb (i := 611) rfl rfl, by decide +kernel, _, rfl, rfl⟩
set_option maxRecDepth 100000 in
theorem yv_X8_drawn : hy_yv yX8_drawn cX8_drawn 5 2 7 (some .int) := ⟨hy_in_tb (i := 623) (by decide +kernel) rfl, hy_in_tb (i := 624) (by decide +kernel) rfl, hy_in_tb (i := 1) (by decide +kernel) rfl, hy_in_tb (i := 625) rfl rfl, by decide +kernel, _, rfl, rfl⟩
set_option maxRecDepth 100000 in
theorem yv_X8_odds : hy_yv yX8_odds cX8_odds 7 4 7 (some .long) := ⟨hy_in_tb (i := 633) (by decide +kernel) rfl, hy_in_tb (i := 634) (by decide +kernel) rfl, hy_in_tb (i := 1) (by decide +kernel) rfl, hy_in_tb (i := 635) rfl rfl, by decide +kernel, _, rfl, rfl⟩
set_option maxRecDepth 100000 in
theorem yv_X8_tellsOut : hy_yv yX8_tellsOut cX8_tellsOut 6 2 7 (some .boolean) := ⟨hy_in_tb (i := 655) (by decide +kernel) rfl, hy_in_sel (i := 18) (by decide +kernel) rfl, hy_in_tb (i := 1) (by decide +kernel) rfl, hy_in_tb (i := 656) rfl rfl, by decide +kernel, _, rfl, rfl⟩
set_option maxRecDepth 100000 in
theorem yv_X8_seen : hy_yv yX8_seen cX8_seen 6 3 7 (some .int) := ⟨hy_in_tb (i := 637) (by decide +kernel) rfl, hy_in_tb (i := 638) (by decide +kernel) rfl, hy_in_tb (i := 1) (by decide +kernel) rfl, hy_in_tb (i := 639) rfl rfl, by decide +kernel, _, rfl, rfl⟩
set_option maxRecDepth 100000 in
theorem yv_X8_judge : hy_yv yX8_judge cX8_judge 3 1 7 (some .int) := ⟨hy_in_tb (i := 658) (by decide +kernel) rfl, hy_in_tb (i := 659) (by decide +kernel) rfl, hy_in_tb (i := 1) (by decide +kernel) rfl, hy_in_tb (i := 660) rfl rfl, by decide +kernel, _, rfl, rfl⟩
set_option maxRecDepth 100000 in
theorem yv_X8_list : hy_yv yX8_list cX8_list 3 2 7 (some .int) := ⟨hy_in_tb (i := 663) (by decide +kernel) rfl, hy_in_tb (i := 664) (by decide +kernel) rfl, hy_in_tb (i := 1) (by decide +kernel) rfl, hy_in_tb (i := 665) rfl rfl, by decide +kernel, _, rfl, rfl⟩
set_option maxRecDepth 100000 in
theorem yv_X8_put : hy_yv yX8_put cX8_put 4 3 7 (some .int) := ⟨hy_in_tb (i := 671) (by decide +kernel) rfl, hy_in_tb (i := 672) (by decide +kernel) rfl, hy_in_tb (i := 1) (by decide +kernel) rfl, hy_in_tb (i := 673) rfl rfl, by decide +kernel, _, rfl, rfl⟩
set_option maxRecDepth 100000 in
theorem yv_X8_get : hy_yv yX8_get cX8_get 3 2 7 (some .long) := ⟨hy_in_tb (i := 679) (by decide +kernel) rfl, hy_in_tb (i := 680) (by decide +kernel) rfl, hy_in_tb (i := 1) (by decide +kernel) rfl, hy_in_tb (i := 681) rfl rfl, by decide +kernel, _, rfl, rfl⟩
set_option maxRecDepth 100000 in
theorem yv_X8_lay : hy_yv yX8_lay cX8_lay 6 4 7 (some .int) := ⟨hy_in_tb (i := 683) (by decide +kernel) rfl, hy_in_tb (i := 684) (by decide +kernel) rfl, hy_in_tb (i := 1) (by decide +kernel) rfl, hy_in_tb (i := 685) rfl rfl, by decide +kernel, _, rfl, rfl⟩
set_option maxRecDepth 100000 in
theorem yv_X8_image : hy_yv yX8_image cX8_image 1 0 7 (some .int) := ⟨hy_in_tb (i := 692) (by decide +kernel) rfl, hy_in_tb (i := 693) (by decide +kernel) rfl, hy_in_tb (i := 1) (by decide +kernel) rfl, hy_in_tb (i := 694) rfl rfl, by decide +kernel, _, rfl, rfl⟩
set_option maxRecDepth 100000 in
theorem yv_X8_undo : hy_yv yX8_undo cX8_undo 1 0 7 (some .int) := ⟨hy_in_tb (i := 702) (by decide +kernel) rfl, hy_in_tb (i := 703) (by decide +kernel) rfl, hy_in_tb (i := 1) (by decide +kernel) rfl, hy_in_tb (i := 704) rfl rfl, by decide +kernel, _, rfl, rfl⟩
set_option maxRecDepth 100000 in
theorem yv_X8_count : hy_yv yX8_count cX8_count 2 1 7 (some .int) := ⟨hy_in_tb (i := 706) (by decide +kernel) rfl, hy_in_tb (i := 707) (by decide +kernel) rfl, hy_in_tb (i := 1) (by decide +kernel) rfl, hy_in_tb (i := 708) rfl rfl, by decide +kernel, _, rfl, rfl⟩
set_option maxRecDepth 100000 in
theorem ys_X9_isIn : hy_ys yX9_isIn cX9_isIn 6 3 (some .boolean) := ⟨hy_in_tb (i := 786) (by decide +kernel) rfl, hy_in_tb (i := 9) (by decide +kernel) rfl, hy_in_tb (i := 787) rfl rfl, by decide +kernel⟩
set_option maxRecDepth 100000 in
theorem yv_X9_isWagon : hy_yv yX9_isWagon cX9_isWagon 2 1 8 (some .boolean) := ⟨hy_in_tb (i := 820) (by decide +kernel) rfl, hy_in_sel (i := 21) (by decide +kernel) rfl, hy_in_tb (i := 9) (by decide +kernel) rfl, hy_in_tb (i := 821) rfl rfl, by decide +kernel, _, rfl, rfl⟩
set_option maxRecDepth 100000 in
theorem ys_X9_isTrain : hy_ys yX9_isTrain cX9_isTrain 1 1 (some .boolean) := ⟨hy_in_tb (i := 888) (by decide +kernel) rfl, hy_in_tb (i := 9) (by decide +kernel) rfl, hy_in_tb (i := 889) rfl rfl, by decide +kernel⟩
set_option maxRecDepth 100000 in
theorem ys_X9_isTrack : hy_ys yX9_isTrack cX9_isTrack 1 1 (some .boolean) := ⟨hy_in_tb (i := 828) (by decide +kernel) rfl, hy_in_tb (i := 9) (by decide +kernel) rfl, hy_in_tb (i := 829) rfl rfl, by decide +kernel⟩
set_option maxRecDepth 100000 in
theorem ys_X9_has : hy_ys yX9_has cX9_has 2 2 (some .boolean) := ⟨hy_in_tb (i := 799) (by decide +kernel) rfl, hy_in_tb (i := 9) (by decide +kernel) rfl, hy_in_tb (i := 800) rfl rfl, by decide +kernel⟩
set_option maxRecDepth 100000 in
theorem ys_X9_ones : hy_ys yX9_ones cX9_ones 3 1 (some .int) := ⟨hy_in_tb (i := 802) (by decide +kernel) rfl, hy_in_tb (i := 9) (by decide +kernel) rfl, hy_in_tb (i := 803) rfl rfl, by decide +kernel⟩
set_option maxRecDepth 100000 in
theorem ys_X9_mayBe : hy_ys yX9_mayBe cX9_mayBe 3 2 (some .boolean) := ⟨hy_in_tb (i := 877) (by decide +kernel) rfl, hy_in_tb (i := 9) (by decide +kernel) rfl, hy_in_tb (i := 878) rfl rfl, by decide +kernel⟩
set_option maxRecDepth 100000 in
theorem yv_X9_wantedAt : hy_yv yX9_wantedAt cX9_wantedAt 3 2 8 (some .int) := ⟨hy_in_tb (i := 846) (by decide +kernel) rfl, hy_in_sel (i := 23) (by decide +kernel) rfl, hy_in_tb (i := 9) (by decide +kernel) rfl, hy_in_tb (i := 847) rfl rfl, by decide +kernel, _, rfl, rfl⟩
set_option maxRecDepth 100000 in
theorem yv_X9_clears : hy_yv yX9_clears cX9_clears 2 0 8 none := ⟨hy_in_tb (i := 806) (by decide +kernel) rfl, hy_in_sel (i := 20) (by decide +kernel) rfl, hy_in_tb (i := 9) (by decide +kernel) rfl, hy_in_tb (i := 807) rfl rfl, by decide +kernel, _, rfl, rfl⟩
set_option maxRecDepth 100000 in
theorem yv_X9_feed : hy_yv yX9_feed cX9_feed 7 5 8 (some .int) := ⟨hy_in_tb (i := 781) (by decide +kernel) rfl, hy_in_tb (i := 782) (by decide +kernel) rfl, hy_in_tb (i := 9) (by decide +kernel) rfl, hy_in_tb (i := 783) rfl rfl, by decide +kernel, _, rfl, rfl⟩
set_option maxRecDepth 100000 in
theorem yv_X9_yardFault : hy_yv yX9_yardFault cX9_yardFault 5 0 8 (some .int) := ⟨hy_in_tb (i := 795) (by decide +kernel) rfl, hy_in_sel (i := 19) (by decide +kernel) rfl, hy_in_tb (i := 9) (by decide +kernel) rfl, hy_in_tb (i := 796) rfl rfl, by decide +kernel, _, rfl, rfl⟩
set_option maxRecDepth 100000 in
theorem yv_X9_yard : hy_yv yX9_yard cX9_yard 6 0 8 (some .int) := ⟨hy_in_tb (i := 790) (by decide +kernel) rfl, hy_in_tb (i := 791) (by decide +kernel) rfl, hy_in_tb (i := 9) (by decide +kernel) rfl, hy_in_tb (i := 792) rfl rfl, by decide +kernel, _, rfl, rfl⟩
set_option maxRecDepth 100000 in
theorem yv_X9_codes : hy_yv yX9_codes cX9_codes 4 0 8 (some .int) := ⟨hy_in_tb (i := 809) (by decide +kernel) rfl, hy_in_tb (i := 810) (by decide +kernel) rfl, hy_in_tb (i := 9) (by decide +kernel) rfl, hy_in_tb (i := 811) rfl rfl, by decide +kernel, _, rfl, rfl⟩
set_option maxRecDepth 100000 in
theorem yv_X9_set : hy_yv yX9_set cX9_set 6 3 8 (some .int) := ⟨hy_in_tb (i := 815) (by decide +kernel) rfl, hy_in_tb (i := 816) (by decide +kernel) rfl, hy_in_tb (i := 9) (by decide +kernel) rfl, hy_in_tb (i := 817) rfl rfl, by decide +kernel, _, rfl, rfl⟩
set_option maxRecDepth 100000 in
theorem yv_X9_room : hy_yv yX9_room cX9_room 4 2 8 (some .int) := ⟨hy_in_tb (i := 824) (by decide +kernel) rfl, hy_in_tb (i := 825) (by decide +kernel) rfl, hy_in_tb (i := 9) (by decide +kernel) rfl, hy_in_tb (i := 826) rfl rfl, by decide +kernel, _, rfl, rfl⟩
set_option maxRecDepth 100000 in
theorem yv_X9_brand : hy_yv yX9_brand cX9_brand 3 1 8 (some .int) := ⟨hy_in_tb (i := 833) (by decide +kernel) rfl, hy_in_tb (i := 834) (by decide +kernel) rfl, hy_in_tb (i := 9) (by decide +kernel) rfl, hy_in_tb (i := 835) rfl rfl, by decide +kernel, _, rfl, rfl⟩
set_option maxRecDepth 100000 in
theorem yv_X9_asTheyAre : hy_yv yX9_asTheyAre cX9_asTheyAre 2 0 8 none := ⟨hy_in_tb (i := 862) (by decide +kernel) rfl, hy_in_sel (i := 27) (by decide +kernel) rfl, hy_in_tb (i := 9) (by decide +kernel) rfl, hy_in_tb (i := 863) rfl rfl, by decide +kernel, _, rfl, rfl⟩
set_option maxRecDepth 100000 in
theorem yv_X9_chainsOf : hy_yv yX9_chainsOf cX9_chainsOf 4 1 8 (some .int) := ⟨hy_in_tb (i := 870) (by decide +kernel) rfl, hy_in_sel (i := 29) (by decide +kernel) rfl, hy_in_tb (i := 9) (by decide +kernel) rfl, hy_in_tb (i := 871) rfl rfl, by decide +kernel, _, rfl, rfl⟩
set_option maxRecDepth 100000 in
theorem yv_X9_need : hy_yv yX9_need cX9_need 3 0 8 (some .int) := ⟨hy_in_tb (i := 866) (by decide +kernel) rfl, hy_in_sel (i := 28) (by decide +kernel) rfl, hy_in_tb (i := 9) (by decide +kernel) rfl, hy_in_tb (i := 867) rfl rfl, by decide +kernel, _, rfl, rfl⟩
set_option maxRecDepth 100000 in
theorem yv_X9_fewestFor : hy_yv yX9_fewestFor cX9_fewestFor 5 1 8 (some .int) := ⟨hy_in_tb (i := 874) (by decide +kernel) rfl, hy_in_sel (i := 30) (by decide +kernel) rfl, hy_in_tb (i := 9) (by decide +kernel) rfl, hy_in_tb (i := 875) rfl rfl, by decide +kernel, _, rfl, rfl⟩
set_option maxRecDepth 100000 in
theorem yv_X9_placeOf : hy_yv yX9_placeOf cX9_placeOf 3 1 8 (some .int) := ⟨hy_in_tb (i := 842) (by decide +kernel) rfl, hy_in_sel (i := 22) (by decide +kernel) rfl, hy_in_tb (i := 9) (by decide +kernel) rfl, hy_in_tb (i := 843) rfl rfl, by decide +kernel, _, rfl, rfl⟩
set_option maxRecDepth 100000 in
theorem yv_X9_chainOf : hy_yv yX9_chainOf cX9_chainOf 5 1 8 (some .int) := ⟨hy_in_tb (i := 850) (by decide +kernel) rfl, hy_in_sel (i := 24) (by decide +kernel) rfl, hy_in_tb (i := 9) (by decide +kernel) rfl, hy_in_tb (i := 851) rfl rfl, by decide +kernel, _, rfl, rfl⟩
set_option maxRecDepth 100000 in
theorem yv_X9_codeOf : hy_yv yX9_codeOf cX9_codeOf 4 1 8 (some .int) := ⟨hy_in_tb (i := 881) (by decide +kernel) rfl, hy_in_sel (i := 31) (by decide +kernel) rfl, hy_in_tb (i := 9) (by decide +kernel) rfl, hy_in_tb (i := 882) rfl rfl, by decide +kernel, _, rfl, rfl⟩
set_option maxRecDepth 100000 in
theorem yv_X9_fewestNow : hy_yv yX9_fewestNow cX9_fewestNow 1 0 8 (some .int) := ⟨hy_in_tb (i := 858) (by decide +kernel) rfl, hy_in_sel (i := 26) (by decide +kernel) rfl, hy_in_tb (i := 9) (by decide +kernel) rfl, hy_in_tb (i := 859) rfl rfl, by decide +kernel, _, rfl, rfl⟩
set_option maxRecDepth 100000 in
theorem yv_X9_whereIs : hy_yv yX9_whereIs cX9_whereIs 4 1 8 (some .int) := ⟨hy_in_tb (i := 854) (by decide +kernel) rfl, hy_in_sel (i := 25) (by decide +kernel) rfl, hy_in_tb (i := 9) (by decide +kernel) rfl, hy_in_tb (i := 855) rfl rfl, by decide +kernel, _, rfl, rfl⟩
set_option maxRecDepth 100000 in
theorem yv_X9_wagon : hy_yv yX9_wagon cX9_wagon 3 2 8 (some .int) := ⟨hy_in_tb (i := 837) (by decide +kernel) rfl, hy_in_tb (i := 838) (by decide +kernel) rfl, hy_in_tb (i := 9) (by decide +kernel) rfl, hy_in_tb (i := 839) rfl rfl, by decide +kernel, _, rfl, rfl⟩
set_option maxRecDepth 100000 in
theorem yv_X9_wanted : hy_yv yX9_wanted cX9_wanted 3 2 8 (some .int) := ⟨hy_in_tb (i := 884) (by decide +kernel) rfl, hy_in_tb (i := 885) (by decide +kernel) rfl, hy_in_tb (i := 9) (by decide +kernel) rfl, hy_in_tb (i := 886) rfl rfl, by decide +kernel, _, rfl, rfl⟩
set_option maxRecDepth 100000 in
theorem yv_X9_lengthsOn : hy_yv yX9_lengthsOn cX9_lengthsOn 4 1 8 (some .int) := ⟨hy_in_tb (i := 897) (by decide +kernel) rfl, hy_in_sel (i := 32) (by decide +kernel) rfl, hy_in_tb (i := 9) (by decide +kernel) rfl, hy_in_tb (i := 898) rfl rfl, by decide +kernel, _, rfl, rfl⟩
set_option maxRecDepth 100000 in
theorem yv_X9_loadOf : hy_yv yX9_loadOf cX9_loadOf 4 1 8 (some .int) := ⟨hy_in_tb (i := 901) (by decide +kernel) rfl, hy_in_sel (i := 33) (by decide +kernel) rfl, hy_in_tb (i := 9) (by decide +kernel) rfl, hy_in_tb (i := 902) rfl rfl, by decide +kernel, _, rfl, rfl⟩
set_option maxRecDepth 100000 in
theorem yv_X9_track : hy_yv yX9_track cX9_track 3 2 8 (some .int) := ⟨hy_in_tb (i := 892) (by decide +kernel) rfl, hy_in_tb (i := 893) (by decide +kernel) rfl, hy_in_tb (i := 9) (by decide +kernel) rfl, hy_in_tb (i := 894) rfl rfl, by decide +kernel, _, rfl, rfl⟩
set_option maxRecDepth 100000 in
theorem yv_X9_chains : hy_yv yX9_chains cX9_chains 2 1 8 (some .int) := ⟨hy_in_tb (i := 905) (by decide +kernel) rfl, hy_in_tb (i := 906) (by decide +kernel) rfl, hy_in_tb (i := 9) (by decide +kernel) rfl, hy_in_tb (i := 907) rfl rfl, by decide +kernel, _, rfl, rfl⟩
set_option maxRecDepth 100000 in
theorem yv_X9_mayAll : hy_yv yX9_mayAll cX9_mayAll 3 0 8 (some .int) := ⟨hy_in_tb (i := 914) (by decide +kernel) rfl, hy_in_sel (i := 34) (by decide +kernel) rfl, hy_in_tb (i := 9) (by decide +kernel) rfl, hy_in_tb (i := 915) rfl rfl, by decide +kernel, _, rfl, rfl⟩
set_option maxRecDepth 100000 in
theorem yv_X9_fewest : hy_yv yX9_fewest cX9_fewest 2 1 8 (some .int) := ⟨hy_in_tb (i := 909) (by decide +kernel) rfl, hy_in_tb (i := 910) (by decide +kernel) rfl, hy_in_tb (i := 9) (by decide +kernel) rfl, hy_in_tb (i := 911) rfl rfl, by decide +kernel, _, rfl, rfl⟩
set_option maxRecDepth 100000 in
theorem ys_X9_stepsOf : hy_ys yX9_stepsOf cX9_stepsOf 1 1 (some .int) := ⟨hy_in_tb (i := 926) (by decide +kernel) rfl, hy_in_tb (i := 9) (by decide +kernel) rfl, hy_in_tb (i := 927) rfl rfl, by decide +kernel⟩
set_option maxRecDepth 100000 in
theorem yv_X9_stepsNow : hy_yv yX9_stepsNow cX9_stepsNow 3 0 8 (some .int) := ⟨hy_in_tb (i := 923) (by decide +kernel) rfl, hy_in_sel (i := 35) (by decide +kernel) rfl, hy_in_tb (i := 9) (by decide +kernel) rfl, hy_in_tb (i := 924) rfl rfl, by decide +kernel, _, rfl, rfl⟩
set_option maxRecDepth 100000 in
theorem yv_X9_rollsNow : hy_yv yX9_rollsNow cX9_rollsNow 3 0 8 (some .int) := ⟨hy_in_tb (i := 946) (by decide +kernel) rfl, hy_in_sel (i := 39) (by decide +kernel) rfl, hy_in_tb (i := 9) (by decide +kernel) rfl, hy_in_tb (i := 947) rfl rfl, by decide +kernel, _, rfl, rfl⟩
set_option maxRecDepth 100000 in
theorem yv_X9_presort : hy_yv yX9_presort cX9_presort 2 0 8 (some .int) := ⟨hy_in_tb (i := 918) (by decide +kernel) rfl, hy_in_tb (i := 919) (by decide +kernel) rfl, hy_in_tb (i := 9) (by decide +kernel) rfl, hy_in_tb (i := 920) rfl rfl, by decide +kernel, _, rfl, rfl⟩
set_option maxRecDepth 100000 in
theorem yv_X9_notRight : hy_yv yX9_notRight cX9_notRight 5 0 8 (some .int) := ⟨hy_in_tb (i := 934) (by decide +kernel) rfl, hy_in_sel (i := 36) (by decide +kernel) rfl, hy_in_tb (i := 9) (by decide +kernel) rfl, hy_in_tb (i := 935) rfl rfl, by decide +kernel, _, rfl, rfl⟩
set_option maxRecDepth 100000 in
theorem yv_X9_tooLoaded : hy_yv yX9_tooLoaded cX9_tooLoaded 2 0 8 (some .int) := ⟨hy_in_tb (i := 942) (by decide +kernel) rfl, hy_in_sel (i := 38) (by decide +kernel) rfl, hy_in_tb (i := 9) (by decide +kernel) rfl, hy_in_tb (i := 943) rfl rfl, by decide +kernel, _, rfl, rfl⟩
set_option maxRecDepth 100000 in
theorem yv_X9_mayAllCodes : hy_yv yX9_mayAllCodes cX9_mayAllCodes 2 0 8 (some .boolean) := ⟨hy_in_tb (i := 938) (by decide +kernel) rfl, hy_in_sel (i := 37) (by decide +kernel) rfl, hy_in_tb (i := 9) (by decide +kernel) rfl, hy_in_tb (i := 939) rfl rfl, by decide +kernel, _, rfl, rfl⟩
set_option maxRecDepth 100000 in
theorem yv_X9_right : hy_yv yX9_right cX9_right 2 1 8 (some .int) := ⟨hy_in_tb (i := 929) (by decide +kernel) rfl, hy_in_tb (i := 930) (by decide +kernel) rfl, hy_in_tb (i := 9) (by decide +kernel) rfl, hy_in_tb (i := 931) rfl rfl, by decide +kernel, _, rfl, rfl⟩
set_option maxRecDepth 100000 in
theorem yv_X9_orders : hy_yv yX9_orders cX9_orders 2 0 8 none := ⟨hy_in_tb (i := 958) (by decide +kernel) rfl, hy_in_sel (i := 41) (by decide +kernel) rfl, hy_in_tb (i := 9) (by decide +kernel) rfl, hy_in_tb (i := 959) rfl rfl, by decide +kernel, _, rfl, rfl⟩
set_option maxRecDepth 100000 in
theorem yv_X9_lowAt : hy_yv yX9_lowAt cX9_lowAt 2 1 8 (some .int) := ⟨hy_in_tb (i := 982) (by decide +kernel) rfl, hy_in_sel (i := 47) (by decide +kernel) rfl, hy_in_tb (i := 9) (by decide +kernel) rfl, hy_in_tb (i := 983) rfl rfl, by decide +kernel, _, rfl, rfl⟩
set_option maxRecDepth 100000 in
theorem yv_X9_loads : hy_yv yX9_loads cX9_loads 4 2 8 none := ⟨hy_in_tb (i := 970) (by decide +kernel) rfl, hy_in_sel (i := 44) (by decide +kernel) rfl, hy_in_tb (i := 9) (by decide +kernel) rfl, hy_in_tb (i := 971) rfl rfl, by decide +kernel, _, rfl, rfl⟩
set_option maxRecDepth 100000 in
theorem yv_X9_isRoomy : hy_yv yX9_isRoomy cX9_isRoomy 2 0 8 (some .boolean) := ⟨hy_in_tb (i := 974) (by decide +kernel) rfl, hy_in_sel (i := 45) (by decide +kernel) rfl, hy_in_tb (i := 9) (by decide +kernel) rfl, hy_in_tb (i := 975) rfl rfl, by decide +kernel, _, rfl, rfl⟩
set_option maxRecDepth 100000 in
theorem yv_X9_isBetter : hy_yv yX9_isBetter cX9_isBetter 5 0 8 (some .boolean) := ⟨hy_in_tb (i := 986) (by decide +kernel) rfl, hy_in_sel (i := 48) (by decide +kernel) rfl, hy_in_tb (i := 9) (by decide +kernel) rfl, hy_in_tb (i := 987) rfl rfl, by decide +kernel, _, rfl, rfl⟩
set_option maxRecDepth 100000 in
theorem yv_X9_isBest : hy_yv yX9_isBest cX9_isBest 3 0 8 none := ⟨hy_in_tb (i := 962) (by decide +kernel) rfl, hy_in_sel (i := 42) (by decide +kernel) rfl, hy_in_tb (i := 9) (by decide +kernel) rfl, hy_in_tb (i := 963) rfl rfl, by decide +kernel, _, rfl, rfl⟩
set_option maxRecDepth 100000 in
theorem yv_X9_isHopeless : hy_yv yX9_isHopeless cX9_isHopeless 5 1 8 (some .boolean) := ⟨hy_in_tb (i := 978) (by decide +kernel) rfl, hy_in_sel (i := 46) (by decide +kernel) rfl, hy_in_tb (i := 9) (by decide +kernel) rfl, hy_in_tb (i := 979) rfl rfl, by decide +kernel, _, rfl, rfl⟩
set_option maxRecDepth 100000 in
theorem yv_X9_goesOn : hy_yv yX9_goesOn cX9_goesOn 3 1 8 (some .boolean) := ⟨hy_in_tb (i := 966) (by decide +kernel) rfl, hy_in_sel (i := 43) (by decide +kernel) rfl, hy_in_tb (i := 9) (by decide +kernel) rfl, hy_in_tb (i := 967) rfl rfl, by decide +kernel, _, rfl, rfl⟩
set_option maxRecDepth 100000 in
theorem yv_X9_findBounded : hy_yv yX9_findBounded cX9_findBounded 2 0 8 none := ⟨hy_in_tb (i := 954) (by decide +kernel) rfl, hy_in_sel (i := 40) (by decide +kernel) rfl, hy_in_tb (i := 9) (by decide +kernel) rfl, hy_in_tb (i := 955) rfl rfl, by decide +kernel, _, rfl, rfl⟩
set_option maxRecDepth 100000 in
theorem yv_X9_bounded : hy_yv yX9_bounded cX9_bounded 2 1 8 (some .int) := ⟨hy_in_tb (i := 949) (by decide +kernel) rfl, hy_in_tb (i := 950) (by decide +kernel) rfl, hy_in_tb (i := 9) (by decide +kernel) rfl, hy_in_tb (i := 951) rfl rfl, by decide +kernel, _, rfl, rfl⟩
set_option maxRecDepth 100000 in
theorem yv_X9_bind : hy_yv yX9_bind cX9_bind 2 0 8 (some .int) := ⟨hy_in_tb (i := 989) (by decide +kernel) rfl, hy_in_tb (i := 990) (by decide +kernel) rfl, hy_in_tb (i := 9) (by decide +kernel) rfl, hy_in_tb (i := 991) rfl rfl, by decide +kernel, _, rfl, rfl⟩
set_option maxRecDepth 100000 in
theorem ys_X9_common : hy_ys yX9_common cX9_common 10 2 (some .long) := ⟨hy_in_tb (i := 1000) (by decide +kernel) rfl, hy_in_tb (i := 9) (by decide +kernel) rfl, hy_in_tb (i := 1001) rfl rfl, by decide +kernel⟩
set_option maxRecDepth 100000 in
theorem ys_X9_partOf : hy_ys yX9_partOf cX9_partOf 5 3 (some .long) := ⟨hy_in_tb (i := 997) (by decide +kernel) rfl, hy_in_tb (i := 9) (by decide +kernel) rfl, hy_in_tb (i := 998) rfl rfl, by decide +kernel⟩
set_option maxRecDepth 100000 in
theorem yv_X9_mean : hy_yv yX9_mean cX9_mean 2 1 8 (some .long) := ⟨hy_in_tb (i := 993) (by decide +kernel) rfl, hy_in_tb (i := 994) (by decide +kernel) rfl, hy_in_tb (i := 9) (by decide +kernel) rfl, hy_in_tb (i := 995) rfl rfl, by decide +kernel, _, rfl, rfl⟩
set_option maxRecDepth 100000 in
theorem yv_X9_copies : hy_yv yX9_copies cX9_copies 4 2 8 none := ⟨hy_in_tb (i := 1009) (by decide +kernel) rfl, hy_in_sel (i := 49) (by decide +kernel) rfl, hy_in_tb (i := 9) (by decide +kernel) rfl, hy_in_tb (i := 1010) rfl rfl, by decide +kernel, _, rfl, rfl⟩
set_option maxRecDepth 100000 in
theorem yv_X9_says : hy_yv yX9_says cX9_says 2 1 8 none := ⟨hy_in_tb (i := 1021) (by decide +kernel) rfl, hy_in_sel (i := 52) (by decide +kernel) rfl, hy_in_tb (i := 9) (by decide +kernel) rfl, hy_in_tb (i := 1022) rfl rfl, by decide +kernel, _, rfl, rfl⟩
set_option maxRecDepth 100000 in
theorem yv_X9_rolls : hy_yv yX9_rolls cX9_rolls 5 2 8 none := ⟨hy_in_tb (i := 1017) (by decide +kernel) rfl, hy_in_sel (i := 51) (by decide +kernel) rfl, hy_in_tb (i := 9) (by decide +kernel) rfl, hy_in_tb (i := 1018) rfl rfl, by decide +kernel, _, rfl, rfl⟩
set_option maxRecDepth 100000 in
theorem yv_X9_humps : hy_yv yX9_humps cX9_humps 2 0 8 none := ⟨hy_in_tb (i := 1013) (by decide +kernel) rfl, hy_in_sel (i := 50) (by decide +kernel) rfl, hy_in_tb (i := 9) (by decide +kernel) rfl, hy_in_tb (i := 1014) rfl rfl, by decide +kernel, _, rfl, rfl⟩
set_option maxRecDepth 100000 in
theorem yv_X9_pulls : hy_yv yX9_pulls cX9_pulls 4 1 8 none := ⟨hy_in_tb (i := 1037) (by decide +kernel) rfl, hy_in_sel (i := 55) (by decide +kernel) rfl, hy_in_tb (i := 9) (by decide +kernel) rfl, hy_in_tb (i := 1038) rfl rfl, by decide +kernel, _, rfl, rfl⟩
set_option maxRecDepth 100000 in
theorem yv_X9_isOver : hy_yv yX9_isOver cX9_isOver 2 0 8 (some .boolean) := ⟨hy_in_tb (i := 1025) (by decide +kernel) rfl, hy_in_sel (i := 53) (by decide +kernel) rfl, hy_in_tb (i := 9) (by decide +kernel) rfl, hy_in_tb (i := 1026) rfl rfl, by decide +kernel, _, rfl, rfl⟩
set_option maxRecDepth 100000 in
theorem yv_X9_outs : hy_yv yX9_outs cX9_outs 1 0 8 (some .int) := ⟨hy_in_tb (i := 1029) (by decide +kernel) rfl, hy_in_sel (i := 54) (by decide +kernel) rfl, hy_in_tb (i := 9) (by decide +kernel) rfl, hy_in_tb (i := 1030) rfl rfl, by decide +kernel, _, rfl, rfl⟩
set_option maxRecDepth 100000 in
theorem yv_X9_hump : hy_yv yX9_hump cX9_hump 1 0 8 (some .int) := ⟨hy_in_tb (i := 1004) (by decide +kernel) rfl, hy_in_tb (i := 1005) (by decide +kernel) rfl, hy_in_tb (i := 9) (by decide +kernel) rfl, hy_in_tb (i := 1006) rfl rfl, by decide +kernel, _, rfl, rfl⟩
set_option maxRecDepth 100000 in
theorem yv_X9_pull : hy_yv yX9_pull cX9_pull 2 1 8 (some .int) := ⟨hy_in_tb (i := 1032) (by decide +kernel) rfl, hy_in_tb (i := 1033) (by decide +kernel) rfl, hy_in_tb (i := 9) (by decide +kernel) rfl, hy_in_tb (i := 1034) rfl rfl, by decide +kernel, _, rfl, rfl⟩
set_option maxRecDepth 100000 in
theorem yv_X9_clear : hy_yv yX9_clear cX9_clear 2 0 8 (some .int) := ⟨hy_in_tb (i := 1040) (by decide +kernel) rfl, hy_in_tb (i := 1041) (by decide +kernel) rfl, hy_in_tb (i := 9) (by decide +kernel) rfl, hy_in_tb (i := 1042) rfl rfl, by decide +kernel, _, rfl, rfl⟩
set_option maxRecDepth 100000 in
theorem yv_X9_out : hy_yv yX9_out cX9_out 3 2 8 (some .int) := ⟨hy_in_tb (i := 1044) (by decide +kernel) rfl, hy_in_tb (i := 1045) (by decide +kernel) rfl, hy_in_tb (i := 9) (by decide +kernel) rfl, hy_in_tb (i := 1046) rfl rfl, by decide +kernel, _, rfl, rfl⟩
set_option maxRecDepth 100000 in
theorem yv_X9_wrongOf : hy_yv yX9_wrongOf cX9_wrongOf 3 1 8 (some .int) := ⟨hy_in_tb (i := 1053) (by decide +kernel) rfl, hy_in_sel (i := 56) (by decide +kernel) rfl, hy_in_tb (i := 9) (by decide +kernel) rfl, hy_in_tb (i := 1054) rfl rfl, by decide +kernel, _, rfl, rfl⟩
set_option maxRecDepth 100000 in
theorem yv_X9_wrong : hy_yv yX9_wrong cX9_wrong 2 1 8 (some .int) := ⟨hy_in_tb (i := 1048) (by decide +kernel) rfl, hy_in_tb (i := 1049) (by decide +kernel) rfl, hy_in_tb (i := 9) (by decide +kernel) rfl, hy_in_tb (i := 1050) rfl rfl, by decide +kernel, _, rfl, rfl⟩
set_option maxRecDepth 100000 in
theorem yv_X9_pullsFault : hy_yv yX9_pullsFault cX9_pullsFault 2 0 8 (some .int) := ⟨hy_in_tb (i := 1062) (by decide +kernel) rfl, hy_in_sel (i := 57) (by decide +kernel) rfl, hy_in_tb (i := 9) (by decide +kernel) rfl, hy_in_tb (i := 1063) rfl rfl, by decide +kernel, _, rfl, rfl⟩
set_option maxRecDepth 100000 in
theorem yv_X9_replayed : hy_yv yX9_replayed cX9_replayed 5 2 8 (some .int) := ⟨hy_in_tb (i := 1067) (by decide +kernel) rfl, hy_in_sel (i := 58) (by decide +kernel) rfl, hy_in_tb (i := 9) (by decide +kernel) rfl, hy_in_tb (i := 1068) rfl rfl, by decide +kernel, _, rfl, rfl⟩
set_option maxRecDepth 100000 in
theorem yv_X9_replay : hy_yv yX9_replay cX9_replay 6 1 8 (some .int) := ⟨hy_in_tb (i := 1056) (by decide +kernel) rfl, hy_in_tb (i := 1057) (by decide +kernel) rfl, hy_in_tb (i := 9) (by decide +kernel) rfl, hy_in_tb (i := 1058) rfl rfl, by decide +kernel, _, rfl, rfl⟩
set_option maxRecDepth 100000 in
theorem yv_X9_wholeRun : hy_yv yX9_wholeRun cX9_wholeRun 2 0 8 none := ⟨hy_in_tb (i := 1075) (by decide +kernel) rfl, hy_in_sel (i := 59) (by decide +kernel) rfl, hy_in_tb (i := 9) (by decide +kernel) rfl, hy_in_tb (i := 1076) rfl rfl, by decide +kernel, _, rfl, rfl⟩
set_option maxRecDepth 100000 in
theorem yv_X9_spell : hy_yv yX9_spell cX9_spell 1 0 8 (some .int) := ⟨hy_in_tb (i := 1070) (by decide +kernel) rfl, hy_in_tb (i := 1071) (by decide +kernel) rfl, hy_in_tb (i := 9) (by decide +kernel) rfl, hy_in_tb (i := 1072) rfl rfl, by decide +kernel, _, rfl, rfl⟩
set_option maxRecDepth 100000 in
theorem yv_X9_paper : hy_yv yX9_paper cX9_paper 2 1 8 (some .int) := ⟨hy_in_tb (i := 1078) (by decide +kernel) rfl, hy_in_tb (i := 1079) (by decide +kernel) rfl, hy_in_tb (i := 9) (by decide +kernel) rfl, hy_in_tb (i := 1080) rfl rfl, by decide +kernel, _, rfl, rfl⟩
set_option maxRecDepth 100000 in
theorem yv_X9_moves : hy_yv yX9_moves cX9_moves 5 2 8 none := ⟨hy_in_tb (i := 1087) (by decide +kernel) rfl, hy_in_sel (i := 60) (by decide +kernel) rfl, hy_in_tb (i := 9) (by decide +kernel) rfl, hy_in_tb (i := 1088) rfl rfl, by decide +kernel, _, rfl, rfl⟩
set_option maxRecDepth 100000 in
theorem yv_X9_elsewhere : hy_yv yX9_elsewhere cX9_elsewhere 8 1 8 (some .int) := ⟨hy_in_tb (i := 1082) (by decide +kernel) rfl, hy_in_tb (i := 1083) (by decide +kernel) rfl, hy_in_tb (i := 9) (by decide +kernel) rfl, hy_in_tb (i := 1084) rfl rfl, by decide +kernel, _, rfl, rfl⟩
set_option maxRecDepth 100000 in
theorem yv_X9_draws : hy_yv yX9_draws cX9_draws 6 1 8 none := ⟨hy_in_tb (i := 1095) (by decide +kernel) rfl, hy_in_sel (i := 61) (by decide +kernel) rfl, hy_in_tb (i := 9) (by decide +kernel) rfl, hy_in_tb (i := 1096) rfl rfl, by decide +kernel, _, rfl, rfl⟩
set_option maxRecDepth 100000 in
theorem yv_X9_drawn : hy_yv yX9_drawn cX9_drawn 3 2 8 (some .int) := ⟨hy_in_tb (i := 1090) (by decide +kernel) rfl, hy_in_tb (i := 1091) (by decide +kernel) rfl, hy_in_tb (i := 9) (by decide +kernel) rfl, hy_in_tb (i := 1092) rfl rfl, by decide +kernel, _, rfl, rfl⟩
set_option maxRecDepth 100000 in
theorem yv_X9_odds : hy_yv yX9_odds cX9_odds 7 4 8 (some .long) := ⟨hy_in_tb (i := 1099) (by decide +kernel) rfl, hy_in_tb (i := 1100) (by decide +kernel) rfl, hy_in_tb (i := 9) (by decide +kernel) rfl, hy_in_tb (i := 1101) rfl rfl, by decide +kernel, _, rfl, rfl⟩
set_option maxRecDepth 100000 in
theorem ys_X9_isList : hy_ys yX9_isList cX9_isList 1 1 (some .boolean) := ⟨hy_in_tb (i := 1109) (by decide +kernel) rfl, hy_in_tb (i := 9) (by decide +kernel) rfl, hy_in_tb (i := 1110) rfl rfl, by decide +kernel⟩
set_option maxRecDepth 100000 in
theorem yv_X9_isSeen : hy_yv yX9_isSeen cX9_isSeen 5 2 8 (some .boolean) := ⟨hy_in_tb (i := 1113) (by decide +kernel) rfl, hy_in_sel (i := 62) (by decide +kernel) rfl, hy_in_tb (i := 9) (by decide +kernel) rfl, hy_in_tb (i := 1114) rfl rfl, by decide +kernel, _, rfl, rfl⟩
set_option maxRecDepth 100000 in
theorem yv_X9_seen : hy_yv yX9_seen cX9_seen 7 3 8 (some .int) := ⟨hy_in_tb (i := 1105) (by decide +kernel) rfl, hy_in_tb (i := 1106) (by decide +kernel) rfl, hy_in_tb (i := 9) (by decide +kernel) rfl, hy_in_tb (i := 1107) rfl rfl, by decide +kernel, _, rfl, rfl⟩
set_option maxRecDepth 100000 in
theorem yv_X9_judged : hy_yv yX9_judged cX9_judged 2 0 8 (some .int) := ⟨hy_in_tb (i := 1121) (by decide +kernel) rfl, hy_in_sel (i := 63) (by decide +kernel) rfl, hy_in_tb (i := 9) (by decide +kernel) rfl, hy_in_tb (i := 1122) rfl rfl, by decide +kernel, _, rfl, rfl⟩
set_option maxRecDepth 100000 in
theorem yv_X9_judge : hy_yv yX9_judge cX9_judge 4 1 8 (some .int) := ⟨hy_in_tb (i := 1116) (by decide +kernel) rfl, hy_in_tb (i := 1117) (by decide +kernel) rfl, hy_in_tb (i := 9) (by decide +kernel) rfl, hy_in_tb (i := 1118) rfl rfl, by decide +kernel, _, rfl, rfl⟩
set_option maxRecDepth 100000 in
theorem yv_X9_list : hy_yv yX9_list cX9_list 4 2 8 (some .int) := ⟨hy_in_tb (i := 1124) (by decide +kernel) rfl, hy_in_tb (i := 1125) (by decide +kernel) rfl, hy_in_tb (i := 9) (by decide +kernel) rfl, hy_in_tb (i := 1126) rfl rfl, by decide +kernel, _, rfl, rfl⟩
set_option maxRecDepth 100000 in
theorem yv_X9_put : hy_yv yX9_put cX9_put 4 3 8 (some .int) := ⟨hy_in_tb (i := 1128) (by decide +kernel) rfl, hy_in_tb (i := 1129) (by decide +kernel) rfl, hy_in_tb (i := 9) (by decide +kernel) rfl, hy_in_tb (i := 1130) rfl rfl, by decide +kernel, _, rfl, rfl⟩
set_option maxRecDepth 100000 in
theorem yv_X9_get : hy_yv yX9_get cX9_get 3 2 8 (some .long) := ⟨hy_in_tb (i := 1132) (by decide +kernel) rfl, hy_in_tb (i := 1133) (by decide +kernel) rfl, hy_in_tb (i := 9) (by decide +kernel) rfl, hy_in_tb (i := 1134) rfl rfl, by decide +kernel, _, rfl, rfl⟩
set_option maxRecDepth 100000 in
theorem yv_X9_lay : hy_yv yX9_lay cX9_lay 8 4 8 (some .int) := ⟨hy_in_tb (i := 1136) (by decide +kernel) rfl, hy_in_tb (i := 1137) (by decide +kernel) rfl, hy_in_tb (i := 9) (by decide +kernel) rfl, hy_in_tb (i := 1138) rfl rfl, by decide +kernel, _, rfl, rfl⟩
set_option maxRecDepth 100000 in
theorem yv_X9_image : hy_yv yX9_image cX9_image 1 0 8 (some .int) := ⟨hy_in_tb (i := 1140) (by decide +kernel) rfl, hy_in_tb (i := 1141) (by decide +kernel) rfl, hy_in_tb (i := 9) (by decide +kernel) rfl, hy_in_tb (i := 1142) rfl rfl, by decide +kernel, _, rfl, rfl⟩
set_option maxRecDepth 100000 in
theorem yv_X9_undo : hy_yv yX9_undo cX9_undo 1 0 8 (some .int) := ⟨hy_in_tb (i := 1144) (by decide +kernel) rfl, hy_in_tb (i := 1145) (by decide +kernel) rfl, hy_in_tb (i := 9) (by decide +kernel) rfl, hy_in_tb (i := 1146) rfl rfl, by decide +kernel, _, rfl, rfl⟩
set_option maxRecDepth 100000 in
theorem yv_X9_lying : hy_yv yX9_lying cX9_lying 3 0 8 (some .int) := ⟨hy_in_tb (i := 1153) (by decide +kernel) rfl, hy_in_sel (i := 64) (by decide +kernel) rfl, hy_in_tb (i := 9) (by decide +kernel) rfl, hy_in_tb (i := 1154) rfl rfl, by decide +kernel, _, rfl, rfl⟩
set_option maxRecDepth 100000 in
theorem yv_X9_count : hy_yv yX9_count cX9_count 2 1 8 (some .int) := ⟨hy_in_tb (i := 1148) (by decide +kernel) rfl, hy_in_tb (i := 1149) (by decide +kernel) rfl, hy_in_tb (i := 9) (by decide +kernel) rfl, hy_in_tb (i := 1150) rfl rfl, by decide +kernel, _, rfl, rfl⟩
end
section
def b_X7_wantedAt_0 : hy_C (Int32 × hy_M) := (o_aload 0 (o_getR 6 8 (o_iload 1 (o_aald (o_iload 2 (o_iald <| o_iret))))))
set_option maxRecDepth 100000 in
set_option maxHeartbeats 4000000 in
theorem s_X7_wantedAt_0 {G : hy_G} {x : hy_X} {b : Int32 × hy_M} (X : hy_Cx G x RX7 cX7_wantedAt 3 0 0) (r : hy_Ri G x b .int) : hy_Sn G x 3 0 b (b_X7_wantedAt_0 ) := by
  exact (hs_aload_n (pc := 0) (q := 0) X (by decide +kernel) rfl (hs_getR (pc := 1) X fl_X7_40 (by decide +kernel) (hs_iload_n (pc := 4) (q := 1) X (by decide +kernel) rfl (hs_aald (pc := 5) X (by decide +kernel) (hs_iload_n (pc := 6) (q := 2) X (by decide +kernel) rfl (hs_iald (pc := 7) X (by decide +kernel) (hs_iret (pc := 8) X r (by decide +kernel))))))))
def g_X7_wantedAt : List Value → hy_M → Option (Int32 × hy_M) := hy_g 3 b_X7_wantedAt_0
theorem m_X7_wantedAt {G : hy_G} : ∀ l, hy_Mi l G yX7_wantedAt cX7_wantedAt 3 .int 0 0 g_X7_wantedAt := hy_meti (y := yX7_wantedAt) (by decide +kernel) (fun x b X r => s_X7_wantedAt_0 X r)
def b_X7_isCut_0 : hy_C (Int32 × hy_M) := (o_aload 3 (o_aload 0 (o_iload 1 (o_iload 2 (o_vali 6 3 g_X7_wantedAt (o_iald (o_aload 3 (o_aload 0 (o_iload 1 (o_iload 2 (o_push (.int 1) (o_i2 (fun a c => a - c) (o_vali 6 3 g_X7_wantedAt (o_iald (o_clt (o_push (.int 1) <| o_zret) (o_push (.int 0) <| o_zret))))))))))))))))
set_option maxRecDepth 100000 in
set_option maxHeartbeats 4000000 in
theorem s_X7_isCut_0 {G : hy_G} {x : hy_X} {b : Int32 × hy_M} (X : hy_Cx G x RX7 cX7_isCut 4 1 22) (r : hy_Ri G x b .boolean) : hy_Sn G x 4 0 b (b_X7_isCut_0 ) := by
  exact (hs_aload_n (pc := 0) (q := 3) X (by decide +kernel) rfl (hs_aload_n (pc := 1) (q := 0) X (by decide +kernel) rfl (hs_iload_n (pc := 2) (q := 1) X (by decide +kernel) rfl (hs_iload_n (pc := 3) (q := 2) X (by decide +kernel) rfl (hs_vali (pc := 4) X (m_X7_wantedAt (G := _)) yv_X7_wantedAt ml_X7_84 (by decide +kernel) (Nat.le_of_ble_eq_true rfl) (Nat.le_of_ble_eq_true rfl) (hs_iald (pc := 7) X (by decide +kernel) (hs_aload_n (pc := 8) (q := 3) X (by decide +kernel) rfl (hs_aload_n (pc := 9) (q := 0) X (by decide +kernel) rfl (hs_iload_n (pc := 10) (q := 1) X (by decide +kernel) rfl (hs_iload_n (pc := 11) (q := 2) X (by decide +kernel) rfl (hs_iconst (pc := 12) (n := 1) X (by decide +kernel) (by decide +kernel) (hs_isub (pc := 13) X (by decide +kernel) (hs_vali (pc := 14) X (m_X7_wantedAt (G := _)) yv_X7_wantedAt ml_X7_84 (by decide +kernel) (Nat.le_of_ble_eq_true rfl) (Nat.le_of_ble_eq_true rfl) (hs_iald (pc := 17) X (by decide +kernel) (hs_cge (pc := 18) (off := 7) (tgt := 25) X (by decide +kernel) (by decide) (hs_iconst (pc := 21) (n := 1) X (by decide +kernel) (by decide +kernel) (hs_goto (pc := 22) (off := 4) (tgt := 26) X (by decide +kernel) (by decide) (hs_zret (pc := 26) X r (by decide +kernel)))) (hs_iconst (pc := 25) (n := 0) X (by decide +kernel) (by decide +kernel) (hs_zret (pc := 26) X r (by decide +kernel))))))))))))))))))
def g_X7_isCut : List Value → hy_M → Option (Int32 × hy_M) := hy_g 4 b_X7_isCut_0
theorem m_X7_isCut {G : hy_G} : ∀ l, hy_Mi l G yX7_isCut cX7_isCut 4 .boolean 1 22 g_X7_isCut := hy_meti (y := yX7_isCut) (by decide +kernel) (fun x b X r => s_X7_isCut_0 X r)
def b_X7_chainOf_4 : Nat → hy_C (Int32 × hy_M)
  | 0 => o_fail
  | n + 1 => (o_iload 3 (o_aload 0 (o_getR 6 7 (o_iload 1 (o_iald (o_cgt (o_iload 2 <| o_iret) (o_aload 0 (o_aload 0 (o_getR 6 6 (o_iload 1 (o_iald (o_iload 3 (o_gets (o_vali 6 4 g_X7_isCut (o_zeq (o_iinc 3 1 (o_mask [true, true, true, true] (b_X7_chainOf_4  n))) (o_iinc 2 1 (o_iinc 3 1 (o_mask [true, true, true, true] (b_X7_chainOf_4  n)))))))))))))))))))
set_option maxRecDepth 100000 in
set_option maxHeartbeats 4000000 in
theorem s_X7_chainOf_4 {G : hy_G} {x : hy_X} {b : Int32 × hy_M} (X : hy_Cx G x RX7 cX7_chainOf 4 2 45) (r : hy_Ri G x b .int) : ∀ n, hy_Sn G x 4 4 b (b_X7_chainOf_4  n) := by
  intro n
  induction n with
  | zero => exact hs_fail
  | succ n ih =>
    exact (hs_iload_n (pc := 4) (q := 3) X (by decide +kernel) rfl (hs_aload_n (pc := 5) (q := 0) X (by decide +kernel) rfl (hs_getR (pc := 6) X fl_X7_35 (by decide +kernel) (hs_iload_n (pc := 9) (q := 1) X (by decide +kernel) rfl (hs_iald (pc := 10) X (by decide +kernel) (hs_cgt (pc := 11) (off := 29) (tgt := 40) X (by decide +kernel) (by decide) (hs_iload_n (pc := 40) (q := 2) X (by decide +kernel) rfl (hs_iret (pc := 41) X r (by decide +kernel))) (hs_aload_n (pc := 14) (q := 0) X (by decide +kernel) rfl (hs_aload_n (pc := 15) (q := 0) X (by decide +kernel) rfl (hs_getR (pc := 16) X fl_X7_32 (by decide +kernel) (hs_iload_n (pc := 19) (q := 1) X (by decide +kernel) rfl (hs_iald (pc := 20) X (by decide +kernel) (hs_iload_n (pc := 21) (q := 3) X (by decide +kernel) rfl (hs_getsY (pc := 22) X (by decide +kernel) (hs_vali (pc := 25) X (m_X7_isCut (G := _)) yv_X7_isCut ml_X7_88 (by decide +kernel) (Nat.le_of_ble_eq_true rfl) (Nat.le_of_ble_eq_true rfl) (hs_zeq (pc := 28) (off := 6) (tgt := 34) X (by decide +kernel) (by decide) (hs_iinc (pc := 34) (n := 1) X (by decide +kernel) (by decide +kernel) (Nat.le_of_ble_eq_true rfl) (hs_goto (pc := 37) (off := (-33)) (tgt := 4) X (by decide +kernel) (by decide) (hs_mask ih))) (hs_iinc (pc := 31) (n := 1) X (by decide +kernel) (by decide +kernel) (Nat.le_of_ble_eq_true rfl) (hs_iinc (pc := 34) (n := 1) X (by decide +kernel) (by decide +kernel) (Nat.le_of_ble_eq_true rfl) (hs_goto (pc := 37) (off := (-33)) (tgt := 4) X (by decide +kernel) (by decide) (hs_mask ih)))))))))))))))))))
def b_X7_chainOf_0 : hy_C (Int32 × hy_M) := (o_push (.int 0) (o_istore 2 (o_push (.int 1) (o_istore 3 (o_mask [true, true, true, true] (b_X7_chainOf_4  300))))))
set_option maxRecDepth 100000 in
set_option maxHeartbeats 4000000 in
theorem s_X7_chainOf_0 {G : hy_G} {x : hy_X} {b : Int32 × hy_M} (X : hy_Cx G x RX7 cX7_chainOf 4 2 45) (r : hy_Ri G x b .int) : hy_Sn G x 4 0 b (b_X7_chainOf_0 ) := by
  exact (hs_iconst (pc := 0) (n := 0) X (by decide +kernel) (by decide +kernel) (hs_istore_n (pc := 1) (q := 2) X (by decide +kernel) rfl (Nat.le_of_ble_eq_true rfl) (hs_iconst (pc := 2) (n := 1) X (by decide +kernel) (by decide +kernel) (hs_istore_n (pc := 3) (q := 3) X (by decide +kernel) rfl (Nat.le_of_ble_eq_true rfl) (hs_mask (s_X7_chainOf_4 X r  300))))))
def g_X7_chainOf : List Value → hy_M → Option (Int32 × hy_M) := hy_g 4 b_X7_chainOf_0
theorem m_X7_chainOf {G : hy_G} : ∀ l, hy_Mi l G yX7_chainOf cX7_chainOf 4 .int 2 45 g_X7_chainOf := hy_meti (y := yX7_chainOf) (by decide +kernel) (fun x b X r => s_X7_chainOf_0 X r)
def b_J6_bitCount_0f7a4_0 : hy_C (Int32 × hy_M) := (o_iload 0 (o_iload 0 (o_push (.int 1) (o_i2 (fun a c => (a.toUInt32 >>> (c.toUInt32 &&& Int32.toUInt32 31)).toInt32) (o_push (.int 1431655765) (o_i2 (fun a c => a &&& c) (o_i2 (fun a c => a - c) (o_istore 0 (o_iload 0 (o_push (.int 858993459) (o_i2 (fun a c => a &&& c) (o_iload 0 (o_push (.int 2) (o_i2 (fun a c => (a.toUInt32 >>> (c.toUInt32 &&& Int32.toUInt32 31)).toInt32) (o_push (.int 858993459) (o_i2 (fun a c => a &&& c) (o_i2 (fun a c => a + c) (o_istore 0 (o_iload 0 (o_iload 0 (o_push (.int 4) (o_i2 (fun a c => (a.toUInt32 >>> (c.toUInt32 &&& Int32.toUInt32 31)).toInt32) (o_i2 (fun a c => a + c) (o_push (.int 252645135) (o_i2 (fun a c => a &&& c) (o_istore 0 (o_iload 0 (o_iload 0 (o_push (.int 8) (o_i2 (fun a c => (a.toUInt32 >>> (c.toUInt32 &&& Int32.toUInt32 31)).toInt32) (o_i2 (fun a c => a + c) (o_istore 0 (o_iload 0 (o_iload 0 (o_push (.int 16) (o_i2 (fun a c => (a.toUInt32 >>> (c.toUInt32 &&& Int32.toUInt32 31)).toInt32) (o_i2 (fun a c => a + c) (o_istore 0 (o_iload 0 (o_push (.int 63) (o_i2 (fun a c => a &&& c) <| o_iret)))))))))))))))))))))))))))))))))))))))))
set_option maxRecDepth 100000 in
set_option maxHeartbeats 4000000 in
theorem s_J6_bitCount_0f7a4_0 {G : hy_G} {x : hy_X} {b : Int32 × hy_M} (X : hy_Cx G x RJ6 cJ6_bitCount_0f7a4 1 0 0) (r : hy_Ri G x b .int) : hy_Sn G x 1 0 b (b_J6_bitCount_0f7a4_0 ) := by
  exact (hs_iload_n (pc := 0) (q := 0) X (by decide +kernel) rfl (hs_iload_n (pc := 1) (q := 0) X (by decide +kernel) rfl (hs_iconst (pc := 2) (n := 1) X (by decide +kernel) (by decide +kernel) (hs_iushr (pc := 3) X (by decide +kernel) (hs_ldc_w (pc := 4) X (by decide +kernel) k_J6_265 (hs_iand (pc := 7) X (by decide +kernel) (hs_isub (pc := 8) X (by decide +kernel) (hs_istore_n (pc := 9) (q := 0) X (by decide +kernel) rfl (Nat.le_of_ble_eq_true rfl) (hs_iload_n (pc := 10) (q := 0) X (by decide +kernel) rfl (hs_ldc_w (pc := 11) X (by decide +kernel) k_J6_266 (hs_iand (pc := 14) X (by decide +kernel) (hs_iload_n (pc := 15) (q := 0) X (by decide +kernel) rfl (hs_iconst (pc := 16) (n := 2) X (by decide +kernel) (by decide +kernel) (hs_iushr (pc := 17) X (by decide +kernel) (hs_ldc_w (pc := 18) X (by decide +kernel) k_J6_266 (hs_iand (pc := 21) X (by decide +kernel) (hs_iadd (pc := 22) X (by decide +kernel) (hs_istore_n (pc := 23) (q := 0) X (by decide +kernel) rfl (Nat.le_of_ble_eq_true rfl) (hs_iload_n (pc := 24) (q := 0) X (by decide +kernel) rfl (hs_iload_n (pc := 25) (q := 0) X (by decide +kernel) rfl (hs_iconst (pc := 26) (n := 4) X (by decide +kernel) (by decide +kernel) (hs_iushr (pc := 27) X (by decide +kernel) (hs_iadd (pc := 28) X (by decide +kernel) (hs_ldc_w (pc := 29) X (by decide +kernel) k_J6_267 (hs_iand (pc := 32) X (by decide +kernel) (hs_istore_n (pc := 33) (q := 0) X (by decide +kernel) rfl (Nat.le_of_ble_eq_true rfl) (hs_iload_n (pc := 34) (q := 0) X (by decide +kernel) rfl (hs_iload_n (pc := 35) (q := 0) X (by decide +kernel) rfl (hs_bipush (pc := 36) (n := 8) X (by decide +kernel) (by decide +kernel) (hs_iushr (pc := 38) X (by decide +kernel) (hs_iadd (pc := 39) X (by decide +kernel) (hs_istore_n (pc := 40) (q := 0) X (by decide +kernel) rfl (Nat.le_of_ble_eq_true rfl) (hs_iload_n (pc := 41) (q := 0) X (by decide +kernel) rfl (hs_iload_n (pc := 42) (q := 0) X (by decide +kernel) rfl (hs_bipush (pc := 43) (n := 16) X (by decide +kernel) (by decide +kernel) (hs_iushr (pc := 45) X (by decide +kernel) (hs_iadd (pc := 46) X (by decide +kernel) (hs_istore_n (pc := 47) (q := 0) X (by decide +kernel) rfl (Nat.le_of_ble_eq_true rfl) (hs_iload_n (pc := 48) (q := 0) X (by decide +kernel) rfl (hs_bipush (pc := 49) (n := 63) X (by decide +kernel) (by decide +kernel) (hs_iand (pc := 51) X (by decide +kernel) (hs_iret (pc := 52) X r (by decide +kernel)))))))))))))))))))))))))))))))))))))))))))
def g_J6_bitCount_0f7a4 : List Value → hy_M → Option (Int32 × hy_M) := hy_g 1 b_J6_bitCount_0f7a4_0
theorem m_J6_bitCount_0f7a4 {G : hy_G} : ∀ l, hy_Mi l G yJ6_bitCount_0f7a4 cJ6_bitCount_0f7a4 1 .int 0 0 g_J6_bitCount_0f7a4 := hy_meti (y := yJ6_bitCount_0f7a4) (by decide +kernel) (fun x b X r => s_J6_bitCount_0f7a4_0 X r)
def b_X1_mayBe_0 : hy_C (Int32 × hy_M) := (o_iload 1 (o_cali 1 g_J6_bitCount_0f7a4 (o_istore 2 (o_iload 0 (o_tab [(0, (o_push (.int 1) <| o_zret)), (1, (o_iload 2 (o_push (.int 1) (o_cgt (o_push (.int 0) <| o_zret) (o_push (.int 1) <| o_zret))))), (2, (o_iload 2 (o_push (.int 2) (o_cgt (o_push (.int 0) <| o_zret) (o_push (.int 1) <| o_zret)))))] (o_iload 2 (o_push (.int 1) (o_cgt (o_iload 2 (o_push (.int 2) (o_ceq (o_iload 1 (o_iload 1 (o_push (.int 1) (o_i2 (fun a c => a >>> (c &&& 31)) (o_i2 (fun a c => a &&& c) (o_zeq (o_push (.int 0) <| o_zret) (o_push (.int 1) <| o_zret))))))) (o_push (.int 0) <| o_zret)))) (o_push (.int 1) <| o_zret)))))))))
set_option maxRecDepth 100000 in
set_option maxHeartbeats 4000000 in
theorem s_X1_mayBe_0 {G : hy_G} {x : hy_X} {b : Int32 × hy_M} (X : hy_Cx G x RX1 cX1_mayBe 3 1 20) (r : hy_Ri G x b .boolean) : hy_Sn G x 3 0 b (b_X1_mayBe_0 ) := by
  exact (hs_iload_n (pc := 0) (q := 1) X (by decide +kernel) rfl (hs_cali (pc := 1) X (m_J6_bitCount_0f7a4 (G := _)) ys_J6_bitCount_0f7a4 ml_X1_9 (by decide +kernel) (Nat.le_of_ble_eq_true rfl) (Nat.le_of_ble_eq_true rfl) (hs_istore_n (pc := 4) (q := 2) X (by decide +kernel) rfl (Nat.le_of_ble_eq_true rfl) (hs_iload_n (pc := 5) (q := 0) X (by decide +kernel) rfl (hs_tab (pc := 6) (tgt := 56) (dflt := 50) (hi := 2) (os := [26, 28, 39]) (len := 26) X (by decide +kernel) (by decide) (by decide) (by decide) (hs_iload_n (pc := 56) (q := 2) X (by decide +kernel) rfl (hs_iconst (pc := 57) (n := 1) X (by decide +kernel) (by decide +kernel) (hs_cle (pc := 58) (off := 16) (tgt := 74) X (by decide +kernel) (by decide) (hs_iload_n (pc := 61) (q := 2) X (by decide +kernel) rfl (hs_iconst (pc := 62) (n := 2) X (by decide +kernel) (by decide +kernel) (hs_cne (pc := 63) (off := 15) (tgt := 78) X (by decide +kernel) (by decide) (hs_iload_n (pc := 66) (q := 1) X (by decide +kernel) rfl (hs_iload_n (pc := 67) (q := 1) X (by decide +kernel) rfl (hs_iconst (pc := 68) (n := 1) X (by decide +kernel) (by decide +kernel) (hs_ishr (pc := 69) X (by decide +kernel) (hs_iand (pc := 70) X (by decide +kernel) (hs_zeq (pc := 71) (off := 7) (tgt := 78) X (by decide +kernel) (by decide) (hs_iconst (pc := 78) (n := 0) X (by decide +kernel) (by decide +kernel) (hs_zret (pc := 79) X r (by decide +kernel))) (hs_iconst (pc := 74) (n := 1) X (by decide +kernel) (by decide +kernel) (hs_goto (pc := 75) (off := 4) (tgt := 79) X (by decide +kernel) (by decide) (hs_zret (pc := 79) X r (by decide +kernel)))))))))) (hs_iconst (pc := 78) (n := 0) X (by decide +kernel) (by decide +kernel) (hs_zret (pc := 79) X r (by decide +kernel)))))) (hs_iconst (pc := 74) (n := 1) X (by decide +kernel) (by decide +kernel) (hs_goto (pc := 75) (off := 4) (tgt := 79) X (by decide +kernel) (by decide) (hs_zret (pc := 79) X r (by decide +kernel))))))) (hs_tabC (tgt := 32) (by decide +kernel) (by decide) (hs_iconst (pc := 32) (n := 1) X (by decide +kernel) (by decide +kernel) (hs_zret (pc := 33) X r (by decide +kernel))) (hs_tabC (tgt := 34) (by decide +kernel) (by decide) (hs_iload_n (pc := 34) (q := 2) X (by decide +kernel) rfl (hs_iconst (pc := 35) (n := 1) X (by decide +kernel) (by decide +kernel) (hs_cgt (pc := 36) (off := 7) (tgt := 43) X (by decide +kernel) (by decide) (hs_iconst (pc := 43) (n := 0) X (by decide +kernel) (by decide +kernel) (hs_zret (pc := 44) X r (by decide +kernel))) (hs_iconst (pc := 39) (n := 1) X (by decide +kernel) (by decide +kernel) (hs_goto (pc := 40) (off := 4) (tgt := 44) X (by decide +kernel) (by decide) (hs_zret (pc := 44) X r (by decide +kernel))))))) (hs_tabC (tgt := 45) (by decide +kernel) (by decide) (hs_iload_n (pc := 45) (q := 2) X (by decide +kernel) rfl (hs_iconst (pc := 46) (n := 2) X (by decide +kernel) (by decide +kernel) (hs_cgt (pc := 47) (off := 7) (tgt := 54) X (by decide +kernel) (by decide) (hs_iconst (pc := 54) (n := 0) X (by decide +kernel) (by decide +kernel) (hs_zret (pc := 55) X r (by decide +kernel))) (hs_iconst (pc := 50) (n := 1) X (by decide +kernel) (by decide +kernel) (hs_goto (pc := 51) (off := 4) (tgt := 55) X (by decide +kernel) (by decide) (hs_zret (pc := 55) X r (by decide +kernel))))))) hs_tabN))))))))
def g_X1_mayBe : List Value → hy_M → Option (Int32 × hy_M) := hy_g 3 b_X1_mayBe_0
theorem m_X1_mayBe {G : hy_G} : ∀ l, hy_Mi l G yX1_mayBe cX1_mayBe 3 .boolean 1 20 g_X1_mayBe := hy_meti (y := yX1_mayBe) (by decide +kernel) (fun x b X r => s_X1_mayBe_0 X r)
def b_X0_allowBelow_7 : Nat → hy_C hy_M
  | 0 => o_fail
  | n + 1 => (o_iload 3 (o_iload 2 (o_clt (o_iload 3 (o_push (.int 8) (o_clt (o_iload 1 (o_iload 3 (o_cali 2 g_X1_mayBe (o_zeq (o_iinc 3 1 (o_mask [true, true, true, true] (b_X0_allowBelow_7  n))) (o_aload 0 (o_getR 0 0 (o_aload 0 (o_getI 0 1 (o_iload 3 (o_iast (o_aload 0 (o_dup (o_getI 0 1 (o_push (.int 1) (o_i2 (fun a c => a + c) (o_putI 0 1 (o_iinc 3 1 (o_mask [true, true, true, true] (b_X0_allowBelow_7  n))))))))))))))))))) o_vret))) o_vret)))
set_option maxRecDepth 100000 in
set_option maxHeartbeats 4000000 in
theorem s_X0_allowBelow_7 {G : hy_G} {x : hy_X} {b : hy_M} (X : hy_Cx G x RX0 cX0_allowBelow 4 2 42) (r : hy_Rv G x b) : ∀ n, hy_Sn G x 4 7 b (b_X0_allowBelow_7  n) := by
  intro n
  induction n with
  | zero => exact hs_fail
  | succ n ih =>
    exact (hs_iload_n (pc := 7) (q := 3) X (by decide +kernel) rfl (hs_iload_n (pc := 8) (q := 2) X (by decide +kernel) rfl (hs_cge (pc := 9) (off := 43) (tgt := 52) X (by decide +kernel) (by decide) (hs_iload_n (pc := 12) (q := 3) X (by decide +kernel) rfl (hs_bipush (pc := 13) (n := 8) X (by decide +kernel) (by decide +kernel) (hs_cge (pc := 15) (off := 37) (tgt := 52) X (by decide +kernel) (by decide) (hs_iload_n (pc := 18) (q := 1) X (by decide +kernel) rfl (hs_iload_n (pc := 19) (q := 3) X (by decide +kernel) rfl (hs_cali (pc := 20) X (m_X1_mayBe (G := _)) ys_X1_mayBe ml_X0_61 (by decide +kernel) (Nat.le_of_ble_eq_true rfl) (Nat.le_of_ble_eq_true rfl) (hs_zeq (pc := 23) (off := 23) (tgt := 46) X (by decide +kernel) (by decide) (hs_iinc (pc := 46) (n := 1) X (by decide +kernel) (by decide +kernel) (Nat.le_of_ble_eq_true rfl) (hs_goto (pc := 49) (off := (-42)) (tgt := 7) X (by decide +kernel) (by decide) (hs_mask ih))) (hs_aload_n (pc := 26) (q := 0) X (by decide +kernel) rfl (hs_getR (pc := 27) X fl_X0_9 (by decide +kernel) (hs_aload_n (pc := 30) (q := 0) X (by decide +kernel) rfl (hs_getI (pc := 31) X fl_X0_15 (by decide +kernel) (hs_iload_n (pc := 34) (q := 3) X (by decide +kernel) rfl (hs_iast (pc := 35) X (by decide +kernel) (hs_aload_n (pc := 36) (q := 0) X (by decide +kernel) rfl (hs_dup (pc := 37) X (by decide +kernel) (hs_getI (pc := 38) X fl_X0_15 (by decide +kernel) (hs_iconst (pc := 41) (n := 1) X (by decide +kernel) (by decide +kernel) (hs_iadd (pc := 42) X (by decide +kernel) (hs_putI (pc := 43) X fp_X0_15 (by decide +kernel) (hs_iinc (pc := 46) (n := 1) X (by decide +kernel) (by decide +kernel) (Nat.le_of_ble_eq_true rfl) (hs_goto (pc := 49) (off := (-42)) (tgt := 7) X (by decide +kernel) (by decide) (hs_mask ih))))))))))))))))))) (hs_vret (pc := 52) X r (by decide +kernel))))) (hs_vret (pc := 52) X r (by decide +kernel)))))
def b_X0_allowBelow_0 : hy_C hy_M := (o_aload 0 (o_push (.int 0) (o_putI 0 1 (o_push (.int 0) (o_istore 3 (o_mask [true, true, true, true] (b_X0_allowBelow_7  300)))))))
set_option maxRecDepth 100000 in
set_option maxHeartbeats 4000000 in
theorem s_X0_allowBelow_0 {G : hy_G} {x : hy_X} {b : hy_M} (X : hy_Cx G x RX0 cX0_allowBelow 4 2 42) (r : hy_Rv G x b) : hy_Sn G x 4 0 b (b_X0_allowBelow_0 ) := by
  exact (hs_aload_n (pc := 0) (q := 0) X (by decide +kernel) rfl (hs_iconst (pc := 1) (n := 0) X (by decide +kernel) (by decide +kernel) (hs_putI (pc := 2) X fp_X0_15 (by decide +kernel) (hs_iconst (pc := 5) (n := 0) X (by decide +kernel) (by decide +kernel) (hs_istore_n (pc := 6) (q := 3) X (by decide +kernel) rfl (Nat.le_of_ble_eq_true rfl) (hs_mask (s_X0_allowBelow_7 X r  300)))))))
def g_X0_allowBelow : List Value → hy_M → Option hy_M := hy_g 4 b_X0_allowBelow_0
theorem m_X0_allowBelow {G : hy_G} : ∀ l, hy_Mv l G yX0_allowBelow cX0_allowBelow 4 2 42 g_X0_allowBelow := hy_metv (y := yX0_allowBelow) (by decide +kernel) (fun x b X r => s_X0_allowBelow_0 X r)
def b_X0_highest_0 : hy_C (Int32 × hy_M) := (o_aload 1 (o_getR 6 6 (o_iload 2 (o_iald (o_istore 3 (o_aload 1 (o_iload 3 (o_aload 1 (o_getR 6 9 (o_iload 3 (o_iald (o_push (.int 1) (o_i2 (fun a c => a - c) (o_vali 6 3 g_X7_wantedAt (o_istore 4 (o_aload 0 (o_getI 0 1 (o_push (.int 1) (o_i2 (fun a c => a - c) (o_aload 0 (o_getR 0 2 (o_iload 4 (o_iald (o_aload 0 (o_getR 0 2 (o_iload 2 (o_iald (o_i2 (fun a c => a - c) (o_i2 (fun a c => a - c) <| o_iret)))))))))))))))))))))))))))))
set_option maxRecDepth 100000 in
set_option maxHeartbeats 4000000 in
theorem s_X0_highest_0 {G : hy_G} {x : hy_X} {b : Int32 × hy_M} (X : hy_Cx G x RX0 cX0_highest 5 1 22) (r : hy_Ri G x b .int) : hy_Sn G x 5 0 b (b_X0_highest_0 ) := by
  exact (hs_aload_n (pc := 0) (q := 1) X (by decide +kernel) rfl (hs_getR (pc := 1) X fl_X0_82 (by decide +kernel) (hs_iload_n (pc := 4) (q := 2) X (by decide +kernel) rfl (hs_iald (pc := 5) X (by decide +kernel) (hs_istore_n (pc := 6) (q := 3) X (by decide +kernel) rfl (Nat.le_of_ble_eq_true rfl) (hs_aload_n (pc := 7) (q := 1) X (by decide +kernel) rfl (hs_iload_n (pc := 8) (q := 3) X (by decide +kernel) rfl (hs_aload_n (pc := 9) (q := 1) X (by decide +kernel) rfl (hs_getR (pc := 10) X fl_X0_85 (by decide +kernel) (hs_iload_n (pc := 13) (q := 3) X (by decide +kernel) rfl (hs_iald (pc := 14) X (by decide +kernel) (hs_iconst (pc := 15) (n := 1) X (by decide +kernel) (by decide +kernel) (hs_isub (pc := 16) X (by decide +kernel) (hs_vali (pc := 17) X (m_X7_wantedAt (G := _)) yv_X7_wantedAt ml_X0_88 (by decide +kernel) (Nat.le_of_ble_eq_true rfl) (Nat.le_of_ble_eq_true rfl) (hs_istore (pc := 20) X (by decide +kernel) (Nat.le_of_ble_eq_true rfl) (hs_aload_n (pc := 22) (q := 0) X (by decide +kernel) rfl (hs_getI (pc := 23) X fl_X0_15 (by decide +kernel) (hs_iconst (pc := 26) (n := 1) X (by decide +kernel) (by decide +kernel) (hs_isub (pc := 27) X (by decide +kernel) (hs_aload_n (pc := 28) (q := 0) X (by decide +kernel) rfl (hs_getR (pc := 29) X fl_X0_19 (by decide +kernel) (hs_iload (pc := 32) X (by decide +kernel) (hs_iald (pc := 34) X (by decide +kernel) (hs_aload_n (pc := 35) (q := 0) X (by decide +kernel) rfl (hs_getR (pc := 36) X fl_X0_19 (by decide +kernel) (hs_iload_n (pc := 39) (q := 2) X (by decide +kernel) rfl (hs_iald (pc := 40) X (by decide +kernel) (hs_isub (pc := 41) X (by decide +kernel) (hs_isub (pc := 42) X (by decide +kernel) (hs_iret (pc := 43) X r (by decide +kernel)))))))))))))))))))))))))))))))
def g_X0_highest : List Value → hy_M → Option (Int32 × hy_M) := hy_g 5 b_X0_highest_0
theorem m_X0_highest {G : hy_G} : ∀ l, hy_Mi l G yX0_highest cX0_highest 5 .int 1 22 g_X0_highest := hy_meti (y := yX0_highest) (by decide +kernel) (fun x b X r => s_X0_highest_0 X r)
def b_J9_min_7cf53_0 : hy_C (Int32 × hy_M) := (o_iload 0 (o_iload 1 (o_cgt (o_iload 1 <| o_iret) (o_iload 0 <| o_iret))))
set_option maxRecDepth 100000 in
set_option maxHeartbeats 4000000 in
theorem s_J9_min_7cf53_0 {G : hy_G} {x : hy_X} {b : Int32 × hy_M} (X : hy_Cx G x RJ9 cJ9_min_7cf53 2 0 0) (r : hy_Ri G x b .int) : hy_Sn G x 2 0 b (b_J9_min_7cf53_0 ) := by
  exact (hs_iload_n (pc := 0) (q := 0) X (by decide +kernel) rfl (hs_iload_n (pc := 1) (q := 1) X (by decide +kernel) rfl (hs_cgt (pc := 2) (off := 7) (tgt := 9) X (by decide +kernel) (by decide) (hs_iload_n (pc := 9) (q := 1) X (by decide +kernel) rfl (hs_iret (pc := 10) X r (by decide +kernel))) (hs_iload_n (pc := 5) (q := 0) X (by decide +kernel) rfl (hs_goto (pc := 6) (off := 4) (tgt := 10) X (by decide +kernel) (by decide) (hs_iret (pc := 10) X r (by decide +kernel)))))))
def g_J9_min_7cf53 : List Value → hy_M → Option (Int32 × hy_M) := hy_g 2 b_J9_min_7cf53_0
theorem m_J9_min_7cf53 {G : hy_G} : ∀ l, hy_Mi l G yJ9_min_7cf53 cJ9_min_7cf53 2 .int 0 0 g_J9_min_7cf53 := hy_meti (y := yJ9_min_7cf53) (by decide +kernel) (fun x b X r => s_J9_min_7cf53_0 X r)
def b_X0_foresee_31 (k_17 : hy_C hy_M) : Nat → hy_C hy_M
  | 0 => o_fail
  | n + 1 => (o_iload 4 (o_aload 0 (o_aload 1 (o_iload 2 (o_vali 0 3 g_X0_highest (o_cgt (o_aload 0 (o_getR 0 5 (o_iload 2 (o_aload 0 (o_getR 0 5 (o_iload 2 (o_push (.int 1) (o_i2 (fun a c => a + c) (o_iald (o_iload 3 (o_i2 (fun a c => a + c) (o_iast (o_iinc 2 (-1) (o_mask [true, true, true, false, false] k_17)))))))))))))) (o_iload 3 (o_aload 0 (o_getR 0 0 (o_iload 4 (o_iald (o_cali 1 g_J6_bitCount_0f7a4 (o_cali 2 g_J9_min_7cf53 (o_istore 3 (o_iinc 4 1 (o_mask [true, true, true, true, true] (b_X0_foresee_31 k_17 n)))))))))))))))))
set_option maxRecDepth 100000 in
set_option maxHeartbeats 4000000 in
theorem s_X0_foresee_31 {G : hy_G} {x : hy_X} {b : hy_M} (X : hy_Cx G x RX0 cX0_foresee 5 2 46) (r : hy_Rv G x b) {k_17 : hy_C hy_M} (hk_17 : hy_Sn G x 5 17 b k_17) : ∀ n, hy_Sn G x 5 31 b (b_X0_foresee_31 k_17 n) := by
  intro n
  induction n with
  | zero => exact hs_fail
  | succ n ih =>
    exact (hs_iload (pc := 31) X (by decide +kernel) (hs_aload_n (pc := 33) (q := 0) X (by decide +kernel) rfl (hs_aload_n (pc := 34) (q := 1) X (by decide +kernel) rfl (hs_iload_n (pc := 35) (q := 2) X (by decide +kernel) rfl (hs_vali (pc := 36) X (m_X0_highest (G := _)) yv_X0_highest ml_X0_67 (by decide +kernel) (Nat.le_of_ble_eq_true rfl) (Nat.le_of_ble_eq_true rfl) (hs_cgt (pc := 39) (off := 24) (tgt := 63) X (by decide +kernel) (by decide) (hs_aload_n (pc := 63) (q := 0) X (by decide +kernel) rfl (hs_getR (pc := 64) X fl_X0_28 (by decide +kernel) (hs_iload_n (pc := 67) (q := 2) X (by decide +kernel) rfl (hs_aload_n (pc := 68) (q := 0) X (by decide +kernel) rfl (hs_getR (pc := 69) X fl_X0_28 (by decide +kernel) (hs_iload_n (pc := 72) (q := 2) X (by decide +kernel) rfl (hs_iconst (pc := 73) (n := 1) X (by decide +kernel) (by decide +kernel) (hs_iadd (pc := 74) X (by decide +kernel) (hs_iald (pc := 75) X (by decide +kernel) (hs_iload_n (pc := 76) (q := 3) X (by decide +kernel) rfl (hs_iadd (pc := 77) X (by decide +kernel) (hs_iast (pc := 78) X (by decide +kernel) (hs_iinc (pc := 79) (n := (-1)) X (by decide +kernel) (by decide +kernel) (Nat.le_of_ble_eq_true rfl) (hs_goto (pc := 82) (off := (-65)) (tgt := 17) X (by decide +kernel) (by decide) (hs_mask hk_17))))))))))))))) (hs_iload_n (pc := 42) (q := 3) X (by decide +kernel) rfl (hs_aload_n (pc := 43) (q := 0) X (by decide +kernel) rfl (hs_getR (pc := 44) X fl_X0_9 (by decide +kernel) (hs_iload (pc := 47) X (by decide +kernel) (hs_iald (pc := 49) X (by decide +kernel) (hs_cali (pc := 50) X (m_J6_bitCount_0f7a4 (G := _)) ys_J6_bitCount_0f7a4 ml_X0_71 (by decide +kernel) (Nat.le_of_ble_eq_true rfl) (Nat.le_of_ble_eq_true rfl) (hs_cali (pc := 53) X (m_J9_min_7cf53 (G := _)) ys_J9_min_7cf53 ml_X0_76 (by decide +kernel) (Nat.le_of_ble_eq_true rfl) (Nat.le_of_ble_eq_true rfl) (hs_istore_n (pc := 56) (q := 3) X (by decide +kernel) rfl (Nat.le_of_ble_eq_true rfl) (hs_iinc (pc := 57) (n := 1) X (by decide +kernel) (by decide +kernel) (Nat.le_of_ble_eq_true rfl) (hs_goto (pc := 60) (off := (-29)) (tgt := 31) X (by decide +kernel) (by decide) (hs_mask ih)))))))))))))))))
def b_X0_foresee_17 : Nat → hy_C hy_M
  | 0 => o_fail
  | n + 1 => (o_iload 2 (o_zlt o_vret (o_push (.int 3) (o_istore 3 (o_aload 0 (o_getR 0 2 (o_iload 2 (o_iald (o_istore 4 (o_mask [true, true, true, true, true] (b_X0_foresee_31 (b_X0_foresee_17  n) 300)))))))))))
set_option maxRecDepth 100000 in
set_option maxHeartbeats 4000000 in
theorem s_X0_foresee_17 {G : hy_G} {x : hy_X} {b : hy_M} (X : hy_Cx G x RX0 cX0_foresee 5 2 46) (r : hy_Rv G x b) : ∀ n, hy_Sn G x 5 17 b (b_X0_foresee_17  n) := by
  intro n
  induction n with
  | zero => exact hs_fail
  | succ n ih =>
    exact (hs_iload_n (pc := 17) (q := 2) X (by decide +kernel) rfl (hs_zlt (pc := 18) (off := 67) (tgt := 85) X (by decide +kernel) (by decide) (hs_vret (pc := 85) X r (by decide +kernel)) (hs_iconst (pc := 21) (n := 3) X (by decide +kernel) (by decide +kernel) (hs_istore_n (pc := 22) (q := 3) X (by decide +kernel) rfl (Nat.le_of_ble_eq_true rfl) (hs_aload_n (pc := 23) (q := 0) X (by decide +kernel) rfl (hs_getR (pc := 24) X fl_X0_19 (by decide +kernel) (hs_iload_n (pc := 27) (q := 2) X (by decide +kernel) rfl (hs_iald (pc := 28) X (by decide +kernel) (hs_istore (pc := 29) X (by decide +kernel) (Nat.le_of_ble_eq_true rfl) (hs_mask (s_X0_foresee_31 X r ih 300)))))))))))
def b_X0_foresee_0 : hy_C hy_M := (o_aload 0 (o_getR 0 5 (o_aload 1 (o_getI 6 0 (o_push (.int 0) (o_iast (o_aload 1 (o_getI 6 0 (o_push (.int 1) (o_i2 (fun a c => a - c) (o_istore 2 (o_mask [true, true, true, false, false] (b_X0_foresee_17  300)))))))))))))
set_option maxRecDepth 100000 in
set_option maxHeartbeats 4000000 in
theorem s_X0_foresee_0 {G : hy_G} {x : hy_X} {b : hy_M} (X : hy_Cx G x RX0 cX0_foresee 5 2 46) (r : hy_Rv G x b) : hy_Sn G x 5 0 b (b_X0_foresee_0 ) := by
  exact (hs_aload_n (pc := 0) (q := 0) X (by decide +kernel) rfl (hs_getR (pc := 1) X fl_X0_28 (by decide +kernel) (hs_aload_n (pc := 4) (q := 1) X (by decide +kernel) rfl (hs_getI (pc := 5) X fl_X0_37 (by decide +kernel) (hs_iconst (pc := 8) (n := 0) X (by decide +kernel) (by decide +kernel) (hs_iast (pc := 9) X (by decide +kernel) (hs_aload_n (pc := 10) (q := 1) X (by decide +kernel) rfl (hs_getI (pc := 11) X fl_X0_37 (by decide +kernel) (hs_iconst (pc := 14) (n := 1) X (by decide +kernel) (by decide +kernel) (hs_isub (pc := 15) X (by decide +kernel) (hs_istore_n (pc := 16) (q := 2) X (by decide +kernel) rfl (Nat.le_of_ble_eq_true rfl) (hs_mask (s_X0_foresee_17 X r  300)))))))))))))
def g_X0_foresee : List Value → hy_M → Option hy_M := hy_g 5 b_X0_foresee_0
theorem m_X0_foresee {G : hy_G} : ∀ l, hy_Mv l G yX0_foresee cX0_foresee 5 2 46 g_X0_foresee := hy_metv (y := yX0_foresee) (by decide +kernel) (fun x b X r => s_X0_foresee_0 X r)
def b_X0_highFor_17 : Nat → hy_C (Int32 × hy_M)
  | 0 => o_fail
  | n + 1 => (o_iload 4 (o_aload 1 (o_getR 6 9 (o_iload 3 (o_iald (o_clt (o_aload 1 (o_iload 3 (o_iload 4 (o_vali 6 3 g_X7_wantedAt (o_istore 5 (o_iload 5 (o_iload 2 (o_clt (o_aload 0 (o_getR 0 3 (o_iload 5 (o_iald (o_aload 0 (o_getR 0 2 (o_iload 2 (o_iald (o_i2 (fun a c => a + c) (o_aload 0 (o_getR 0 2 (o_iload 5 (o_iald (o_i2 (fun a c => a - c) <| o_iret)))))))))))))) (o_iinc 4 1 (o_mask [true, true, true, true, true, false] (b_X0_highFor_17  n))))))))))) (o_aload 0 (o_aload 1 (o_iload 2 (o_vali 0 3 g_X0_highest <| o_iret))))))))))
set_option maxRecDepth 100000 in
set_option maxHeartbeats 4000000 in
theorem s_X0_highFor_17 {G : hy_G} {x : hy_X} {b : Int32 × hy_M} (X : hy_Cx G x RX0 cX0_highFor 6 2 46) (r : hy_Ri G x b .int) : ∀ n, hy_Sn G x 6 17 b (b_X0_highFor_17  n) := by
  intro n
  induction n with
  | zero => exact hs_fail
  | succ n ih =>
    exact (hs_iload (pc := 17) X (by decide +kernel) (hs_aload_n (pc := 19) (q := 1) X (by decide +kernel) rfl (hs_getR (pc := 20) X fl_X0_85 (by decide +kernel) (hs_iload_n (pc := 23) (q := 3) X (by decide +kernel) rfl (hs_iald (pc := 24) X (by decide +kernel) (hs_cge (pc := 25) (off := 47) (tgt := 72) X (by decide +kernel) (by decide) (hs_aload_n (pc := 28) (q := 1) X (by decide +kernel) rfl (hs_iload_n (pc := 29) (q := 3) X (by decide +kernel) rfl (hs_iload (pc := 30) X (by decide +kernel) (hs_vali (pc := 32) X (m_X7_wantedAt (G := _)) yv_X7_wantedAt ml_X0_88 (by decide +kernel) (Nat.le_of_ble_eq_true rfl) (Nat.le_of_ble_eq_true rfl) (hs_istore (pc := 35) X (by decide +kernel) (Nat.le_of_ble_eq_true rfl) (hs_iload (pc := 37) X (by decide +kernel) (hs_iload_n (pc := 39) (q := 2) X (by decide +kernel) rfl (hs_cge (pc := 40) (off := 26) (tgt := 66) X (by decide +kernel) (by decide) (hs_aload_n (pc := 43) (q := 0) X (by decide +kernel) rfl (hs_getR (pc := 44) X fl_X0_22 (by decide +kernel) (hs_iload (pc := 47) X (by decide +kernel) (hs_iald (pc := 49) X (by decide +kernel) (hs_aload_n (pc := 50) (q := 0) X (by decide +kernel) rfl (hs_getR (pc := 51) X fl_X0_19 (by decide +kernel) (hs_iload_n (pc := 54) (q := 2) X (by decide +kernel) rfl (hs_iald (pc := 55) X (by decide +kernel) (hs_iadd (pc := 56) X (by decide +kernel) (hs_aload_n (pc := 57) (q := 0) X (by decide +kernel) rfl (hs_getR (pc := 58) X fl_X0_19 (by decide +kernel) (hs_iload (pc := 61) X (by decide +kernel) (hs_iald (pc := 63) X (by decide +kernel) (hs_isub (pc := 64) X (by decide +kernel) (hs_iret (pc := 65) X r (by decide +kernel)))))))))))))))) (hs_iinc (pc := 66) (n := 1) X (by decide +kernel) (by decide +kernel) (Nat.le_of_ble_eq_true rfl) (hs_goto (pc := 69) (off := (-52)) (tgt := 17) X (by decide +kernel) (by decide) (hs_mask ih))))))))))) (hs_aload_n (pc := 72) (q := 0) X (by decide +kernel) rfl (hs_aload_n (pc := 73) (q := 1) X (by decide +kernel) rfl (hs_iload_n (pc := 74) (q := 2) X (by decide +kernel) rfl (hs_vali (pc := 75) X (m_X0_highest (G := _)) yv_X0_highest ml_X0_67 (by decide +kernel) (Nat.le_of_ble_eq_true rfl) (Nat.le_of_ble_eq_true rfl) (hs_iret (pc := 78) X r (by decide +kernel))))))))))))
def b_X0_highFor_0 : hy_C (Int32 × hy_M) := (o_aload 1 (o_getR 6 6 (o_iload 2 (o_iald (o_istore 3 (o_aload 1 (o_getR 6 7 (o_iload 2 (o_iald (o_push (.int 1) (o_i2 (fun a c => a + c) (o_istore 4 (o_mask [true, true, true, true, true, false] (b_X0_highFor_17  300))))))))))))))
set_option maxRecDepth 100000 in
set_option maxHeartbeats 4000000 in
theorem s_X0_highFor_0 {G : hy_G} {x : hy_X} {b : Int32 × hy_M} (X : hy_Cx G x RX0 cX0_highFor 6 2 46) (r : hy_Ri G x b .int) : hy_Sn G x 6 0 b (b_X0_highFor_0 ) := by
  exact (hs_aload_n (pc := 0) (q := 1) X (by decide +kernel) rfl (hs_getR (pc := 1) X fl_X0_82 (by decide +kernel) (hs_iload_n (pc := 4) (q := 2) X (by decide +kernel) rfl (hs_iald (pc := 5) X (by decide +kernel) (hs_istore_n (pc := 6) (q := 3) X (by decide +kernel) rfl (Nat.le_of_ble_eq_true rfl) (hs_aload_n (pc := 7) (q := 1) X (by decide +kernel) rfl (hs_getR (pc := 8) X fl_X0_91 (by decide +kernel) (hs_iload_n (pc := 11) (q := 2) X (by decide +kernel) rfl (hs_iald (pc := 12) X (by decide +kernel) (hs_iconst (pc := 13) (n := 1) X (by decide +kernel) (by decide +kernel) (hs_iadd (pc := 14) X (by decide +kernel) (hs_istore (pc := 15) X (by decide +kernel) (Nat.le_of_ble_eq_true rfl) (hs_mask (s_X0_highFor_17 X r  300))))))))))))))
def g_X0_highFor : List Value → hy_M → Option (Int32 × hy_M) := hy_g 6 b_X0_highFor_0
theorem m_X0_highFor {G : hy_G} : ∀ l, hy_Mi l G yX0_highFor cX0_highFor 6 .int 2 46 g_X0_highFor := hy_meti (y := yX0_highFor) (by decide +kernel) (fun x b X r => s_X0_highFor_0 X r)
def b_X0_lowFor_17 : Nat → hy_C (Int32 × hy_M)
  | 0 => o_fail
  | n + 1 => (o_iload 4 (o_zlt (o_aload 0 (o_getR 0 2 (o_iload 2 (o_iald <| o_iret)))) (o_aload 1 (o_iload 3 (o_iload 4 (o_vali 6 3 g_X7_wantedAt (o_istore 5 (o_iload 5 (o_iload 2 (o_clt (o_aload 0 (o_getR 0 3 (o_iload 5 (o_iald (o_aload 0 (o_getR 0 2 (o_iload 2 (o_iald (o_i2 (fun a c => a + c) (o_aload 0 (o_getR 0 2 (o_iload 5 (o_iald (o_i2 (fun a c => a - c) <| o_iret)))))))))))))) (o_iinc 4 (-1) (o_mask [true, true, true, true, true, false] (b_X0_lowFor_17  n)))))))))))))
set_option maxRecDepth 100000 in
set_option maxHeartbeats 4000000 in
theorem s_X0_lowFor_17 {G : hy_G} {x : hy_X} {b : Int32 × hy_M} (X : hy_Cx G x RX0 cX0_lowFor 6 1 22) (r : hy_Ri G x b .int) : ∀ n, hy_Sn G x 6 17 b (b_X0_lowFor_17  n) := by
  intro n
  induction n with
  | zero => exact hs_fail
  | succ n ih =>
    exact (hs_iload (pc := 17) X (by decide +kernel) (hs_zlt (pc := 19) (off := 47) (tgt := 66) X (by decide +kernel) (by decide) (hs_aload_n (pc := 66) (q := 0) X (by decide +kernel) rfl (hs_getR (pc := 67) X fl_X0_19 (by decide +kernel) (hs_iload_n (pc := 70) (q := 2) X (by decide +kernel) rfl (hs_iald (pc := 71) X (by decide +kernel) (hs_iret (pc := 72) X r (by decide +kernel)))))) (hs_aload_n (pc := 22) (q := 1) X (by decide +kernel) rfl (hs_iload_n (pc := 23) (q := 3) X (by decide +kernel) rfl (hs_iload (pc := 24) X (by decide +kernel) (hs_vali (pc := 26) X (m_X7_wantedAt (G := _)) yv_X7_wantedAt ml_X0_88 (by decide +kernel) (Nat.le_of_ble_eq_true rfl) (Nat.le_of_ble_eq_true rfl) (hs_istore (pc := 29) X (by decide +kernel) (Nat.le_of_ble_eq_true rfl) (hs_iload (pc := 31) X (by decide +kernel) (hs_iload_n (pc := 33) (q := 2) X (by decide +kernel) rfl (hs_cge (pc := 34) (off := 26) (tgt := 60) X (by decide +kernel) (by decide) (hs_aload_n (pc := 37) (q := 0) X (by decide +kernel) rfl (hs_getR (pc := 38) X fl_X0_22 (by decide +kernel) (hs_iload (pc := 41) X (by decide +kernel) (hs_iald (pc := 43) X (by decide +kernel) (hs_aload_n (pc := 44) (q := 0) X (by decide +kernel) rfl (hs_getR (pc := 45) X fl_X0_19 (by decide +kernel) (hs_iload_n (pc := 48) (q := 2) X (by decide +kernel) rfl (hs_iald (pc := 49) X (by decide +kernel) (hs_iadd (pc := 50) X (by decide +kernel) (hs_aload_n (pc := 51) (q := 0) X (by decide +kernel) rfl (hs_getR (pc := 52) X fl_X0_19 (by decide +kernel) (hs_iload (pc := 55) X (by decide +kernel) (hs_iald (pc := 57) X (by decide +kernel) (hs_isub (pc := 58) X (by decide +kernel) (hs_iret (pc := 59) X r (by decide +kernel)))))))))))))))) (hs_iinc (pc := 60) (n := (-1)) X (by decide +kernel) (by decide +kernel) (Nat.le_of_ble_eq_true rfl) (hs_goto (pc := 63) (off := (-46)) (tgt := 17) X (by decide +kernel) (by decide) (hs_mask ih)))))))))))))
def b_X0_lowFor_0 : hy_C (Int32 × hy_M) := (o_aload 1 (o_getR 6 6 (o_iload 2 (o_iald (o_istore 3 (o_aload 1 (o_getR 6 7 (o_iload 2 (o_iald (o_push (.int 1) (o_i2 (fun a c => a - c) (o_istore 4 (o_mask [true, true, true, true, true, false] (b_X0_lowFor_17  300))))))))))))))
set_option maxRecDepth 100000 in
set_option maxHeartbeats 4000000 in
theorem s_X0_lowFor_0 {G : hy_G} {x : hy_X} {b : Int32 × hy_M} (X : hy_Cx G x RX0 cX0_lowFor 6 1 22) (r : hy_Ri G x b .int) : hy_Sn G x 6 0 b (b_X0_lowFor_0 ) := by
  exact (hs_aload_n (pc := 0) (q := 1) X (by decide +kernel) rfl (hs_getR (pc := 1) X fl_X0_82 (by decide +kernel) (hs_iload_n (pc := 4) (q := 2) X (by decide +kernel) rfl (hs_iald (pc := 5) X (by decide +kernel) (hs_istore_n (pc := 6) (q := 3) X (by decide +kernel) rfl (Nat.le_of_ble_eq_true rfl) (hs_aload_n (pc := 7) (q := 1) X (by decide +kernel) rfl (hs_getR (pc := 8) X fl_X0_91 (by decide +kernel) (hs_iload_n (pc := 11) (q := 2) X (by decide +kernel) rfl (hs_iald (pc := 12) X (by decide +kernel) (hs_iconst (pc := 13) (n := 1) X (by decide +kernel) (by decide +kernel) (hs_isub (pc := 14) X (by decide +kernel) (hs_istore (pc := 15) X (by decide +kernel) (Nat.le_of_ble_eq_true rfl) (hs_mask (s_X0_lowFor_17 X r  300))))))))))))))
def g_X0_lowFor : List Value → hy_M → Option (Int32 × hy_M) := hy_g 6 b_X0_lowFor_0
theorem m_X0_lowFor {G : hy_G} : ∀ l, hy_Mi l G yX0_lowFor cX0_lowFor 6 .int 1 22 g_X0_lowFor := hy_meti (y := yX0_lowFor) (by decide +kernel) (fun x b X r => s_X0_lowFor_0 X r)
def b_X0_addLoad_2 : Nat → hy_C hy_M
  | 0 => o_fail
  | n + 1 => (o_iload 3 (o_push (.int 3) (o_clt (o_iload 1 (o_iload 3 (o_i2 (fun a c => a >>> (c &&& 31)) (o_push (.int 1) (o_i2 (fun a c => a &&& c) (o_push (.int 1) (o_ceq (o_aload 0 (o_getR 0 4 (o_iload 3 (o_dup2 (o_iald (o_iload 2 (o_i2 (fun a c => a + c) (o_iast (o_iinc 3 1 (o_mask [true, true, true, true] (b_X0_addLoad_2  n))))))))))) (o_iinc 3 1 (o_mask [true, true, true, true] (b_X0_addLoad_2  n)))))))))) o_vret)))
set_option maxRecDepth 100000 in
set_option maxHeartbeats 4000000 in
theorem s_X0_addLoad_2 {G : hy_G} {x : hy_X} {b : hy_M} (X : hy_Cx G x RX0 cX0_addLoad 4 0 0) (r : hy_Rv G x b) : ∀ n, hy_Sn G x 4 2 b (b_X0_addLoad_2  n) := by
  intro n
  induction n with
  | zero => exact hs_fail
  | succ n ih =>
    exact (hs_iload_n (pc := 2) (q := 3) X (by decide +kernel) rfl (hs_iconst (pc := 3) (n := 3) X (by decide +kernel) (by decide +kernel) (hs_cge (pc := 4) (off := 28) (tgt := 32) X (by decide +kernel) (by decide) (hs_iload_n (pc := 7) (q := 1) X (by decide +kernel) rfl (hs_iload_n (pc := 8) (q := 3) X (by decide +kernel) rfl (hs_ishr (pc := 9) X (by decide +kernel) (hs_iconst (pc := 10) (n := 1) X (by decide +kernel) (by decide +kernel) (hs_iand (pc := 11) X (by decide +kernel) (hs_iconst (pc := 12) (n := 1) X (by decide +kernel) (by decide +kernel) (hs_cne (pc := 13) (off := 13) (tgt := 26) X (by decide +kernel) (by decide) (hs_aload_n (pc := 16) (q := 0) X (by decide +kernel) rfl (hs_getR (pc := 17) X fl_X0_25 (by decide +kernel) (hs_iload_n (pc := 20) (q := 3) X (by decide +kernel) rfl (hs_dup2 (pc := 21) X (by decide +kernel) (hs_iald (pc := 22) X (by decide +kernel) (hs_iload_n (pc := 23) (q := 2) X (by decide +kernel) rfl (hs_iadd (pc := 24) X (by decide +kernel) (hs_iast (pc := 25) X (by decide +kernel) (hs_iinc (pc := 26) (n := 1) X (by decide +kernel) (by decide +kernel) (Nat.le_of_ble_eq_true rfl) (hs_goto (pc := 29) (off := (-27)) (tgt := 2) X (by decide +kernel) (by decide) (hs_mask ih))))))))))) (hs_iinc (pc := 26) (n := 1) X (by decide +kernel) (by decide +kernel) (Nat.le_of_ble_eq_true rfl) (hs_goto (pc := 29) (off := (-27)) (tgt := 2) X (by decide +kernel) (by decide) (hs_mask ih)))))))))) (hs_vret (pc := 32) X r (by decide +kernel)))))
def b_X0_addLoad_0 : hy_C hy_M := (o_push (.int 0) (o_istore 3 (o_mask [true, true, true, true] (b_X0_addLoad_2  300))))
set_option maxRecDepth 100000 in
set_option maxHeartbeats 4000000 in
theorem s_X0_addLoad_0 {G : hy_G} {x : hy_X} {b : hy_M} (X : hy_Cx G x RX0 cX0_addLoad 4 0 0) (r : hy_Rv G x b) : hy_Sn G x 4 0 b (b_X0_addLoad_0 ) := by
  exact (hs_iconst (pc := 0) (n := 0) X (by decide +kernel) (by decide +kernel) (hs_istore_n (pc := 1) (q := 3) X (by decide +kernel) rfl (Nat.le_of_ble_eq_true rfl) (hs_mask (s_X0_addLoad_2 X r  300))))
def g_X0_addLoad : List Value → hy_M → Option hy_M := hy_g 4 b_X0_addLoad_0
theorem m_X0_addLoad {G : hy_G} : ∀ l, hy_Mv l G yX0_addLoad cX0_addLoad 4 0 0 g_X0_addLoad := hy_metv (y := yX0_addLoad) (by decide +kernel) (fun x b X r => s_X0_addLoad_0 X r)
def b_X0_loadsFit_2 : Nat → hy_C (Int32 × hy_M)
  | 0 => o_fail
  | n + 1 => (o_iload 2 (o_push (.int 3) (o_clt (o_aload 0 (o_getR 0 4 (o_iload 2 (o_iald (o_aload 1 (o_iload 2 (o_iald (o_cgt (o_push (.int 0) <| o_zret) (o_iinc 2 1 (o_mask [true, true, true] (b_X0_loadsFit_2  n))))))))))) (o_push (.int 1) <| o_zret))))
set_option maxRecDepth 100000 in
set_option maxHeartbeats 4000000 in
theorem s_X0_loadsFit_2 {G : hy_G} {x : hy_X} {b : Int32 × hy_M} (X : hy_Cx G x RX0 cX0_loadsFit 3 0 0) (r : hy_Ri G x b .boolean) : ∀ n, hy_Sn G x 3 2 b (b_X0_loadsFit_2  n) := by
  intro n
  induction n with
  | zero => exact hs_fail
  | succ n ih =>
    exact (hs_iload_n (pc := 2) (q := 2) X (by decide +kernel) rfl (hs_iconst (pc := 3) (n := 3) X (by decide +kernel) (by decide +kernel) (hs_cge (pc := 4) (off := 23) (tgt := 27) X (by decide +kernel) (by decide) (hs_aload_n (pc := 7) (q := 0) X (by decide +kernel) rfl (hs_getR (pc := 8) X fl_X0_25 (by decide +kernel) (hs_iload_n (pc := 11) (q := 2) X (by decide +kernel) rfl (hs_iald (pc := 12) X (by decide +kernel) (hs_aload_n (pc := 13) (q := 1) X (by decide +kernel) rfl (hs_iload_n (pc := 14) (q := 2) X (by decide +kernel) rfl (hs_iald (pc := 15) X (by decide +kernel) (hs_cle (pc := 16) (off := 5) (tgt := 21) X (by decide +kernel) (by decide) (hs_iconst (pc := 19) (n := 0) X (by decide +kernel) (by decide +kernel) (hs_zret (pc := 20) X r (by decide +kernel))) (hs_iinc (pc := 21) (n := 1) X (by decide +kernel) (by decide +kernel) (Nat.le_of_ble_eq_true rfl) (hs_goto (pc := 24) (off := (-22)) (tgt := 2) X (by decide +kernel) (by decide) (hs_mask ih))))))))))) (hs_iconst (pc := 27) (n := 1) X (by decide +kernel) (by decide +kernel) (hs_zret (pc := 28) X r (by decide +kernel))))))
def b_X0_loadsFit_0 : hy_C (Int32 × hy_M) := (o_push (.int 0) (o_istore 2 (o_mask [true, true, true] (b_X0_loadsFit_2  300))))
set_option maxRecDepth 100000 in
set_option maxHeartbeats 4000000 in
theorem s_X0_loadsFit_0 {G : hy_G} {x : hy_X} {b : Int32 × hy_M} (X : hy_Cx G x RX0 cX0_loadsFit 3 0 0) (r : hy_Ri G x b .boolean) : hy_Sn G x 3 0 b (b_X0_loadsFit_0 ) := by
  exact (hs_iconst (pc := 0) (n := 0) X (by decide +kernel) (by decide +kernel) (hs_istore_n (pc := 1) (q := 2) X (by decide +kernel) rfl (Nat.le_of_ble_eq_true rfl) (hs_mask (s_X0_loadsFit_2 X r  300))))
def g_X0_loadsFit : List Value → hy_M → Option (Int32 × hy_M) := hy_g 3 b_X0_loadsFit_0
theorem m_X0_loadsFit {G : hy_G} : ∀ l, hy_Mi l G yX0_loadsFit cX0_loadsFit 3 .boolean 0 0 g_X0_loadsFit := hy_meti (y := yX0_loadsFit) (by decide +kernel) (fun x b X r => s_X0_loadsFit_0 X r)
def b_X0_choose_16 (self : List Value → hy_M → Option hy_M) : Nat → hy_C hy_M
  | 0 => o_fail
  | n + 1 => (o_iload 4 (o_aload 1 (o_getI 6 0 (o_clt (o_aload 0 (o_getR 0 7 (o_iload 4 (o_aload 0 (o_getR 0 0 (o_aload 0 (o_getR 0 3 (o_iload 4 (o_iald (o_iald (o_iast (o_iinc 4 1 (o_mask [true, true, false, false, true, false, false, false] (b_X0_choose_16 self  n)))))))))))))) o_vret))))
set_option maxRecDepth 100000 in
set_option maxHeartbeats 4000000 in
theorem s_X0_choose_16 {G : hy_G} {x : hy_X} {b : hy_M} {d : Nat} (X : hy_Cx G x RX0 cX0_choose 8 (3 + (d + 1)) (71 + (d + 1) * 27)) (r : hy_Rv G x b) {self : List Value → hy_M → Option hy_M} (hself : ∀ l, hy_Mv l G yX0_choose cX0_choose 8 (3 + d) (71 + d * 27) self) : ∀ n, hy_Sn G x 8 16 b (b_X0_choose_16 self  n) := by
  intro n
  induction n with
  | zero => exact hs_fail
  | succ n ih =>
    exact (hs_iload (pc := 16) X (by decide +kernel) (hs_aload_n (pc := 18) (q := 1) X (by decide +kernel) rfl (hs_getI (pc := 19) X fl_X0_37 (by decide +kernel) (hs_cge (pc := 22) (off := 28) (tgt := 50) X (by decide +kernel) (by decide) (hs_aload_n (pc := 25) (q := 0) X (by decide +kernel) rfl (hs_getR (pc := 26) X fl_X0_34 (by decide +kernel) (hs_iload (pc := 29) X (by decide +kernel) (hs_aload_n (pc := 31) (q := 0) X (by decide +kernel) rfl (hs_getR (pc := 32) X fl_X0_9 (by decide +kernel) (hs_aload_n (pc := 35) (q := 0) X (by decide +kernel) rfl (hs_getR (pc := 36) X fl_X0_22 (by decide +kernel) (hs_iload (pc := 39) X (by decide +kernel) (hs_iald (pc := 41) X (by decide +kernel) (hs_iald (pc := 42) X (by decide +kernel) (hs_iast (pc := 43) X (by decide +kernel) (hs_iinc (pc := 44) (n := 1) X (by decide +kernel) (by decide +kernel) (Nat.le_of_ble_eq_true rfl) (hs_goto (pc := 47) (off := (-31)) (tgt := 16) X (by decide +kernel) (by decide) (hs_mask ih)))))))))))))) (hs_vret (pc := 50) X r (by decide +kernel))))))
def b_X0_choose_151 (self : List Value → hy_M → Option hy_M) (k_67 : hy_C hy_M) : hy_C hy_M := (o_aload 0 (o_iload 6 (o_aload 1 (o_getR 6 4 (o_iload 2 (o_iald (o_ineg (o_valv 0 3 g_X0_addLoad (o_iinc 5 1 (o_mask [true, true, true, true, true, true, false, false] k_67))))))))))
set_option maxRecDepth 100000 in
set_option maxHeartbeats 4000000 in
theorem s_X0_choose_151 {G : hy_G} {x : hy_X} {b : hy_M} {d : Nat} (X : hy_Cx G x RX0 cX0_choose 8 (3 + (d + 1)) (71 + (d + 1) * 27)) (r : hy_Rv G x b) {self : List Value → hy_M → Option hy_M} (hself : ∀ l, hy_Mv l G yX0_choose cX0_choose 8 (3 + d) (71 + d * 27) self) {k_67 : hy_C hy_M} (hk_67 : hy_Sn G x 8 67 b k_67) : hy_Sn G x 8 151 b (b_X0_choose_151 self k_67) := by
  exact (hs_aload_n (pc := 151) (q := 0) X (by decide +kernel) rfl (hs_iload (pc := 152) X (by decide +kernel) (hs_aload_n (pc := 154) (q := 1) X (by decide +kernel) rfl (hs_getR (pc := 155) X fl_X0_100 (by decide +kernel) (hs_iload_n (pc := 158) (q := 2) X (by decide +kernel) rfl (hs_iald (pc := 159) X (by decide +kernel) (hs_ineg (pc := 160) X (by decide +kernel) (hs_valv (pc := 161) X (m_X0_addLoad (G := _)) yv_X0_addLoad ml_X0_103 (by decide +kernel) (by omega) (by omega) (hs_iinc (pc := 164) (n := 1) X (by decide +kernel) (by decide +kernel) (Nat.le_of_ble_eq_true rfl) (hs_goto (pc := 167) (off := (-100)) (tgt := 67) X (by decide +kernel) (by decide) (hs_mask hk_67)))))))))))
def b_X0_choose_67 (self : List Value → hy_M → Option hy_M) : Nat → hy_C hy_M
  | 0 => o_fail
  | n + 1 => (o_iload 5 (o_iload 4 (o_cgt o_vret (o_aload 0 (o_getR 0 0 (o_iload 5 (o_iald (o_istore 6 (o_iload 3 (o_iload 6 (o_cali 1 g_J6_bitCount_0f7a4 (o_i2 (fun a c => a + c) (o_istore 7 (o_iload 7 (o_aload 0 (o_getR 0 5 (o_iload 2 (o_push (.int 1) (o_i2 (fun a c => a + c) (o_iald (o_i2 (fun a c => a + c) (o_aload 0 (o_getI 0 6 (o_clt (o_aload 0 (o_getR 0 3 (o_iload 2 (o_iload 5 (o_iast (o_aload 0 (o_iload 6 (o_aload 1 (o_getR 6 4 (o_iload 2 (o_iald (o_valv 0 3 g_X0_addLoad (o_aload 0 (o_aload 1 (o_getR 6 10 (o_vali 0 2 g_X0_loadsFit (o_zeq (o_mask [true, true, true, true, true, true, true, false] (b_X0_choose_151 self (b_X0_choose_67 self  n))) (o_aload 0 (o_aload 1 (o_iload 2 (o_push (.int 1) (o_i2 (fun a c => a + c) (o_iload 7 (o_valv 0 4 self (o_mask [true, true, true, true, true, true, true, false] (b_X0_choose_151 self (b_X0_choose_67 self  n))))))))))))))))))))))))))) (o_iinc 5 1 (o_mask [true, true, true, true, true, true, false, false] (b_X0_choose_67 self  n)))))))))))))))))))))))))))
set_option maxRecDepth 100000 in
set_option maxHeartbeats 4000000 in
theorem s_X0_choose_67 {G : hy_G} {x : hy_X} {b : hy_M} {d : Nat} (X : hy_Cx G x RX0 cX0_choose 8 (3 + (d + 1)) (71 + (d + 1) * 27)) (r : hy_Rv G x b) {self : List Value → hy_M → Option hy_M} (hself : ∀ l, hy_Mv l G yX0_choose cX0_choose 8 (3 + d) (71 + d * 27) self) : ∀ n, hy_Sn G x 8 67 b (b_X0_choose_67 self  n) := by
  intro n
  induction n with
  | zero => exact hs_fail
  | succ n ih =>
    exact (hs_iload (pc := 67) X (by decide +kernel) (hs_iload (pc := 69) X (by decide +kernel) (hs_cgt (pc := 71) (off := 99) (tgt := 170) X (by decide +kernel) (by decide) (hs_vret (pc := 170) X r (by decide +kernel)) (hs_aload_n (pc := 74) (q := 0) X (by decide +kernel) rfl (hs_getR (pc := 75) X fl_X0_9 (by decide +kernel) (hs_iload (pc := 78) X (by decide +kernel) (hs_iald (pc := 80) X (by decide +kernel) (hs_istore (pc := 81) X (by decide +kernel) (Nat.le_of_ble_eq_true rfl) (hs_iload_n (pc := 83) (q := 3) X (by decide +kernel) rfl (hs_iload (pc := 84) X (by decide +kernel) (hs_cali (pc := 86) X (m_J6_bitCount_0f7a4 (G := _)) ys_J6_bitCount_0f7a4 ml_X0_71 (by decide +kernel) (by omega) (by omega) (hs_iadd (pc := 89) X (by decide +kernel) (hs_istore (pc := 90) X (by decide +kernel) (Nat.le_of_ble_eq_true rfl) (hs_iload (pc := 92) X (by decide +kernel) (hs_aload_n (pc := 94) (q := 0) X (by decide +kernel) rfl (hs_getR (pc := 95) X fl_X0_28 (by decide +kernel) (hs_iload_n (pc := 98) (q := 2) X (by decide +kernel) rfl (hs_iconst (pc := 99) (n := 1) X (by decide +kernel) (by decide +kernel) (hs_iadd (pc := 100) X (by decide +kernel) (hs_iald (pc := 101) X (by decide +kernel) (hs_iadd (pc := 102) X (by decide +kernel) (hs_aload_n (pc := 103) (q := 0) X (by decide +kernel) rfl (hs_getI (pc := 104) X fl_X0_31 (by decide +kernel) (hs_cge (pc := 107) (off := 57) (tgt := 164) X (by decide +kernel) (by decide) (hs_aload_n (pc := 110) (q := 0) X (by decide +kernel) rfl (hs_getR (pc := 111) X fl_X0_22 (by decide +kernel) (hs_iload_n (pc := 114) (q := 2) X (by decide +kernel) rfl (hs_iload (pc := 115) X (by decide +kernel) (hs_iast (pc := 117) X (by decide +kernel) (hs_aload_n (pc := 118) (q := 0) X (by decide +kernel) rfl (hs_iload (pc := 119) X (by decide +kernel) (hs_aload_n (pc := 121) (q := 1) X (by decide +kernel) rfl (hs_getR (pc := 122) X fl_X0_100 (by decide +kernel) (hs_iload_n (pc := 125) (q := 2) X (by decide +kernel) rfl (hs_iald (pc := 126) X (by decide +kernel) (hs_valv (pc := 127) X (m_X0_addLoad (G := _)) yv_X0_addLoad ml_X0_103 (by decide +kernel) (by omega) (by omega) (hs_aload_n (pc := 130) (q := 0) X (by decide +kernel) rfl (hs_aload_n (pc := 131) (q := 1) X (by decide +kernel) rfl (hs_getR (pc := 132) X fl_X0_106 (by decide +kernel) (hs_vali (pc := 135) X (m_X0_loadsFit (G := _)) yv_X0_loadsFit ml_X0_109 (by decide +kernel) (by omega) (by omega) (hs_zeq (pc := 138) (off := 13) (tgt := 151) X (by decide +kernel) (by decide) (hs_mask (s_X0_choose_151 X r hself ih)) (hs_aload_n (pc := 141) (q := 0) X (by decide +kernel) rfl (hs_aload_n (pc := 142) (q := 1) X (by decide +kernel) rfl (hs_iload_n (pc := 143) (q := 2) X (by decide +kernel) rfl (hs_iconst (pc := 144) (n := 1) X (by decide +kernel) (by decide +kernel) (hs_iadd (pc := 145) X (by decide +kernel) (hs_iload (pc := 146) X (by decide +kernel) (hs_valv (pc := 148) X hself yv_X0_choose ml_X0_57 (by decide +kernel) (by omega) (by omega) (hs_mask (s_X0_choose_151 X r hself ih)))))))))))))))))))))))))) (hs_iinc (pc := 164) (n := 1) X (by decide +kernel) (by decide +kernel) (Nat.le_of_ble_eq_true rfl) (hs_goto (pc := 167) (off := (-100)) (tgt := 67) X (by decide +kernel) (by decide) (hs_mask ih)))))))))))))))))))))))))))
def b_X0_choose_0 (self : List Value → hy_M → Option hy_M) : hy_C hy_M := (o_iload 2 (o_aload 1 (o_getI 6 0 (o_clt (o_aload 0 (o_aload 1 (o_iload 2 (o_vali 0 3 g_X0_highFor (o_istore 4 (o_aload 0 (o_aload 1 (o_iload 2 (o_vali 0 3 g_X0_lowFor (o_istore 5 (o_mask [true, true, true, true, true, true, false, false] (b_X0_choose_67 self  300)))))))))))) (o_aload 0 (o_iload 3 (o_putI 0 6 (o_push (.int 0) (o_istore 4 (o_mask [true, true, false, false, true, false, false, false] (b_X0_choose_16 self  300)))))))))))
set_option maxRecDepth 100000 in
set_option maxHeartbeats 4000000 in
theorem s_X0_choose_0 {G : hy_G} {x : hy_X} {b : hy_M} {d : Nat} (X : hy_Cx G x RX0 cX0_choose 8 (3 + (d + 1)) (71 + (d + 1) * 27)) (r : hy_Rv G x b) {self : List Value → hy_M → Option hy_M} (hself : ∀ l, hy_Mv l G yX0_choose cX0_choose 8 (3 + d) (71 + d * 27) self) : hy_Sn G x 8 0 b (b_X0_choose_0 self ) := by
  exact (hs_iload_n (pc := 0) (q := 2) X (by decide +kernel) rfl (hs_aload_n (pc := 1) (q := 1) X (by decide +kernel) rfl (hs_getI (pc := 2) X fl_X0_37 (by decide +kernel) (hs_clt (pc := 5) (off := 46) (tgt := 51) X (by decide +kernel) (by decide) (hs_aload_n (pc := 51) (q := 0) X (by decide +kernel) rfl (hs_aload_n (pc := 52) (q := 1) X (by decide +kernel) rfl (hs_iload_n (pc := 53) (q := 2) X (by decide +kernel) rfl (hs_vali (pc := 54) X (m_X0_highFor (G := _)) yv_X0_highFor ml_X0_94 (by decide +kernel) (by omega) (by omega) (hs_istore (pc := 57) X (by decide +kernel) (Nat.le_of_ble_eq_true rfl) (hs_aload_n (pc := 59) (q := 0) X (by decide +kernel) rfl (hs_aload_n (pc := 60) (q := 1) X (by decide +kernel) rfl (hs_iload_n (pc := 61) (q := 2) X (by decide +kernel) rfl (hs_vali (pc := 62) X (m_X0_lowFor (G := _)) yv_X0_lowFor ml_X0_97 (by decide +kernel) (by omega) (by omega) (hs_istore (pc := 65) X (by decide +kernel) (Nat.le_of_ble_eq_true rfl) (hs_mask (s_X0_choose_67 X r hself  300)))))))))))) (hs_aload_n (pc := 8) (q := 0) X (by decide +kernel) rfl (hs_iload_n (pc := 9) (q := 3) X (by decide +kernel) rfl (hs_putI (pc := 10) X fp_X0_31 (by decide +kernel) (hs_iconst (pc := 13) (n := 0) X (by decide +kernel) (by decide +kernel) (hs_istore (pc := 14) X (by decide +kernel) (Nat.le_of_ble_eq_true rfl) (hs_mask (s_X0_choose_16 X r hself  300)))))))))))
def gd_X0_choose : Nat → List Value → hy_M → Option hy_M
  | 0 => fun _ _ => none
  | d + 1 => hy_g 8 (b_X0_choose_0 (gd_X0_choose d))
theorem md_X0_choose {G : hy_G} : ∀ d l, hy_Mv l G yX0_choose cX0_choose 8 (3 + d) (71 + d * 27) (gd_X0_choose d)
  | 0 => fun l a D D' h => by cases h
  | d + 1 => hy_metv (y := yX0_choose) (by decide) (fun x b X r => s_X0_choose_0 (d := d) X r (md_X0_choose d))
def g_X0_choose : List Value → hy_M → Option hy_M := gd_X0_choose 10
theorem m_X0_choose {G : hy_G} : ∀ l, hy_Mv l G yX0_choose cX0_choose 8 13 341 g_X0_choose := md_X0_choose 10
def b_X0_findBest_80 : hy_C (Int32 × hy_M) := (o_aload 0 (o_getI 0 6 (o_push (.int 1000) (o_ceq (o_push (.int 0) <| o_zret) (o_push (.int 1) <| o_zret)))))
set_option maxRecDepth 100000 in
set_option maxHeartbeats 4000000 in
theorem s_X0_findBest_80 {G : hy_G} {x : hy_X} {b : Int32 × hy_M} (X : hy_Cx G x RX0 cX0_findBest 3 14 368) (r : hy_Ri G x b .boolean) : hy_Sn G x 3 80 b (b_X0_findBest_80 ) := by
  exact (hs_aload_n (pc := 80) (q := 0) X (by decide +kernel) rfl (hs_getI (pc := 81) X fl_X0_31 (by decide +kernel) (hs_sipush (pc := 84) (n := 1000) X (by decide +kernel) (by decide +kernel) (hs_ceq (pc := 87) (off := 7) (tgt := 94) X (by decide +kernel) (by decide) (hs_iconst (pc := 94) (n := 0) X (by decide +kernel) (by decide +kernel) (hs_zret (pc := 95) X r (by decide +kernel))) (hs_iconst (pc := 90) (n := 1) X (by decide +kernel) (by decide +kernel) (hs_goto (pc := 91) (off := 4) (tgt := 95) X (by decide +kernel) (by decide) (hs_zret (pc := 95) X r (by decide +kernel))))))))
def b_X0_findBest_36 : Nat → hy_C (Int32 × hy_M)
  | 0 => o_fail
  | n + 1 => (o_iload 2 (o_push (.int 3) (o_cgt (o_mask [true, false, false] (b_X0_findBest_80 )) (o_aload 0 (o_getI 0 6 (o_push (.int 1000) (o_ceq (o_aload 0 (o_aload 1 (o_getI 6 1 (o_push (.int 1) (o_iload 2 (o_i2 (fun a c => a <<< (c &&& 31)) (o_valv 0 3 g_X0_allowBelow (o_aload 0 (o_aload 1 (o_valv 0 2 g_X0_foresee (o_aload 0 (o_aload 1 (o_push (.int 0) (o_push (.int 0) (o_valv 0 4 g_X0_choose (o_iinc 2 1 (o_mask [true, true, true] (b_X0_findBest_36  n)))))))))))))))))) (o_mask [true, false, false] (b_X0_findBest_80 )))))))))
set_option maxRecDepth 100000 in
set_option maxHeartbeats 4000000 in
theorem s_X0_findBest_36 {G : hy_G} {x : hy_X} {b : Int32 × hy_M} (X : hy_Cx G x RX0 cX0_findBest 3 14 368) (r : hy_Ri G x b .boolean) : ∀ n, hy_Sn G x 3 36 b (b_X0_findBest_36  n) := by
  intro n
  induction n with
  | zero => exact hs_fail
  | succ n ih =>
    exact (hs_iload_n (pc := 36) (q := 2) X (by decide +kernel) rfl (hs_iconst (pc := 37) (n := 3) X (by decide +kernel) (by decide +kernel) (hs_cgt (pc := 38) (off := 42) (tgt := 80) X (by decide +kernel) (by decide) (hs_mask (s_X0_findBest_80 X r )) (hs_aload_n (pc := 41) (q := 0) X (by decide +kernel) rfl (hs_getI (pc := 42) X fl_X0_31 (by decide +kernel) (hs_sipush (pc := 45) (n := 1000) X (by decide +kernel) (by decide +kernel) (hs_cne (pc := 48) (off := 32) (tgt := 80) X (by decide +kernel) (by decide) (hs_aload_n (pc := 51) (q := 0) X (by decide +kernel) rfl (hs_aload_n (pc := 52) (q := 1) X (by decide +kernel) rfl (hs_getI (pc := 53) X fl_X0_46 (by decide +kernel) (hs_iconst (pc := 56) (n := 1) X (by decide +kernel) (by decide +kernel) (hs_iload_n (pc := 57) (q := 2) X (by decide +kernel) rfl (hs_ishl (pc := 58) X (by decide +kernel) (hs_valv (pc := 59) X (m_X0_allowBelow (G := _)) yv_X0_allowBelow ml_X0_49 (by decide +kernel) (Nat.le_of_ble_eq_true rfl) (Nat.le_of_ble_eq_true rfl) (hs_aload_n (pc := 62) (q := 0) X (by decide +kernel) rfl (hs_aload_n (pc := 63) (q := 1) X (by decide +kernel) rfl (hs_valv (pc := 64) X (m_X0_foresee (G := _)) yv_X0_foresee ml_X0_53 (by decide +kernel) (Nat.le_of_ble_eq_true rfl) (Nat.le_of_ble_eq_true rfl) (hs_aload_n (pc := 67) (q := 0) X (by decide +kernel) rfl (hs_aload_n (pc := 68) (q := 1) X (by decide +kernel) rfl (hs_iconst (pc := 69) (n := 0) X (by decide +kernel) (by decide +kernel) (hs_iconst (pc := 70) (n := 0) X (by decide +kernel) (by decide +kernel) (hs_valv (pc := 71) X (m_X0_choose (G := _)) yv_X0_choose ml_X0_57 (by decide +kernel) (Nat.le_of_ble_eq_true rfl) (Nat.le_of_ble_eq_true rfl) (hs_iinc (pc := 74) (n := 1) X (by decide +kernel) (by decide +kernel) (Nat.le_of_ble_eq_true rfl) (hs_goto (pc := 77) (off := (-41)) (tgt := 36) X (by decide +kernel) (by decide) (hs_mask ih)))))))))))))))))) (hs_mask (s_X0_findBest_80 X r )))))))))
def b_X0_findBest_2 : Nat → hy_C (Int32 × hy_M)
  | 0 => o_fail
  | n + 1 => (o_iload 2 (o_aload 1 (o_getI 6 0 (o_clt (o_aload 0 (o_getR 0 2 (o_iload 2 (o_aload 1 (o_iload 2 (o_vali 6 2 g_X7_chainOf (o_iast (o_iinc 2 1 (o_mask [true, true, true] (b_X0_findBest_2  n)))))))))) (o_aload 0 (o_push (.int 1000) (o_putI 0 6 (o_push (.int 0) (o_istore 2 (o_mask [true, true, true] (b_X0_findBest_36  300)))))))))))
set_option maxRecDepth 100000 in
set_option maxHeartbeats 4000000 in
theorem s_X0_findBest_2 {G : hy_G} {x : hy_X} {b : Int32 × hy_M} (X : hy_Cx G x RX0 cX0_findBest 3 14 368) (r : hy_Ri G x b .boolean) : ∀ n, hy_Sn G x 3 2 b (b_X0_findBest_2  n) := by
  intro n
  induction n with
  | zero => exact hs_fail
  | succ n ih =>
    exact (hs_iload_n (pc := 2) (q := 2) X (by decide +kernel) rfl (hs_aload_n (pc := 3) (q := 1) X (by decide +kernel) rfl (hs_getI (pc := 4) X fl_X0_37 (by decide +kernel) (hs_cge (pc := 7) (off := 20) (tgt := 27) X (by decide +kernel) (by decide) (hs_aload_n (pc := 10) (q := 0) X (by decide +kernel) rfl (hs_getR (pc := 11) X fl_X0_19 (by decide +kernel) (hs_iload_n (pc := 14) (q := 2) X (by decide +kernel) rfl (hs_aload_n (pc := 15) (q := 1) X (by decide +kernel) rfl (hs_iload_n (pc := 16) (q := 2) X (by decide +kernel) rfl (hs_vali (pc := 17) X (m_X7_chainOf (G := _)) yv_X7_chainOf ml_X0_42 (by decide +kernel) (Nat.le_of_ble_eq_true rfl) (Nat.le_of_ble_eq_true rfl) (hs_iast (pc := 20) X (by decide +kernel) (hs_iinc (pc := 21) (n := 1) X (by decide +kernel) (by decide +kernel) (Nat.le_of_ble_eq_true rfl) (hs_goto (pc := 24) (off := (-22)) (tgt := 2) X (by decide +kernel) (by decide) (hs_mask ih)))))))))) (hs_aload_n (pc := 27) (q := 0) X (by decide +kernel) rfl (hs_sipush (pc := 28) (n := 1000) X (by decide +kernel) (by decide +kernel) (hs_putI (pc := 31) X fp_X0_31 (by decide +kernel) (hs_iconst (pc := 34) (n := 0) X (by decide +kernel) (by decide +kernel) (hs_istore_n (pc := 35) (q := 2) X (by decide +kernel) rfl (Nat.le_of_ble_eq_true rfl) (hs_mask (s_X0_findBest_36 X r  300)))))))))))
def b_X0_findBest_0 : hy_C (Int32 × hy_M) := (o_push (.int 0) (o_istore 2 (o_mask [true, true, true] (b_X0_findBest_2  300))))
set_option maxRecDepth 100000 in
set_option maxHeartbeats 4000000 in
theorem s_X0_findBest_0 {G : hy_G} {x : hy_X} {b : Int32 × hy_M} (X : hy_Cx G x RX0 cX0_findBest 3 14 368) (r : hy_Ri G x b .boolean) : hy_Sn G x 3 0 b (b_X0_findBest_0 ) := by
  exact (hs_iconst (pc := 0) (n := 0) X (by decide +kernel) (by decide +kernel) (hs_istore_n (pc := 1) (q := 2) X (by decide +kernel) rfl (Nat.le_of_ble_eq_true rfl) (hs_mask (s_X0_findBest_2 X r  300))))
def g_X0_findBest : List Value → hy_M → Option (Int32 × hy_M) := hy_g 3 b_X0_findBest_0
theorem m_X0_findBest {G : hy_G} : ∀ l, hy_Mi l G yX0_findBest cX0_findBest 3 .boolean 14 368 g_X0_findBest := hy_meti (y := yX0_findBest) (by decide +kernel) (fun x b X r => s_X0_findBest_0 X r)
def b_X1_howMany_4 : Nat → hy_C (Int32 × hy_M)
  | 0 => o_fail
  | n + 1 => (o_iload 2 (o_push (.int 8) (o_clt (o_iload 0 (o_iload 2 (o_cali 2 g_X1_mayBe (o_zeq (o_iinc 2 1 (o_mask [true, true, true] (b_X1_howMany_4  n))) (o_iinc 1 1 (o_iinc 2 1 (o_mask [true, true, true] (b_X1_howMany_4  n)))))))) (o_iload 1 <| o_iret))))
set_option maxRecDepth 100000 in
set_option maxHeartbeats 4000000 in
theorem s_X1_howMany_4 {G : hy_G} {x : hy_X} {b : Int32 × hy_M} (X : hy_Cx G x RX1 cX1_howMany 3 2 42) (r : hy_Ri G x b .int) : ∀ n, hy_Sn G x 3 4 b (b_X1_howMany_4  n) := by
  intro n
  induction n with
  | zero => exact hs_fail
  | succ n ih =>
    exact (hs_iload_n (pc := 4) (q := 2) X (by decide +kernel) rfl (hs_bipush (pc := 5) (n := 8) X (by decide +kernel) (by decide +kernel) (hs_cge (pc := 7) (off := 20) (tgt := 27) X (by decide +kernel) (by decide) (hs_iload_n (pc := 10) (q := 0) X (by decide +kernel) rfl (hs_iload_n (pc := 11) (q := 2) X (by decide +kernel) rfl (hs_cali (pc := 12) X (m_X1_mayBe (G := _)) ys_X1_mayBe ml_X1_15 (by decide +kernel) (Nat.le_of_ble_eq_true rfl) (Nat.le_of_ble_eq_true rfl) (hs_zeq (pc := 15) (off := 6) (tgt := 21) X (by decide +kernel) (by decide) (hs_iinc (pc := 21) (n := 1) X (by decide +kernel) (by decide +kernel) (Nat.le_of_ble_eq_true rfl) (hs_goto (pc := 24) (off := (-20)) (tgt := 4) X (by decide +kernel) (by decide) (hs_mask ih))) (hs_iinc (pc := 18) (n := 1) X (by decide +kernel) (by decide +kernel) (Nat.le_of_ble_eq_true rfl) (hs_iinc (pc := 21) (n := 1) X (by decide +kernel) (by decide +kernel) (Nat.le_of_ble_eq_true rfl) (hs_goto (pc := 24) (off := (-20)) (tgt := 4) X (by decide +kernel) (by decide) (hs_mask ih)))))))) (hs_iload_n (pc := 27) (q := 1) X (by decide +kernel) rfl (hs_iret (pc := 28) X r (by decide +kernel))))))
def b_X1_howMany_0 : hy_C (Int32 × hy_M) := (o_push (.int 0) (o_istore 1 (o_push (.int 0) (o_istore 2 (o_mask [true, true, true] (b_X1_howMany_4  300))))))
set_option maxRecDepth 100000 in
set_option maxHeartbeats 4000000 in
theorem s_X1_howMany_0 {G : hy_G} {x : hy_X} {b : Int32 × hy_M} (X : hy_Cx G x RX1 cX1_howMany 3 2 42) (r : hy_Ri G x b .int) : hy_Sn G x 3 0 b (b_X1_howMany_0 ) := by
  exact (hs_iconst (pc := 0) (n := 0) X (by decide +kernel) (by decide +kernel) (hs_istore_n (pc := 1) (q := 1) X (by decide +kernel) rfl (Nat.le_of_ble_eq_true rfl) (hs_iconst (pc := 2) (n := 0) X (by decide +kernel) (by decide +kernel) (hs_istore_n (pc := 3) (q := 2) X (by decide +kernel) rfl (Nat.le_of_ble_eq_true rfl) (hs_mask (s_X1_howMany_4 X r  300))))))
def g_X1_howMany : List Value → hy_M → Option (Int32 × hy_M) := hy_g 3 b_X1_howMany_0
theorem m_X1_howMany {G : hy_G} : ∀ l, hy_Mi l G yX1_howMany cX1_howMany 3 .int 2 42 g_X1_howMany := hy_meti (y := yX1_howMany) (by decide +kernel) (fun x b X r => s_X1_howMany_0 X r)
def b_X1_codeOfRank_4 : Nat → hy_C (Int32 × hy_M)
  | 0 => o_fail
  | n + 1 => (o_iload 3 (o_push (.int 256) (o_clt (o_iload 0 (o_iload 3 (o_cali 2 g_X1_mayBe (o_zeq (o_iinc 3 1 (o_mask [true, true, true, true] (b_X1_codeOfRank_4  n))) (o_iload 2 (o_iload 1 (o_ceq (o_iload 3 <| o_iret) (o_iinc 2 1 (o_iinc 3 1 (o_mask [true, true, true, true] (b_X1_codeOfRank_4  n))))))))))) (o_push (.int 255) <| o_iret))))
set_option maxRecDepth 100000 in
set_option maxHeartbeats 4000000 in
theorem s_X1_codeOfRank_4 {G : hy_G} {x : hy_X} {b : Int32 × hy_M} (X : hy_Cx G x RX1 cX1_codeOfRank 4 2 42) (r : hy_Ri G x b .int) : ∀ n, hy_Sn G x 4 4 b (b_X1_codeOfRank_4  n) := by
  intro n
  induction n with
  | zero => exact hs_fail
  | succ n ih =>
    exact (hs_iload_n (pc := 4) (q := 3) X (by decide +kernel) rfl (hs_sipush (pc := 5) (n := 256) X (by decide +kernel) (by decide +kernel) (hs_cge (pc := 8) (off := 27) (tgt := 35) X (by decide +kernel) (by decide) (hs_iload_n (pc := 11) (q := 0) X (by decide +kernel) rfl (hs_iload_n (pc := 12) (q := 3) X (by decide +kernel) rfl (hs_cali (pc := 13) X (m_X1_mayBe (G := _)) ys_X1_mayBe ml_X1_15 (by decide +kernel) (Nat.le_of_ble_eq_true rfl) (Nat.le_of_ble_eq_true rfl) (hs_zeq (pc := 16) (off := 13) (tgt := 29) X (by decide +kernel) (by decide) (hs_iinc (pc := 29) (n := 1) X (by decide +kernel) (by decide +kernel) (Nat.le_of_ble_eq_true rfl) (hs_goto (pc := 32) (off := (-28)) (tgt := 4) X (by decide +kernel) (by decide) (hs_mask ih))) (hs_iload_n (pc := 19) (q := 2) X (by decide +kernel) rfl (hs_iload_n (pc := 20) (q := 1) X (by decide +kernel) rfl (hs_cne (pc := 21) (off := 5) (tgt := 26) X (by decide +kernel) (by decide) (hs_iload_n (pc := 24) (q := 3) X (by decide +kernel) rfl (hs_iret (pc := 25) X r (by decide +kernel))) (hs_iinc (pc := 26) (n := 1) X (by decide +kernel) (by decide +kernel) (Nat.le_of_ble_eq_true rfl) (hs_iinc (pc := 29) (n := 1) X (by decide +kernel) (by decide +kernel) (Nat.le_of_ble_eq_true rfl) (hs_goto (pc := 32) (off := (-28)) (tgt := 4) X (by decide +kernel) (by decide) (hs_mask ih))))))))))) (hs_sipush (pc := 35) (n := 255) X (by decide +kernel) (by decide +kernel) (hs_iret (pc := 38) X r (by decide +kernel))))))
def b_X1_codeOfRank_0 : hy_C (Int32 × hy_M) := (o_push (.int 0) (o_istore 2 (o_push (.int 0) (o_istore 3 (o_mask [true, true, true, true] (b_X1_codeOfRank_4  300))))))
set_option maxRecDepth 100000 in
set_option maxHeartbeats 4000000 in
theorem s_X1_codeOfRank_0 {G : hy_G} {x : hy_X} {b : Int32 × hy_M} (X : hy_Cx G x RX1 cX1_codeOfRank 4 2 42) (r : hy_Ri G x b .int) : hy_Sn G x 4 0 b (b_X1_codeOfRank_0 ) := by
  exact (hs_iconst (pc := 0) (n := 0) X (by decide +kernel) (by decide +kernel) (hs_istore_n (pc := 1) (q := 2) X (by decide +kernel) rfl (Nat.le_of_ble_eq_true rfl) (hs_iconst (pc := 2) (n := 0) X (by decide +kernel) (by decide +kernel) (hs_istore_n (pc := 3) (q := 3) X (by decide +kernel) rfl (Nat.le_of_ble_eq_true rfl) (hs_mask (s_X1_codeOfRank_4 X r  300))))))
def g_X1_codeOfRank : List Value → hy_M → Option (Int32 × hy_M) := hy_g 4 b_X1_codeOfRank_0
theorem m_X1_codeOfRank {G : hy_G} : ∀ l, hy_Mi l G yX1_codeOfRank cX1_codeOfRank 4 .int 2 42 g_X1_codeOfRank := hy_meti (y := yX1_codeOfRank) (by decide +kernel) (fun x b X r => s_X1_codeOfRank_0 X r)
def b_X1_widthOf_2 : Nat → hy_C (Int32 × hy_M)
  | 0 => o_fail
  | n + 1 => (o_iload 1 (o_push (.int 8) (o_clt (o_iload 0 (o_iload 1 (o_i2 (fun a c => a >>> (c &&& 31)) (o_zeq (o_iload 1 <| o_iret) (o_iinc 1 1 (o_mask [true, true] (b_X1_widthOf_2  n))))))) (o_iload 1 <| o_iret))))
set_option maxRecDepth 100000 in
set_option maxHeartbeats 4000000 in
theorem s_X1_widthOf_2 {G : hy_G} {x : hy_X} {b : Int32 × hy_M} (X : hy_Cx G x RX1 cX1_widthOf 2 0 0) (r : hy_Ri G x b .int) : ∀ n, hy_Sn G x 2 2 b (b_X1_widthOf_2  n) := by
  intro n
  induction n with
  | zero => exact hs_fail
  | succ n ih =>
    exact (hs_iload_n (pc := 2) (q := 1) X (by decide +kernel) rfl (hs_bipush (pc := 3) (n := 8) X (by decide +kernel) (by decide +kernel) (hs_cge (pc := 5) (off := 15) (tgt := 20) X (by decide +kernel) (by decide) (hs_iload_n (pc := 8) (q := 0) X (by decide +kernel) rfl (hs_iload_n (pc := 9) (q := 1) X (by decide +kernel) rfl (hs_ishr (pc := 10) X (by decide +kernel) (hs_zeq (pc := 11) (off := 9) (tgt := 20) X (by decide +kernel) (by decide) (hs_iload_n (pc := 20) (q := 1) X (by decide +kernel) rfl (hs_iret (pc := 21) X r (by decide +kernel))) (hs_iinc (pc := 14) (n := 1) X (by decide +kernel) (by decide +kernel) (Nat.le_of_ble_eq_true rfl) (hs_goto (pc := 17) (off := (-15)) (tgt := 2) X (by decide +kernel) (by decide) (hs_mask ih))))))) (hs_iload_n (pc := 20) (q := 1) X (by decide +kernel) rfl (hs_iret (pc := 21) X r (by decide +kernel))))))
def b_X1_widthOf_0 : hy_C (Int32 × hy_M) := (o_push (.int 0) (o_istore 1 (o_mask [true, true] (b_X1_widthOf_2  300))))
set_option maxRecDepth 100000 in
set_option maxHeartbeats 4000000 in
theorem s_X1_widthOf_0 {G : hy_G} {x : hy_X} {b : Int32 × hy_M} (X : hy_Cx G x RX1 cX1_widthOf 2 0 0) (r : hy_Ri G x b .int) : hy_Sn G x 2 0 b (b_X1_widthOf_0 ) := by
  exact (hs_iconst (pc := 0) (n := 0) X (by decide +kernel) (by decide +kernel) (hs_istore_n (pc := 1) (q := 1) X (by decide +kernel) rfl (Nat.le_of_ble_eq_true rfl) (hs_mask (s_X1_widthOf_2 X r  300))))
def g_X1_widthOf : List Value → hy_M → Option (Int32 × hy_M) := hy_g 2 b_X1_widthOf_0
theorem m_X1_widthOf {G : hy_G} : ∀ l, hy_Mi l G yX1_widthOf cX1_widthOf 2 .int 0 0 g_X1_widthOf := hy_meti (y := yX1_widthOf) (by decide +kernel) (fun x b X r => s_X1_widthOf_0 X r)
def b_X1_fewestFor_0 : hy_C (Int32 × hy_M) := (o_iload 1 (o_zeq (o_push (.int 0) <| o_iret) (o_iload 0 (o_iload 1 (o_push (.int 1) (o_i2 (fun a c => a - c) (o_cali 2 g_X1_codeOfRank (o_cali 1 g_X1_widthOf <| o_iret))))))))
set_option maxRecDepth 100000 in
set_option maxHeartbeats 4000000 in
theorem s_X1_fewestFor_0 {G : hy_G} {x : hy_X} {b : Int32 × hy_M} (X : hy_Cx G x RX1 cX1_fewestFor 2 3 65) (r : hy_Ri G x b .int) : hy_Sn G x 2 0 b (b_X1_fewestFor_0 ) := by
  exact (hs_iload_n (pc := 0) (q := 1) X (by decide +kernel) rfl (hs_zne (pc := 1) (off := 7) (tgt := 8) X (by decide +kernel) (by decide) (hs_iconst (pc := 4) (n := 0) X (by decide +kernel) (by decide +kernel) (hs_goto (pc := 5) (off := 13) (tgt := 18) X (by decide +kernel) (by decide) (hs_iret (pc := 18) X r (by decide +kernel)))) (hs_iload_n (pc := 8) (q := 0) X (by decide +kernel) rfl (hs_iload_n (pc := 9) (q := 1) X (by decide +kernel) rfl (hs_iconst (pc := 10) (n := 1) X (by decide +kernel) (by decide +kernel) (hs_isub (pc := 11) X (by decide +kernel) (hs_cali (pc := 12) X (m_X1_codeOfRank (G := _)) ys_X1_codeOfRank ml_X1_21 (by decide +kernel) (Nat.le_of_ble_eq_true rfl) (Nat.le_of_ble_eq_true rfl) (hs_cali (pc := 15) X (m_X1_widthOf (G := _)) ys_X1_widthOf ml_X1_25 (by decide +kernel) (Nat.le_of_ble_eq_true rfl) (Nat.le_of_ble_eq_true rfl) (hs_iret (pc := 18) X r (by decide +kernel))))))))))
def g_X1_fewestFor : List Value → hy_M → Option (Int32 × hy_M) := hy_g 2 b_X1_fewestFor_0
theorem m_X1_fewestFor {G : hy_G} : ∀ l, hy_Mi l G yX1_fewestFor cX1_fewestFor 2 .int 3 65 g_X1_fewestFor := hy_meti (y := yX1_fewestFor) (by decide +kernel) (fun x b X r => s_X1_fewestFor_0 X r)
def b_X2_outOf_0 : hy_C (Int32 × hy_M) := (o_push (.int 3) (o_iload 0 (o_i2 (fun a c => a + c) <| o_iret)))
set_option maxRecDepth 100000 in
set_option maxHeartbeats 4000000 in
theorem s_X2_outOf_0 {G : hy_G} {x : hy_X} {b : Int32 × hy_M} (X : hy_Cx G x RX2 cX2_outOf 1 0 0) (r : hy_Ri G x b .int) : hy_Sn G x 1 0 b (b_X2_outOf_0 ) := by
  exact (hs_iconst (pc := 0) (n := 3) X (by decide +kernel) (by decide +kernel) (hs_iload_n (pc := 1) (q := 0) X (by decide +kernel) rfl (hs_iadd (pc := 2) X (by decide +kernel) (hs_iret (pc := 3) X r (by decide +kernel)))))
def g_X2_outOf : List Value → hy_M → Option (Int32 × hy_M) := hy_g 1 b_X2_outOf_0
theorem m_X2_outOf {G : hy_G} : ∀ l, hy_Mi l G yX2_outOf cX2_outOf 1 .int 0 0 g_X2_outOf := hy_meti (y := yX2_outOf) (by decide +kernel) (fun x b X r => s_X2_outOf_0 X r)
def b_X2_empty_2 : Nat → hy_C hy_M
  | 0 => o_fail
  | n + 1 => (o_iload 1 (o_push (.int 5) (o_clt (o_aload 0 (o_getR 1 1 (o_iload 1 (o_push (.int 0) (o_iast (o_iinc 1 1 (o_mask [true, true] (b_X2_empty_2  n)))))))) o_vret)))
set_option maxRecDepth 100000 in
set_option maxHeartbeats 4000000 in
theorem s_X2_empty_2 {G : hy_G} {x : hy_X} {b : hy_M} (X : hy_Cx G x RX2 cX2_empty 2 0 0) (r : hy_Rv G x b) : ∀ n, hy_Sn G x 2 2 b (b_X2_empty_2  n) := by
  intro n
  induction n with
  | zero => exact hs_fail
  | succ n ih =>
    exact (hs_iload_n (pc := 2) (q := 1) X (by decide +kernel) rfl (hs_iconst (pc := 3) (n := 5) X (by decide +kernel) (by decide +kernel) (hs_cge (pc := 4) (off := 16) (tgt := 20) X (by decide +kernel) (by decide) (hs_aload_n (pc := 7) (q := 0) X (by decide +kernel) rfl (hs_getR (pc := 8) X fl_X2_16 (by decide +kernel) (hs_iload_n (pc := 11) (q := 1) X (by decide +kernel) rfl (hs_iconst (pc := 12) (n := 0) X (by decide +kernel) (by decide +kernel) (hs_iast (pc := 13) X (by decide +kernel) (hs_iinc (pc := 14) (n := 1) X (by decide +kernel) (by decide +kernel) (Nat.le_of_ble_eq_true rfl) (hs_goto (pc := 17) (off := (-15)) (tgt := 2) X (by decide +kernel) (by decide) (hs_mask ih)))))))) (hs_vret (pc := 20) X r (by decide +kernel)))))
def b_X2_empty_0 : hy_C hy_M := (o_push (.int 0) (o_istore 1 (o_mask [true, true] (b_X2_empty_2  300))))
set_option maxRecDepth 100000 in
set_option maxHeartbeats 4000000 in
theorem s_X2_empty_0 {G : hy_G} {x : hy_X} {b : hy_M} (X : hy_Cx G x RX2 cX2_empty 2 0 0) (r : hy_Rv G x b) : hy_Sn G x 2 0 b (b_X2_empty_0 ) := by
  exact (hs_iconst (pc := 0) (n := 0) X (by decide +kernel) (by decide +kernel) (hs_istore_n (pc := 1) (q := 1) X (by decide +kernel) rfl (Nat.le_of_ble_eq_true rfl) (hs_mask (s_X2_empty_2 X r  300))))
def g_X2_empty : List Value → hy_M → Option hy_M := hy_g 2 b_X2_empty_0
theorem m_X2_empty {G : hy_G} : ∀ l, hy_Mv l G yX2_empty cX2_empty 2 0 0 g_X2_empty := hy_metv (y := yX2_empty) (by decide +kernel) (fun x b X r => s_X2_empty_0 X r)
def b_X2_become_2 : Nat → hy_C hy_M
  | 0 => o_fail
  | n + 1 => (o_iload 2 (o_push (.int 5) (o_clt (o_aload 0 (o_getR 1 1 (o_iload 2 (o_aload 1 (o_getR 1 1 (o_iload 2 (o_iald (o_iast (o_aload 1 (o_getR 1 0 (o_iload 2 (o_aald (o_push (.int 0) (o_aload 0 (o_getR 1 0 (o_iload 2 (o_aald (o_push (.int 0) (o_aload 0 (o_getR 1 1 (o_iload 2 (o_iald (o_acpy (o_iinc 2 1 (o_mask [true, true, true] (b_X2_become_2  n)))))))))))))))))))))))))) o_vret)))
set_option maxRecDepth 100000 in
set_option maxHeartbeats 4000000 in
theorem s_X2_become_2 {G : hy_G} {x : hy_X} {b : hy_M} (X : hy_Cx G x RX2 cX2_become 3 1 26) (r : hy_Rv G x b) : ∀ n, hy_Sn G x 3 2 b (b_X2_become_2  n) := by
  intro n
  induction n with
  | zero => exact hs_fail
  | succ n ih =>
    exact (hs_iload_n (pc := 2) (q := 2) X (by decide +kernel) rfl (hs_iconst (pc := 3) (n := 5) X (by decide +kernel) (by decide +kernel) (hs_cge (pc := 4) (off := 44) (tgt := 48) X (by decide +kernel) (by decide) (hs_aload_n (pc := 7) (q := 0) X (by decide +kernel) rfl (hs_getR (pc := 8) X fl_X2_16 (by decide +kernel) (hs_iload_n (pc := 11) (q := 2) X (by decide +kernel) rfl (hs_aload_n (pc := 12) (q := 1) X (by decide +kernel) rfl (hs_getR (pc := 13) X fl_X2_16 (by decide +kernel) (hs_iload_n (pc := 16) (q := 2) X (by decide +kernel) rfl (hs_iald (pc := 17) X (by decide +kernel) (hs_iast (pc := 18) X (by decide +kernel) (hs_aload_n (pc := 19) (q := 1) X (by decide +kernel) rfl (hs_getR (pc := 20) X fl_X2_13 (by decide +kernel) (hs_iload_n (pc := 23) (q := 2) X (by decide +kernel) rfl (hs_aald (pc := 24) X (by decide +kernel) (hs_iconst (pc := 25) (n := 0) X (by decide +kernel) (by decide +kernel) (hs_aload_n (pc := 26) (q := 0) X (by decide +kernel) rfl (hs_getR (pc := 27) X fl_X2_13 (by decide +kernel) (hs_iload_n (pc := 30) (q := 2) X (by decide +kernel) rfl (hs_aald (pc := 31) X (by decide +kernel) (hs_iconst (pc := 32) (n := 0) X (by decide +kernel) (by decide +kernel) (hs_aload_n (pc := 33) (q := 0) X (by decide +kernel) rfl (hs_getR (pc := 34) X fl_X2_16 (by decide +kernel) (hs_iload_n (pc := 37) (q := 2) X (by decide +kernel) rfl (hs_iald (pc := 38) X (by decide +kernel) (hs_acpy (pc := 39) X ml_X2_20 acp_n acp_s acp_i (Nat.le_of_ble_eq_true rfl) (Nat.le_of_ble_eq_true rfl) (by decide +kernel) (hs_iinc (pc := 42) (n := 1) X (by decide +kernel) (by decide +kernel) (Nat.le_of_ble_eq_true rfl) (hs_goto (pc := 45) (off := (-43)) (tgt := 2) X (by decide +kernel) (by decide) (hs_mask ih)))))))))))))))))))))))))) (hs_vret (pc := 48) X r (by decide +kernel)))))
def b_X2_become_0 : hy_C hy_M := (o_push (.int 0) (o_istore 2 (o_mask [true, true, true] (b_X2_become_2  300))))
set_option maxRecDepth 100000 in
set_option maxHeartbeats 4000000 in
theorem s_X2_become_0 {G : hy_G} {x : hy_X} {b : hy_M} (X : hy_Cx G x RX2 cX2_become 3 1 26) (r : hy_Rv G x b) : hy_Sn G x 3 0 b (b_X2_become_0 ) := by
  exact (hs_iconst (pc := 0) (n := 0) X (by decide +kernel) (by decide +kernel) (hs_istore_n (pc := 1) (q := 2) X (by decide +kernel) rfl (Nat.le_of_ble_eq_true rfl) (hs_mask (s_X2_become_2 X r  300))))
def g_X2_become : List Value → hy_M → Option hy_M := hy_g 3 b_X2_become_0
theorem m_X2_become {G : hy_G} : ∀ l, hy_Mv l G yX2_become cX2_become 3 1 26 g_X2_become := hy_metv (y := yX2_become) (by decide +kernel) (fun x b X r => s_X2_become_0 X r)
def b_X2_append_0 : hy_C hy_M := (o_iload 1 (o_zlt o_vret (o_iload 1 (o_push (.int 5) (o_clt (o_aload 0 (o_getR 1 1 (o_iload 1 (o_iald (o_push (.int 8) (o_clt (o_aload 0 (o_getR 1 0 (o_iload 1 (o_aald (o_aload 0 (o_getR 1 1 (o_iload 1 (o_iald (o_iload 2 (o_iast (o_aload 0 (o_getR 1 1 (o_iload 1 (o_dup2 (o_iald (o_push (.int 1) (o_i2 (fun a c => a + c) (o_iast <| o_vret)))))))))))))))))) o_vret)))))) o_vret)))))
set_option maxRecDepth 100000 in
set_option maxHeartbeats 4000000 in
theorem s_X2_append_0 {G : hy_G} {x : hy_X} {b : hy_M} (X : hy_Cx G x RX2 cX2_append 3 0 0) (r : hy_Rv G x b) : hy_Sn G x 3 0 b (b_X2_append_0 ) := by
  exact (hs_iload_n (pc := 0) (q := 1) X (by decide +kernel) rfl (hs_zlt (pc := 1) (off := 43) (tgt := 44) X (by decide +kernel) (by decide) (hs_vret (pc := 44) X r (by decide +kernel)) (hs_iload_n (pc := 4) (q := 1) X (by decide +kernel) rfl (hs_iconst (pc := 5) (n := 5) X (by decide +kernel) (by decide +kernel) (hs_cge (pc := 6) (off := 38) (tgt := 44) X (by decide +kernel) (by decide) (hs_aload_n (pc := 9) (q := 0) X (by decide +kernel) rfl (hs_getR (pc := 10) X fl_X2_16 (by decide +kernel) (hs_iload_n (pc := 13) (q := 1) X (by decide +kernel) rfl (hs_iald (pc := 14) X (by decide +kernel) (hs_bipush (pc := 15) (n := 8) X (by decide +kernel) (by decide +kernel) (hs_cge (pc := 17) (off := 27) (tgt := 44) X (by decide +kernel) (by decide) (hs_aload_n (pc := 20) (q := 0) X (by decide +kernel) rfl (hs_getR (pc := 21) X fl_X2_13 (by decide +kernel) (hs_iload_n (pc := 24) (q := 1) X (by decide +kernel) rfl (hs_aald (pc := 25) X (by decide +kernel) (hs_aload_n (pc := 26) (q := 0) X (by decide +kernel) rfl (hs_getR (pc := 27) X fl_X2_16 (by decide +kernel) (hs_iload_n (pc := 30) (q := 1) X (by decide +kernel) rfl (hs_iald (pc := 31) X (by decide +kernel) (hs_iload_n (pc := 32) (q := 2) X (by decide +kernel) rfl (hs_iast (pc := 33) X (by decide +kernel) (hs_aload_n (pc := 34) (q := 0) X (by decide +kernel) rfl (hs_getR (pc := 35) X fl_X2_16 (by decide +kernel) (hs_iload_n (pc := 38) (q := 1) X (by decide +kernel) rfl (hs_dup2 (pc := 39) X (by decide +kernel) (hs_iald (pc := 40) X (by decide +kernel) (hs_iconst (pc := 41) (n := 1) X (by decide +kernel) (by decide +kernel) (hs_iadd (pc := 42) X (by decide +kernel) (hs_iast (pc := 43) X (by decide +kernel) (hs_vret (pc := 44) X r (by decide +kernel)))))))))))))))))))) (hs_vret (pc := 44) X r (by decide +kernel)))))))) (hs_vret (pc := 44) X r (by decide +kernel)))))))
def g_X2_append : List Value → hy_M → Option hy_M := hy_g 3 b_X2_append_0
theorem m_X2_append {G : hy_G} : ∀ l, hy_Mv l G yX2_append cX2_append 3 0 0 g_X2_append := hy_metv (y := yX2_append) (by decide +kernel) (fun x b X r => s_X2_append_0 X r)
def b_X2_wagonAt_0 : hy_C (Int32 × hy_M) := (o_iload 2 (o_zlt (o_push (.int (-1)) <| o_iret) (o_iload 2 (o_aload 0 (o_getR 1 1 (o_iload 1 (o_iald (o_clt (o_aload 0 (o_getR 1 0 (o_iload 1 (o_aald (o_iload 2 (o_iald <| o_iret)))))) (o_push (.int (-1)) <| o_iret)))))))))
set_option maxRecDepth 100000 in
set_option maxHeartbeats 4000000 in
theorem s_X2_wagonAt_0 {G : hy_G} {x : hy_X} {b : Int32 × hy_M} (X : hy_Cx G x RX2 cX2_wagonAt 3 0 0) (r : hy_Ri G x b .int) : hy_Sn G x 3 0 b (b_X2_wagonAt_0 ) := by
  exact (hs_iload_n (pc := 0) (q := 2) X (by decide +kernel) rfl (hs_zlt (pc := 1) (off := 24) (tgt := 25) X (by decide +kernel) (by decide) (hs_iconst (pc := 25) (n := (-1)) X (by decide +kernel) (by decide +kernel) (hs_iret (pc := 26) X r (by decide +kernel))) (hs_iload_n (pc := 4) (q := 2) X (by decide +kernel) rfl (hs_aload_n (pc := 5) (q := 0) X (by decide +kernel) rfl (hs_getR (pc := 6) X fl_X2_16 (by decide +kernel) (hs_iload_n (pc := 9) (q := 1) X (by decide +kernel) rfl (hs_iald (pc := 10) X (by decide +kernel) (hs_cge (pc := 11) (off := 14) (tgt := 25) X (by decide +kernel) (by decide) (hs_aload_n (pc := 14) (q := 0) X (by decide +kernel) rfl (hs_getR (pc := 15) X fl_X2_13 (by decide +kernel) (hs_iload_n (pc := 18) (q := 1) X (by decide +kernel) rfl (hs_aald (pc := 19) X (by decide +kernel) (hs_iload_n (pc := 20) (q := 2) X (by decide +kernel) rfl (hs_iald (pc := 21) X (by decide +kernel) (hs_goto (pc := 22) (off := 4) (tgt := 26) X (by decide +kernel) (by decide) (hs_iret (pc := 26) X r (by decide +kernel))))))))) (hs_iconst (pc := 25) (n := (-1)) X (by decide +kernel) (by decide +kernel) (hs_iret (pc := 26) X r (by decide +kernel)))))))))))
def g_X2_wagonAt : List Value → hy_M → Option (Int32 × hy_M) := hy_g 3 b_X2_wagonAt_0
theorem m_X2_wagonAt {G : hy_G} : ∀ l, hy_Mi l G yX2_wagonAt cX2_wagonAt 3 .int 0 0 g_X2_wagonAt := hy_meti (y := yX2_wagonAt) (by decide +kernel) (fun x b X r => s_X2_wagonAt_0 X r)
def b_X2_laneOf_9 (k_2 : hy_C (Int32 × hy_M)) : Nat → hy_C (Int32 × hy_M)
  | 0 => o_fail
  | n + 1 => (o_iload 3 (o_aload 0 (o_getR 1 1 (o_iload 2 (o_iald (o_clt (o_aload 0 (o_getR 1 0 (o_iload 2 (o_aald (o_iload 3 (o_iald (o_iload 1 (o_ceq (o_iload 2 <| o_iret) (o_iinc 3 1 (o_mask [true, true, true, true] (b_X2_laneOf_9 k_2 n))))))))))) (o_iinc 2 1 (o_mask [true, true, true, false] k_2))))))))
set_option maxRecDepth 100000 in
set_option maxHeartbeats 4000000 in
theorem s_X2_laneOf_9 {G : hy_G} {x : hy_X} {b : Int32 × hy_M} (X : hy_Cx G x RX2 cX2_laneOf 4 0 0) (r : hy_Ri G x b .int) {k_2 : hy_C (Int32 × hy_M)} (hk_2 : hy_Sn G x 4 2 b k_2) : ∀ n, hy_Sn G x 4 9 b (b_X2_laneOf_9 k_2 n) := by
  intro n
  induction n with
  | zero => exact hs_fail
  | succ n ih =>
    exact (hs_iload_n (pc := 9) (q := 3) X (by decide +kernel) rfl (hs_aload_n (pc := 10) (q := 0) X (by decide +kernel) rfl (hs_getR (pc := 11) X fl_X2_16 (by decide +kernel) (hs_iload_n (pc := 14) (q := 2) X (by decide +kernel) rfl (hs_iald (pc := 15) X (by decide +kernel) (hs_cge (pc := 16) (off := 23) (tgt := 39) X (by decide +kernel) (by decide) (hs_aload_n (pc := 19) (q := 0) X (by decide +kernel) rfl (hs_getR (pc := 20) X fl_X2_13 (by decide +kernel) (hs_iload_n (pc := 23) (q := 2) X (by decide +kernel) rfl (hs_aald (pc := 24) X (by decide +kernel) (hs_iload_n (pc := 25) (q := 3) X (by decide +kernel) rfl (hs_iald (pc := 26) X (by decide +kernel) (hs_iload_n (pc := 27) (q := 1) X (by decide +kernel) rfl (hs_cne (pc := 28) (off := 5) (tgt := 33) X (by decide +kernel) (by decide) (hs_iload_n (pc := 31) (q := 2) X (by decide +kernel) rfl (hs_iret (pc := 32) X r (by decide +kernel))) (hs_iinc (pc := 33) (n := 1) X (by decide +kernel) (by decide +kernel) (Nat.le_of_ble_eq_true rfl) (hs_goto (pc := 36) (off := (-27)) (tgt := 9) X (by decide +kernel) (by decide) (hs_mask ih))))))))))) (hs_iinc (pc := 39) (n := 1) X (by decide +kernel) (by decide +kernel) (Nat.le_of_ble_eq_true rfl) (hs_goto (pc := 42) (off := (-40)) (tgt := 2) X (by decide +kernel) (by decide) (hs_mask hk_2)))))))))
def b_X2_laneOf_2 : Nat → hy_C (Int32 × hy_M)
  | 0 => o_fail
  | n + 1 => (o_iload 2 (o_push (.int 5) (o_clt (o_push (.int 0) (o_istore 3 (o_mask [true, true, true, true] (b_X2_laneOf_9 (b_X2_laneOf_2  n) 300)))) (o_push (.int (-1)) <| o_iret))))
set_option maxRecDepth 100000 in
set_option maxHeartbeats 4000000 in
theorem s_X2_laneOf_2 {G : hy_G} {x : hy_X} {b : Int32 × hy_M} (X : hy_Cx G x RX2 cX2_laneOf 4 0 0) (r : hy_Ri G x b .int) : ∀ n, hy_Sn G x 4 2 b (b_X2_laneOf_2  n) := by
  intro n
  induction n with
  | zero => exact hs_fail
  | succ n ih =>
    exact (hs_iload_n (pc := 2) (q := 2) X (by decide +kernel) rfl (hs_iconst (pc := 3) (n := 5) X (by decide +kernel) (by decide +kernel) (hs_cge (pc := 4) (off := 41) (tgt := 45) X (by decide +kernel) (by decide) (hs_iconst (pc := 7) (n := 0) X (by decide +kernel) (by decide +kernel) (hs_istore_n (pc := 8) (q := 3) X (by decide +kernel) rfl (Nat.le_of_ble_eq_true rfl) (hs_mask (s_X2_laneOf_9 X r ih 300)))) (hs_iconst (pc := 45) (n := (-1)) X (by decide +kernel) (by decide +kernel) (hs_iret (pc := 46) X r (by decide +kernel))))))
def b_X2_laneOf_0 : hy_C (Int32 × hy_M) := (o_push (.int 0) (o_istore 2 (o_mask [true, true, true, false] (b_X2_laneOf_2  300))))
set_option maxRecDepth 100000 in
set_option maxHeartbeats 4000000 in
theorem s_X2_laneOf_0 {G : hy_G} {x : hy_X} {b : Int32 × hy_M} (X : hy_Cx G x RX2 cX2_laneOf 4 0 0) (r : hy_Ri G x b .int) : hy_Sn G x 4 0 b (b_X2_laneOf_0 ) := by
  exact (hs_iconst (pc := 0) (n := 0) X (by decide +kernel) (by decide +kernel) (hs_istore_n (pc := 1) (q := 2) X (by decide +kernel) rfl (Nat.le_of_ble_eq_true rfl) (hs_mask (s_X2_laneOf_2 X r  300))))
def g_X2_laneOf : List Value → hy_M → Option (Int32 × hy_M) := hy_g 4 b_X2_laneOf_0
theorem m_X2_laneOf {G : hy_G} : ∀ l, hy_Mi l G yX2_laneOf cX2_laneOf 4 .int 0 0 g_X2_laneOf := hy_meti (y := yX2_laneOf) (by decide +kernel) (fun x b X r => s_X2_laneOf_0 X r)
end
