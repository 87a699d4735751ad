section
-- ===== PART A: goes FIRST, ahead of the names: the tables' words, and 'selects' of the private methods out of them =====
/-- a private method of a class that the tables say can be made, by its rows of tables_1 -/
def lw_okq (q : MethodName × Nat) : Prop := (q.1.cls ≠ "java/lang/invoke/MethodHandle" ∧ q.1.cls ≠ "java/lang/invoke/VarHandle") ∧ Cond.instantiable q.1.cls q.2 ∈ tables_1 ∧ Cond.privateMethod q.1 ∈ tables_1 ∧ Cond.instanceMethod q.1 ∈ tables_1
theorem lw_p0 : lw_okq (⟨"HumpYard$Tape", "firstLetterFrom", "(I)I"⟩, 2) := ⟨⟨by decide +kernel, by decide +kernel⟩, List.mem_of_getElem? (i := 106) (by decide +kernel), List.mem_of_getElem? (i := 269) (by decide +kernel), List.mem_of_getElem? (i := 270) (by decide +kernel)⟩
theorem lw_p1 : lw_okq (⟨"HumpYard$Yard", "addWanted", "(II)V"⟩, 12) := ⟨⟨by decide +kernel, by decide +kernel⟩, List.mem_of_getElem? (i := 23) (by decide +kernel), List.mem_of_getElem? (i := 277) (by decide +kernel), List.mem_of_getElem? (i := 278) (by decide +kernel)⟩
theorem lw_p2 : lw_okq (⟨"HumpYard$Yard", "isCut", "(II[I)Z"⟩, 12) := ⟨⟨by decide +kernel, by decide +kernel⟩, List.mem_of_getElem? (i := 23) (by decide +kernel), List.mem_of_getElem? (i := 331) (by decide +kernel), List.mem_of_getElem? (i := 332) (by decide +kernel)⟩
theorem lw_p3 : lw_okq (⟨"HumpYard", "whereIs", "(I)I"⟩, 10) := ⟨⟨by decide +kernel, by decide +kernel⟩, List.mem_of_getElem? (i := 15) (by decide +kernel), List.mem_of_getElem? (i := 339) (by decide +kernel), List.mem_of_getElem? (i := 340) (by decide +kernel)⟩
theorem lw_p4 : lw_okq (⟨"HumpYard", "fewestNow", "()I"⟩, 10) := ⟨⟨by decide +kernel, by decide +kernel⟩, List.mem_of_getElem? (i := 15) (by decide +kernel), List.mem_of_getElem? (i := 348) (by decide +kernel), List.mem_of_getElem? (i := 349) (by decide +kernel)⟩
theorem lw_p5 : lw_okq (⟨"HumpYard", "presortedCode", "(I)I"⟩, 10) := ⟨⟨by decide +kernel, by decide +kernel⟩, List.mem_of_getElem? (i := 15) (by decide +kernel), List.mem_of_getElem? (i := 377) (by decide +kernel), List.mem_of_getElem? (i := 378) (by decide +kernel)⟩
theorem lw_p6 : lw_okq (⟨"HumpYard$Binder", "allowBelow", "(II)V"⟩, 8) := ⟨⟨by decide +kernel, by decide +kernel⟩, List.mem_of_getElem? (i := 153) (by decide +kernel), List.mem_of_getElem? (i := 457) (by decide +kernel), List.mem_of_getElem? (i := 458) (by decide +kernel)⟩
theorem lw_p7 : lw_okq (⟨"HumpYard$Binder", "foresee", "(LHumpYard$Yard;)V"⟩, 8) := ⟨⟨by decide +kernel, by decide +kernel⟩, List.mem_of_getElem? (i := 153) (by decide +kernel), List.mem_of_getElem? (i := 462) (by decide +kernel), List.mem_of_getElem? (i := 463) (by decide +kernel)⟩
theorem lw_p8 : lw_okq (⟨"HumpYard$Binder", "highest", "(LHumpYard$Yard;I)I"⟩, 8) := ⟨⟨by decide +kernel, by decide +kernel⟩, List.mem_of_getElem? (i := 153) (by decide +kernel), List.mem_of_getElem? (i := 466) (by decide +kernel), List.mem_of_getElem? (i := 467) (by decide +kernel)⟩
theorem lw_p9 : lw_okq (⟨"HumpYard$Binder", "choose", "(LHumpYard$Yard;II)V"⟩, 8) := ⟨⟨by decide +kernel, by decide +kernel⟩, List.mem_of_getElem? (i := 153) (by decide +kernel), List.mem_of_getElem? (i := 475) (by decide +kernel), List.mem_of_getElem? (i := 476) (by decide +kernel)⟩
theorem lw_p10 : lw_okq (⟨"HumpYard$Binder", "highFor", "(LHumpYard$Yard;I)I"⟩, 8) := ⟨⟨by decide +kernel, by decide +kernel⟩, List.mem_of_getElem? (i := 153) (by decide +kernel), List.mem_of_getElem? (i := 479) (by decide +kernel), List.mem_of_getElem? (i := 480) (by decide +kernel)⟩
theorem lw_p11 : lw_okq (⟨"HumpYard$Binder", "lowFor", "(LHumpYard$Yard;I)I"⟩, 8) := ⟨⟨by decide +kernel, by decide +kernel⟩, List.mem_of_getElem? (i := 153) (by decide +kernel), List.mem_of_getElem? (i := 483) (by decide +kernel), List.mem_of_getElem? (i := 484) (by decide +kernel)⟩
theorem lw_p12 : lw_okq (⟨"HumpYard$Binder", "addLoad", "(II)V"⟩, 8) := ⟨⟨by decide +kernel, by decide +kernel⟩, List.mem_of_getElem? (i := 153) (by decide +kernel), List.mem_of_getElem? (i := 487) (by decide +kernel), List.mem_of_getElem? (i := 488) (by decide +kernel)⟩
theorem lw_p13 : lw_okq (⟨"HumpYard$Binder", "loadsFit", "([I)Z"⟩, 8) := ⟨⟨by decide +kernel, by decide +kernel⟩, List.mem_of_getElem? (i := 153) (by decide +kernel), List.mem_of_getElem? (i := 491) (by decide +kernel), List.mem_of_getElem? (i := 492) (by decide +kernel)⟩
theorem lw_p14 : lw_okq (⟨"HumpYard", "replayed", "(I)I"⟩, 10) := ⟨⟨by decide +kernel, by decide +kernel⟩, List.mem_of_getElem? (i := 15) (by decide +kernel), List.mem_of_getElem? (i := 574) (by decide +kernel), List.mem_of_getElem? (i := 575) (by decide +kernel)⟩
theorem lw_p15 : lw_okq (⟨"HumpYard", "wrongInThought", "(I)I"⟩, 10) := ⟨⟨by decide +kernel, by decide +kernel⟩, List.mem_of_getElem? (i := 15) (by decide +kernel), List.mem_of_getElem? (i := 582) (by decide +kernel), List.mem_of_getElem? (i := 583) (by decide +kernel)⟩
def lw_privs_1 : List (MethodName × Nat) := [(⟨"HumpYard$Tape", "firstLetterFrom", "(I)I"⟩, 2), (⟨"HumpYard$Yard", "addWanted", "(II)V"⟩, 12), (⟨"HumpYard$Yard", "isCut", "(II[I)Z"⟩, 12), (⟨"HumpYard", "whereIs", "(I)I"⟩, 10), (⟨"HumpYard", "fewestNow", "()I"⟩, 10), (⟨"HumpYard", "presortedCode", "(I)I"⟩, 10), (⟨"HumpYard$Binder", "allowBelow", "(II)V"⟩, 8), (⟨"HumpYard$Binder", "foresee", "(LHumpYard$Yard;)V"⟩, 8), (⟨"HumpYard$Binder", "highest", "(LHumpYard$Yard;I)I"⟩, 8), (⟨"HumpYard$Binder", "choose", "(LHumpYard$Yard;II)V"⟩, 8), (⟨"HumpYard$Binder", "highFor", "(LHumpYard$Yard;I)I"⟩, 8), (⟨"HumpYard$Binder", "lowFor", "(LHumpYard$Yard;I)I"⟩, 8), (⟨"HumpYard$Binder", "addLoad", "(II)V"⟩, 8), (⟨"HumpYard$Binder", "loadsFit", "([I)Z"⟩, 8), (⟨"HumpYard", "replayed", "(I)I"⟩, 10), (⟨"HumpYard", "wrongInThought", "(I)I"⟩, 10)]
theorem lw_r1 : ∀ q ∈ lw_privs_1, lw_okq q := List.forall_mem_cons.mpr ⟨lw_p0, List.forall_mem_cons.mpr ⟨lw_p1, List.forall_mem_cons.mpr ⟨lw_p2, List.forall_mem_cons.mpr ⟨lw_p3, List.forall_mem_cons.mpr ⟨lw_p4, List.forall_mem_cons.mpr ⟨lw_p5, List.forall_mem_cons.mpr ⟨lw_p6, List.forall_mem_cons.mpr ⟨lw_p7, List.forall_mem_cons.mpr ⟨lw_p8, List.forall_mem_cons.mpr ⟨lw_p9, List.forall_mem_cons.mpr ⟨lw_p10, List.forall_mem_cons.mpr ⟨lw_p11, List.forall_mem_cons.mpr ⟨lw_p12, List.forall_mem_cons.mpr ⟨lw_p13, List.forall_mem_cons.mpr ⟨lw_p14, List.forall_mem_cons.mpr ⟨lw_p15, fun _ h => absurd h List.not_mem_nil⟩⟩⟩⟩⟩⟩⟩⟩⟩⟩⟩⟩⟩⟩⟩⟩
theorem lw_p16 : lw_okq (⟨"HumpYard", "spellPull", "(I)V"⟩, 10) := ⟨⟨by decide +kernel, by decide +kernel⟩, List.mem_of_getElem? (i := 15) (by decide +kernel), List.mem_of_getElem? (i := 601) (by decide +kernel), List.mem_of_getElem? (i := 602) (by decide +kernel)⟩
theorem lw_p17 : lw_okq (⟨"HumpYard$Renumbering", "moveTo", "(III)V"⟩, 5) := ⟨⟨by decide +kernel, by decide +kernel⟩, List.mem_of_getElem? (i := 185) (by decide +kernel), List.mem_of_getElem? (i := 619) (by decide +kernel), List.mem_of_getElem? (i := 620) (by decide +kernel)⟩
theorem lw_p18 : lw_okq (⟨"HumpYard", "tellsOut", "(II)Z"⟩, 10) := ⟨⟨by decide +kernel, by decide +kernel⟩, List.mem_of_getElem? (i := 15) (by decide +kernel), List.mem_of_getElem? (i := 654) (by decide +kernel), List.mem_of_getElem? (i := 655) (by decide +kernel)⟩
theorem lw_p19 : lw_okq (⟨"HumpYardModel", "yardFault", "()I"⟩, 20) := ⟨⟨by decide +kernel, by decide +kernel⟩, List.mem_of_getElem? (i := 714) (by decide +kernel), List.mem_of_getElem? (i := 794) (by decide +kernel), List.mem_of_getElem? (i := 795) (by decide +kernel)⟩
theorem lw_p20 : lw_okq (⟨"HumpYardModel", "clears", "()V"⟩, 20) := ⟨⟨by decide +kernel, by decide +kernel⟩, List.mem_of_getElem? (i := 714) (by decide +kernel), List.mem_of_getElem? (i := 805) (by decide +kernel), List.mem_of_getElem? (i := 806) (by decide +kernel)⟩
theorem lw_p21 : lw_okq (⟨"HumpYardModel", "isWagon", "(I)Z"⟩, 20) := ⟨⟨by decide +kernel, by decide +kernel⟩, List.mem_of_getElem? (i := 714) (by decide +kernel), List.mem_of_getElem? (i := 819) (by decide +kernel), List.mem_of_getElem? (i := 820) (by decide +kernel)⟩
theorem lw_p22 : lw_okq (⟨"HumpYardModel", "placeOf", "(I)I"⟩, 20) := ⟨⟨by decide +kernel, by decide +kernel⟩, List.mem_of_getElem? (i := 714) (by decide +kernel), List.mem_of_getElem? (i := 841) (by decide +kernel), List.mem_of_getElem? (i := 842) (by decide +kernel)⟩
theorem lw_p23 : lw_okq (⟨"HumpYardModel", "wantedAt", "(II)I"⟩, 20) := ⟨⟨by decide +kernel, by decide +kernel⟩, List.mem_of_getElem? (i := 714) (by decide +kernel), List.mem_of_getElem? (i := 845) (by decide +kernel), List.mem_of_getElem? (i := 846) (by decide +kernel)⟩
theorem lw_p24 : lw_okq (⟨"HumpYardModel", "chainOf", "(I)I"⟩, 20) := ⟨⟨by decide +kernel, by decide +kernel⟩, List.mem_of_getElem? (i := 714) (by decide +kernel), List.mem_of_getElem? (i := 849) (by decide +kernel), List.mem_of_getElem? (i := 850) (by decide +kernel)⟩
theorem lw_p25 : lw_okq (⟨"HumpYardModel", "whereIs", "(I)I"⟩, 20) := ⟨⟨by decide +kernel, by decide +kernel⟩, List.mem_of_getElem? (i := 714) (by decide +kernel), List.mem_of_getElem? (i := 853) (by decide +kernel), List.mem_of_getElem? (i := 854) (by decide +kernel)⟩
theorem lw_p26 : lw_okq (⟨"HumpYardModel", "fewestNow", "()I"⟩, 20) := ⟨⟨by decide +kernel, by decide +kernel⟩, List.mem_of_getElem? (i := 714) (by decide +kernel), List.mem_of_getElem? (i := 857) (by decide +kernel), List.mem_of_getElem? (i := 858) (by decide +kernel)⟩
theorem lw_p27 : lw_okq (⟨"HumpYardModel", "asTheyAre", "()V"⟩, 20) := ⟨⟨by decide +kernel, by decide +kernel⟩, List.mem_of_getElem? (i := 714) (by decide +kernel), List.mem_of_getElem? (i := 861) (by decide +kernel), List.mem_of_getElem? (i := 862) (by decide +kernel)⟩
theorem lw_p28 : lw_okq (⟨"HumpYardModel", "need", "()I"⟩, 20) := ⟨⟨by decide +kernel, by decide +kernel⟩, List.mem_of_getElem? (i := 714) (by decide +kernel), List.mem_of_getElem? (i := 865) (by decide +kernel), List.mem_of_getElem? (i := 866) (by decide +kernel)⟩
theorem lw_p29 : lw_okq (⟨"HumpYardModel", "chainsOf", "(I)I"⟩, 20) := ⟨⟨by decide +kernel, by decide +kernel⟩, List.mem_of_getElem? (i := 714) (by decide +kernel), List.mem_of_getElem? (i := 869) (by decide +kernel), List.mem_of_getElem? (i := 870) (by decide +kernel)⟩
theorem lw_p30 : lw_okq (⟨"HumpYardModel", "fewestFor", "(I)I"⟩, 20) := ⟨⟨by decide +kernel, by decide +kernel⟩, List.mem_of_getElem? (i := 714) (by decide +kernel), List.mem_of_getElem? (i := 873) (by decide +kernel), List.mem_of_getElem? (i := 874) (by decide +kernel)⟩
theorem lw_p31 : lw_okq (⟨"HumpYardModel", "codeOf", "(I)I"⟩, 20) := ⟨⟨by decide +kernel, by decide +kernel⟩, List.mem_of_getElem? (i := 714) (by decide +kernel), List.mem_of_getElem? (i := 880) (by decide +kernel), List.mem_of_getElem? (i := 881) (by decide +kernel)⟩
def lw_privs_2 : List (MethodName × Nat) := [(⟨"HumpYard", "spellPull", "(I)V"⟩, 10), (⟨"HumpYard$Renumbering", "moveTo", "(III)V"⟩, 5), (⟨"HumpYard", "tellsOut", "(II)Z"⟩, 10), (⟨"HumpYardModel", "yardFault", "()I"⟩, 20), (⟨"HumpYardModel", "clears", "()V"⟩, 20), (⟨"HumpYardModel", "isWagon", "(I)Z"⟩, 20), (⟨"HumpYardModel", "placeOf", "(I)I"⟩, 20), (⟨"HumpYardModel", "wantedAt", "(II)I"⟩, 20), (⟨"HumpYardModel", "chainOf", "(I)I"⟩, 20), (⟨"HumpYardModel", "whereIs", "(I)I"⟩, 20), (⟨"HumpYardModel", "fewestNow", "()I"⟩, 20), (⟨"HumpYardModel", "asTheyAre", "()V"⟩, 20), (⟨"HumpYardModel", "need", "()I"⟩, 20), (⟨"HumpYardModel", "chainsOf", "(I)I"⟩, 20), (⟨"HumpYardModel", "fewestFor", "(I)I"⟩, 20), (⟨"HumpYardModel", "codeOf", "(I)I"⟩, 20)]
theorem lw_r2 : ∀ q ∈ lw_privs_2, lw_okq q := List.forall_mem_cons.mpr ⟨lw_p16, List.forall_mem_cons.mpr ⟨lw_p17, List.forall_mem_cons.mpr ⟨lw_p18, List.forall_mem_cons.mpr ⟨lw_p19, List.forall_mem_cons.mpr ⟨lw_p20, List.forall_mem_cons.mpr ⟨lw_p21, List.forall_mem_cons.mpr ⟨lw_p22, List.forall_mem_cons.mpr ⟨lw_p23, List.forall_mem_cons.mpr ⟨lw_p24, List.forall_mem_cons.mpr ⟨lw_p25, List.forall_mem_cons.mpr ⟨lw_p26, List.forall_mem_cons.mpr ⟨lw_p27, List.forall_mem_cons.mpr ⟨lw_p28, List.forall_mem_cons.mpr ⟨lw_p29, List.forall_mem_cons.mpr ⟨lw_p30, List.forall_mem_cons.mpr ⟨lw_p31, fun _ h => absurd h List.not_mem_nil⟩⟩⟩⟩⟩⟩⟩⟩⟩⟩⟩⟩⟩⟩⟩⟩
theorem lw_p32 : lw_okq (⟨"HumpYardModel", "lengthsOn", "(I)I"⟩, 20) := ⟨⟨by decide +kernel, by decide +kernel⟩, List.mem_of_getElem? (i := 714) (by decide +kernel), List.mem_of_getElem? (i := 896) (by decide +kernel), List.mem_of_getElem? (i := 897) (by decide +kernel)⟩
theorem lw_p33 : lw_okq (⟨"HumpYardModel", "loadOf", "(I)I"⟩, 20) := ⟨⟨by decide +kernel, by decide +kernel⟩, List.mem_of_getElem? (i := 714) (by decide +kernel), List.mem_of_getElem? (i := 900) (by decide +kernel), List.mem_of_getElem? (i := 901) (by decide +kernel)⟩
theorem lw_p34 : lw_okq (⟨"HumpYardModel", "mayAll", "()I"⟩, 20) := ⟨⟨by decide +kernel, by decide +kernel⟩, List.mem_of_getElem? (i := 714) (by decide +kernel), List.mem_of_getElem? (i := 913) (by decide +kernel), List.mem_of_getElem? (i := 914) (by decide +kernel)⟩
theorem lw_p35 : lw_okq (⟨"HumpYardModel", "stepsNow", "()I"⟩, 20) := ⟨⟨by decide +kernel, by decide +kernel⟩, List.mem_of_getElem? (i := 714) (by decide +kernel), List.mem_of_getElem? (i := 922) (by decide +kernel), List.mem_of_getElem? (i := 923) (by decide +kernel)⟩
theorem lw_p36 : lw_okq (⟨"HumpYardModel", "notRight", "()I"⟩, 20) := ⟨⟨by decide +kernel, by decide +kernel⟩, List.mem_of_getElem? (i := 714) (by decide +kernel), List.mem_of_getElem? (i := 933) (by decide +kernel), List.mem_of_getElem? (i := 934) (by decide +kernel)⟩
theorem lw_p37 : lw_okq (⟨"HumpYardModel", "mayAllCodes", "()Z"⟩, 20) := ⟨⟨by decide +kernel, by decide +kernel⟩, List.mem_of_getElem? (i := 714) (by decide +kernel), List.mem_of_getElem? (i := 937) (by decide +kernel), List.mem_of_getElem? (i := 938) (by decide +kernel)⟩
theorem lw_p38 : lw_okq (⟨"HumpYardModel", "tooLoaded", "()I"⟩, 20) := ⟨⟨by decide +kernel, by decide +kernel⟩, List.mem_of_getElem? (i := 714) (by decide +kernel), List.mem_of_getElem? (i := 941) (by decide +kernel), List.mem_of_getElem? (i := 942) (by decide +kernel)⟩
theorem lw_p39 : lw_okq (⟨"HumpYardModel", "rollsNow", "()I"⟩, 20) := ⟨⟨by decide +kernel, by decide +kernel⟩, List.mem_of_getElem? (i := 714) (by decide +kernel), List.mem_of_getElem? (i := 945) (by decide +kernel), List.mem_of_getElem? (i := 946) (by decide +kernel)⟩
theorem lw_p40 : lw_okq (⟨"HumpYardModel", "findBounded", "()V"⟩, 20) := ⟨⟨by decide +kernel, by decide +kernel⟩, List.mem_of_getElem? (i := 714) (by decide +kernel), List.mem_of_getElem? (i := 953) (by decide +kernel), List.mem_of_getElem? (i := 954) (by decide +kernel)⟩
theorem lw_p41 : lw_okq (⟨"HumpYardModel", "orders", "()V"⟩, 20) := ⟨⟨by decide +kernel, by decide +kernel⟩, List.mem_of_getElem? (i := 714) (by decide +kernel), List.mem_of_getElem? (i := 957) (by decide +kernel), List.mem_of_getElem? (i := 958) (by decide +kernel)⟩
theorem lw_p42 : lw_okq (⟨"HumpYardModel", "isBest", "()V"⟩, 20) := ⟨⟨by decide +kernel, by decide +kernel⟩, List.mem_of_getElem? (i := 714) (by decide +kernel), List.mem_of_getElem? (i := 961) (by decide +kernel), List.mem_of_getElem? (i := 962) (by decide +kernel)⟩
theorem lw_p43 : lw_okq (⟨"HumpYardModel", "goesOn", "(I)Z"⟩, 20) := ⟨⟨by decide +kernel, by decide +kernel⟩, List.mem_of_getElem? (i := 714) (by decide +kernel), List.mem_of_getElem? (i := 965) (by decide +kernel), List.mem_of_getElem? (i := 966) (by decide +kernel)⟩
theorem lw_p44 : lw_okq (⟨"HumpYardModel", "loads", "(II)V"⟩, 20) := ⟨⟨by decide +kernel, by decide +kernel⟩, List.mem_of_getElem? (i := 714) (by decide +kernel), List.mem_of_getElem? (i := 969) (by decide +kernel), List.mem_of_getElem? (i := 970) (by decide +kernel)⟩
theorem lw_p45 : lw_okq (⟨"HumpYardModel", "isRoomy", "()Z"⟩, 20) := ⟨⟨by decide +kernel, by decide +kernel⟩, List.mem_of_getElem? (i := 714) (by decide +kernel), List.mem_of_getElem? (i := 973) (by decide +kernel), List.mem_of_getElem? (i := 974) (by decide +kernel)⟩
theorem lw_p46 : lw_okq (⟨"HumpYardModel", "isHopeless", "(I)Z"⟩, 20) := ⟨⟨by decide +kernel, by decide +kernel⟩, List.mem_of_getElem? (i := 714) (by decide +kernel), List.mem_of_getElem? (i := 977) (by decide +kernel), List.mem_of_getElem? (i := 978) (by decide +kernel)⟩
theorem lw_p47 : lw_okq (⟨"HumpYardModel", "lowAt", "(I)I"⟩, 20) := ⟨⟨by decide +kernel, by decide +kernel⟩, List.mem_of_getElem? (i := 714) (by decide +kernel), List.mem_of_getElem? (i := 981) (by decide +kernel), List.mem_of_getElem? (i := 982) (by decide +kernel)⟩
def lw_privs_3 : List (MethodName × Nat) := [(⟨"HumpYardModel", "lengthsOn", "(I)I"⟩, 20), (⟨"HumpYardModel", "loadOf", "(I)I"⟩, 20), (⟨"HumpYardModel", "mayAll", "()I"⟩, 20), (⟨"HumpYardModel", "stepsNow", "()I"⟩, 20), (⟨"HumpYardModel", "notRight", "()I"⟩, 20), (⟨"HumpYardModel", "mayAllCodes", "()Z"⟩, 20), (⟨"HumpYardModel", "tooLoaded", "()I"⟩, 20), (⟨"HumpYardModel", "rollsNow", "()I"⟩, 20), (⟨"HumpYardModel", "findBounded", "()V"⟩, 20), (⟨"HumpYardModel", "orders", "()V"⟩, 20), (⟨"HumpYardModel", "isBest", "()V"⟩, 20), (⟨"HumpYardModel", "goesOn", "(I)Z"⟩, 20), (⟨"HumpYardModel", "loads", "(II)V"⟩, 20), (⟨"HumpYardModel", "isRoomy", "()Z"⟩, 20), (⟨"HumpYardModel", "isHopeless", "(I)Z"⟩, 20), (⟨"HumpYardModel", "lowAt", "(I)I"⟩, 20)]
theorem lw_r3 : ∀ q ∈ lw_privs_3, lw_okq q := List.forall_mem_cons.mpr ⟨lw_p32, List.forall_mem_cons.mpr ⟨lw_p33, List.forall_mem_cons.mpr ⟨lw_p34, List.forall_mem_cons.mpr ⟨lw_p35, List.forall_mem_cons.mpr ⟨lw_p36, List.forall_mem_cons.mpr ⟨lw_p37, List.forall_mem_cons.mpr ⟨lw_p38, List.forall_mem_cons.mpr ⟨lw_p39, List.forall_mem_cons.mpr ⟨lw_p40, List.forall_mem_cons.mpr ⟨lw_p41, List.forall_mem_cons.mpr ⟨lw_p42, List.forall_mem_cons.mpr ⟨lw_p43, List.forall_mem_cons.mpr ⟨lw_p44, List.forall_mem_cons.mpr ⟨lw_p45, List.forall_mem_cons.mpr ⟨lw_p46, List.forall_mem_cons.mpr ⟨lw_p47, fun _ h => absurd h List.not_mem_nil⟩⟩⟩⟩⟩⟩⟩⟩⟩⟩⟩⟩⟩⟩⟩⟩
theorem lw_p48 : lw_okq (⟨"HumpYardModel", "isBetter", "()Z"⟩, 20) := ⟨⟨by decide +kernel, by decide +kernel⟩, List.mem_of_getElem? (i := 714) (by decide +kernel), List.mem_of_getElem? (i := 985) (by decide +kernel), List.mem_of_getElem? (i := 986) (by decide +kernel)⟩
theorem lw_p49 : lw_okq (⟨"HumpYardModel", "copies", "([I[I)V"⟩, 20) := ⟨⟨by decide +kernel, by decide +kernel⟩, List.mem_of_getElem? (i := 714) (by decide +kernel), List.mem_of_getElem? (i := 1008) (by decide +kernel), List.mem_of_getElem? (i := 1009) (by decide +kernel)⟩
theorem lw_p50 : lw_okq (⟨"HumpYardModel", "humps", "()V"⟩, 20) := ⟨⟨by decide +kernel, by decide +kernel⟩, List.mem_of_getElem? (i := 714) (by decide +kernel), List.mem_of_getElem? (i := 1012) (by decide +kernel), List.mem_of_getElem? (i := 1013) (by decide +kernel)⟩
theorem lw_p51 : lw_okq (⟨"HumpYardModel", "rolls", "(II)V"⟩, 20) := ⟨⟨by decide +kernel, by decide +kernel⟩, List.mem_of_getElem? (i := 714) (by decide +kernel), List.mem_of_getElem? (i := 1016) (by decide +kernel), List.mem_of_getElem? (i := 1017) (by decide +kernel)⟩
theorem lw_p52 : lw_okq (⟨"HumpYardModel", "says", "(I)V"⟩, 20) := ⟨⟨by decide +kernel, by decide +kernel⟩, List.mem_of_getElem? (i := 714) (by decide +kernel), List.mem_of_getElem? (i := 1020) (by decide +kernel), List.mem_of_getElem? (i := 1021) (by decide +kernel)⟩
theorem lw_p53 : lw_okq (⟨"HumpYardModel", "isOver", "()Z"⟩, 20) := ⟨⟨by decide +kernel, by decide +kernel⟩, List.mem_of_getElem? (i := 714) (by decide +kernel), List.mem_of_getElem? (i := 1024) (by decide +kernel), List.mem_of_getElem? (i := 1025) (by decide +kernel)⟩
theorem lw_p54 : lw_okq (⟨"HumpYardModel", "outs", "()I"⟩, 20) := ⟨⟨by decide +kernel, by decide +kernel⟩, List.mem_of_getElem? (i := 714) (by decide +kernel), List.mem_of_getElem? (i := 1028) (by decide +kernel), List.mem_of_getElem? (i := 1029) (by decide +kernel)⟩
theorem lw_p55 : lw_okq (⟨"HumpYardModel", "pulls", "(I)V"⟩, 20) := ⟨⟨by decide +kernel, by decide +kernel⟩, List.mem_of_getElem? (i := 714) (by decide +kernel), List.mem_of_getElem? (i := 1036) (by decide +kernel), List.mem_of_getElem? (i := 1037) (by decide +kernel)⟩
theorem lw_p56 : lw_okq (⟨"HumpYardModel", "wrongOf", "(I)I"⟩, 20) := ⟨⟨by decide +kernel, by decide +kernel⟩, List.mem_of_getElem? (i := 714) (by decide +kernel), List.mem_of_getElem? (i := 1052) (by decide +kernel), List.mem_of_getElem? (i := 1053) (by decide +kernel)⟩
theorem lw_p57 : lw_okq (⟨"HumpYardModel", "pullsFault", "()I"⟩, 20) := ⟨⟨by decide +kernel, by decide +kernel⟩, List.mem_of_getElem? (i := 714) (by decide +kernel), List.mem_of_getElem? (i := 1061) (by decide +kernel), List.mem_of_getElem? (i := 1062) (by decide +kernel)⟩
theorem lw_p58 : lw_okq (⟨"HumpYardModel", "replayed", "(II)I"⟩, 20) := ⟨⟨by decide +kernel, by decide +kernel⟩, List.mem_of_getElem? (i := 714) (by decide +kernel), List.mem_of_getElem? (i := 1066) (by decide +kernel), List.mem_of_getElem? (i := 1067) (by decide +kernel)⟩
theorem lw_p59 : lw_okq (⟨"HumpYardModel", "wholeRun", "()V"⟩, 20) := ⟨⟨by decide +kernel, by decide +kernel⟩, List.mem_of_getElem? (i := 714) (by decide +kernel), List.mem_of_getElem? (i := 1074) (by decide +kernel), List.mem_of_getElem? (i := 1075) (by decide +kernel)⟩
theorem lw_p60 : lw_okq (⟨"HumpYardModel", "moves", "(II)V"⟩, 20) := ⟨⟨by decide +kernel, by decide +kernel⟩, List.mem_of_getElem? (i := 714) (by decide +kernel), List.mem_of_getElem? (i := 1086) (by decide +kernel), List.mem_of_getElem? (i := 1087) (by decide +kernel)⟩
theorem lw_p61 : lw_okq (⟨"HumpYardModel", "draws", "(I)V"⟩, 20) := ⟨⟨by decide +kernel, by decide +kernel⟩, List.mem_of_getElem? (i := 714) (by decide +kernel), List.mem_of_getElem? (i := 1094) (by decide +kernel), List.mem_of_getElem? (i := 1095) (by decide +kernel)⟩
theorem lw_p62 : lw_okq (⟨"HumpYardModel", "isSeen", "(II)Z"⟩, 20) := ⟨⟨by decide +kernel, by decide +kernel⟩, List.mem_of_getElem? (i := 714) (by decide +kernel), List.mem_of_getElem? (i := 1112) (by decide +kernel), List.mem_of_getElem? (i := 1113) (by decide +kernel)⟩
theorem lw_p63 : lw_okq (⟨"HumpYardModel", "judged", "()I"⟩, 20) := ⟨⟨by decide +kernel, by decide +kernel⟩, List.mem_of_getElem? (i := 714) (by decide +kernel), List.mem_of_getElem? (i := 1120) (by decide +kernel), List.mem_of_getElem? (i := 1121) (by decide +kernel)⟩
def lw_privs_4 : List (MethodName × Nat) := [(⟨"HumpYardModel", "isBetter", "()Z"⟩, 20), (⟨"HumpYardModel", "copies", "([I[I)V"⟩, 20), (⟨"HumpYardModel", "humps", "()V"⟩, 20), (⟨"HumpYardModel", "rolls", "(II)V"⟩, 20), (⟨"HumpYardModel", "says", "(I)V"⟩, 20), (⟨"HumpYardModel", "isOver", "()Z"⟩, 20), (⟨"HumpYardModel", "outs", "()I"⟩, 20), (⟨"HumpYardModel", "pulls", "(I)V"⟩, 20), (⟨"HumpYardModel", "wrongOf", "(I)I"⟩, 20), (⟨"HumpYardModel", "pullsFault", "()I"⟩, 20), (⟨"HumpYardModel", "replayed", "(II)I"⟩, 20), (⟨"HumpYardModel", "wholeRun", "()V"⟩, 20), (⟨"HumpYardModel", "moves", "(II)V"⟩, 20), (⟨"HumpYardModel", "draws", "(I)V"⟩, 20), (⟨"HumpYardModel", "isSeen", "(II)Z"⟩, 20), (⟨"HumpYardModel", "judged", "()I"⟩, 20)]
theorem lw_r4 : ∀ q ∈ lw_privs_4, lw_okq q := List.forall_mem_cons.mpr ⟨lw_p48, List.forall_mem_cons.mpr ⟨lw_p49, List.forall_mem_cons.mpr ⟨lw_p50, List.forall_mem_cons.mpr ⟨lw_p51, List.forall_mem_cons.mpr ⟨lw_p52, List.forall_mem_cons.mpr ⟨lw_p53, List.forall_mem_cons.mpr ⟨lw_p54, List.forall_mem_cons.mpr ⟨lw_p55, List.forall_mem_cons.mpr ⟨lw_p56, List.forall_mem_cons.mpr ⟨lw_p57, List.forall_mem_cons.mpr ⟨lw_p58, List.forall_mem_cons.mpr ⟨lw_p59, List.forall_mem_cons.mpr ⟨lw_p60, List.forall_mem_cons.mpr ⟨lw_p61, List.forall_mem_cons.mpr ⟨lw_p62, List.forall_mem_cons.mpr ⟨lw_p63, fun _ h => absurd h List.not_mem_nil⟩⟩⟩⟩⟩⟩⟩⟩⟩⟩⟩⟩⟩⟩⟩⟩
theorem lw_p64 : lw_okq (⟨"HumpYardModel", "lying", "()I"⟩, 20) := ⟨⟨by decide +kernel, by decide +kernel⟩, List.mem_of_getElem? (i := 714) (by decide +kernel), List.mem_of_getElem? (i := 1152) (by decide +kernel), List.mem_of_getElem? (i := 1153) (by decide +kernel)⟩
def lw_privs_5 : List (MethodName × Nat) := [(⟨"HumpYardModel", "lying", "()I"⟩, 20)]
theorem lw_r5 : ∀ q ∈ lw_privs_5, lw_okq q := List.forall_mem_cons.mpr ⟨lw_p64, fun _ h => absurd h List.not_mem_nil⟩
def lw_privs : List (MethodName × Nat) := lw_privs_1 ++ (lw_privs_2 ++ (lw_privs_3 ++ (lw_privs_4 ++ (lw_privs_5))))
def lw_tbl : List Cond := k2_sels lw_privs ++ tables_1
theorem lw_privs_ok : ∀ q ∈ lw_privs, lw_okq q := by
  show ∀ q ∈ lw_privs_1 ++ (lw_privs_2 ++ (lw_privs_3 ++ (lw_privs_4 ++ (lw_privs_5)))), lw_okq q
  exact List.forall_mem_append.mpr ⟨lw_r1, List.forall_mem_append.mpr ⟨lw_r2, List.forall_mem_append.mpr ⟨lw_r3, List.forall_mem_append.mpr ⟨lw_r4, lw_r5⟩⟩⟩⟩
-- ===== end of PART A; then your names; then what follows =====
/-! ===== BEGIN words of one list among another's, by their places ===== -/
theorem goodIn_r {big : List Cond} (ws : List Cond) (ps : List Nat) (hp : ws = ps.filterMap (fun i => big[i]?)) (h : ws.all goodWord = true) : GoodIn big ws := by
  intro w hw
  have h1 := List.all_eq_true.mp h w hw
  rw [hp] at hw
  obtain ⟨i, -, hi⟩ := List.mem_filterMap.mp hw
  have hm : w ∈ big := by first | exact List.mem_of_getElem? hi | exact List.getElem?_mem hi
  exact ⟨hm, good_of_word h1⟩
theorem goodIn_app {big a b : List Cond} (ha : GoodIn big a) (hb : GoodIn big b) : GoodIn big (a ++ b) := fun w h => (List.mem_append.mp h).elim (ha w) (hb w)
theorem goodIn_ca {big a b : List Cond} {c : Cond} (ha : GoodIn big (c :: a)) (hb : GoodIn big b) : GoodIn big (c :: (a ++ b)) := fun w h => (List.mem_cons.mp h).elim (fun e => ha w (List.mem_cons.mpr (Or.inl e))) (fun h => (List.mem_append.mp h).elim (fun h => ha w (List.mem_cons.mpr (Or.inr h))) (hb w))
theorem goodIn_sub {big ws : List Cond} (hm : ∀ w ∈ ws, w ∈ big) (h : ws.all goodWord = true) : GoodIn big ws := fun w hw => ⟨hm w hw, good_of_word (List.all_eq_true.mp h w hw)⟩
/-! ===== END ===== -/

def RX0 : String := "HumpYard$Binder"
def TX0 : u_T := fun k => match k with
  | 0 => ("HumpYard$Binder", "allowed", "[I", true)
  | 1 => ("HumpYard$Binder", "ranks", "I", false)
  | 2 => ("HumpYard$Binder", "chain", "[I", true)
  | 3 => ("HumpYard$Binder", "chosen", "[I", true)
  | 4 => ("HumpYard$Binder", "load", "[I", true)
  | 5 => ("HumpYard$Binder", "onesFrom", "[I", true)
  | 6 => ("HumpYard$Binder", "bestOnes", "I", false)
  | _ => ("HumpYard$Binder", "best", "[I", true)
def tyX0 : Nat → FieldType := fun k => match k with
  | 0 => .array .int
  | 1 => .int
  | 2 => .array .int
  | 3 => .array .int
  | 4 => .array .int
  | 5 => .array .int
  | 6 => .int
  | _ => .array .int
abbrev wsX00 : List Cond := u_ws RX0 TX0 8
theorem nmX0 : ∀ a, a < 8 → ∀ b, b < 8 → a ≠ b → (TX0 a).2.1 ≠ (TX0 b).2.1 := by decide +kernel
theorem tyX0_ok : ∀ k, k < 8 → parseFieldDescriptor (TX0 k).2.2.1 = some (tyX0 k) := by decide +kernel
abbrev cX0_init : ByteArray := prog_2_method_1_code
def yX0_init : MethodName := ⟨RX0, "<init>", "()V"⟩
abbrev cX0_findBest : ByteArray := prog_2_method_2_code
def yX0_findBest : MethodName := ⟨RX0, "findBest", "(LHumpYard$Yard;)Z"⟩
abbrev cX0_allowBelow : ByteArray := prog_2_method_3_code
def yX0_allowBelow : MethodName := ⟨RX0, "allowBelow", "(II)V"⟩
abbrev cX0_foresee : ByteArray := prog_2_method_4_code
def yX0_foresee : MethodName := ⟨RX0, "foresee", "(LHumpYard$Yard;)V"⟩
abbrev cX0_highest : ByteArray := prog_2_method_5_code
def yX0_highest : MethodName := ⟨RX0, "highest", "(LHumpYard$Yard;I)I"⟩
abbrev cX0_lowFor : ByteArray := prog_2_method_6_code
def yX0_lowFor : MethodName := ⟨RX0, "lowFor", "(LHumpYard$Yard;I)I"⟩
abbrev cX0_highFor : ByteArray := prog_2_method_7_code
def yX0_highFor : MethodName := ⟨RX0, "highFor", "(LHumpYard$Yard;I)I"⟩
abbrev cX0_choose : ByteArray := prog_2_method_8_code
def yX0_choose : MethodName := ⟨RX0, "choose", "(LHumpYard$Yard;II)V"⟩
abbrev cX0_addLoad : ByteArray := prog_2_method_9_code
def yX0_addLoad : MethodName := ⟨RX0, "addLoad", "(II)V"⟩
abbrev cX0_loadsFit : ByteArray := prog_2_method_10_code
def yX0_loadsFit : MethodName := ⟨RX0, "loadsFit", "([I)Z"⟩
def RX1 : String := "HumpYard$Brands"
def TX1 : u_T := fun k => match k with
  | _ => ("", "", "", false)
def tyX1 : Nat → FieldType := fun k => match k with
  | _ => .int
abbrev wsX10 : List Cond := u_ws RX1 TX1 0
theorem nmX1 : ∀ a, a < 0 → ∀ b, b < 0 → a ≠ b → (TX1 a).2.1 ≠ (TX1 b).2.1 := by decide +kernel
theorem tyX1_ok : ∀ k, k < 0 → parseFieldDescriptor (TX1 k).2.2.1 = some (tyX1 k) := by decide +kernel
abbrev cX1_mayBe : ByteArray := prog_3_method_2_code
def yX1_mayBe : MethodName := ⟨RX1, "mayBe", "(II)Z"⟩
abbrev cX1_howMany : ByteArray := prog_3_method_3_code
def yX1_howMany : MethodName := ⟨RX1, "howMany", "(I)I"⟩
abbrev cX1_codeOfRank : ByteArray := prog_3_method_4_code
def yX1_codeOfRank : MethodName := ⟨RX1, "codeOfRank", "(II)I"⟩
abbrev cX1_fewestFor : ByteArray := prog_3_method_5_code
def yX1_fewestFor : MethodName := ⟨RX1, "fewestFor", "(II)I"⟩
abbrev cX1_widthOf : ByteArray := prog_3_method_6_code
def yX1_widthOf : MethodName := ⟨RX1, "widthOf", "(I)I"⟩
def RX2 : String := "HumpYard$Lanes"
def TX2 : u_T := fun k => match k with
  | 0 => ("HumpYard$Lanes", "rows", "[[I", true)
  | _ => ("HumpYard$Lanes", "counts", "[I", true)
def tyX2 : Nat → FieldType := fun k => match k with
  | 0 => .array (.array .int)
  | _ => .array .int
abbrev wsX20 : List Cond := u_ws RX2 TX2 2
theorem nmX2 : ∀ a, a < 2 → ∀ b, b < 2 → a ≠ b → (TX2 a).2.1 ≠ (TX2 b).2.1 := by decide +kernel
theorem tyX2_ok : ∀ k, k < 2 → parseFieldDescriptor (TX2 k).2.2.1 = some (tyX2 k) := by decide +kernel
abbrev cX2_init : ByteArray := prog_4_method_1_code
def yX2_init : MethodName := ⟨RX2, "<init>", "()V"⟩
abbrev cX2_outOf : ByteArray := prog_4_method_2_code
def yX2_outOf : MethodName := ⟨RX2, "outOf", "(I)I"⟩
abbrev cX2_empty : ByteArray := prog_4_method_3_code
def yX2_empty : MethodName := ⟨RX2, "empty", "()V"⟩
abbrev cX2_become : ByteArray := prog_4_method_4_code
def yX2_become : MethodName := ⟨RX2, "become", "(LHumpYard$Lanes;)V"⟩
abbrev cX2_append : ByteArray := prog_4_method_5_code
def yX2_append : MethodName := ⟨RX2, "append", "(II)V"⟩
abbrev cX2_wagonAt : ByteArray := prog_4_method_6_code
def yX2_wagonAt : MethodName := ⟨RX2, "wagonAt", "(II)I"⟩
abbrev cX2_laneOf : ByteArray := prog_4_method_7_code
def yX2_laneOf : MethodName := ⟨RX2, "laneOf", "(I)I"⟩
abbrev cX2_countOut : ByteArray := prog_4_method_8_code
def yX2_countOut : MethodName := ⟨RX2, "countOut", "()I"⟩
abbrev cX2_countOnTracks : ByteArray := prog_4_method_9_code
def yX2_countOnTracks : MethodName := ⟨RX2, "countOnTracks", "()I"⟩
abbrev cX2_tracksInUse : ByteArray := prog_4_method_10_code
def yX2_tracksInUse : MethodName := ⟨RX2, "tracksInUse", "()I"⟩
def RX3 : String := "HumpYard$Lists"
def TX3 : u_T := fun k => match k with
  | 0 => ("HumpYard$Lists", "rows", "[[I", true)
  | _ => ("HumpYard$Lists", "sizes", "[I", true)
def tyX3 : Nat → FieldType := fun k => match k with
  | 0 => .array (.array .int)
  | _ => .array .int
abbrev wsX30 : List Cond := u_ws RX3 TX3 2
theorem nmX3 : ∀ a, a < 2 → ∀ b, b < 2 → a ≠ b → (TX3 a).2.1 ≠ (TX3 b).2.1 := by decide +kernel
theorem tyX3_ok : ∀ k, k < 2 → parseFieldDescriptor (TX3 k).2.2.1 = some (tyX3 k) := by decide +kernel
abbrev cX3_init : ByteArray := prog_5_method_1_code
def yX3_init : MethodName := ⟨RX3, "<init>", "()V"⟩
abbrev cX3_isList : ByteArray := prog_5_method_2_code
def yX3_isList : MethodName := ⟨RX3, "isList", "(I)Z"⟩
abbrev cX3_holds : ByteArray := prog_5_method_3_code
def yX3_holds : MethodName := ⟨RX3, "holds", "(I)Z"⟩
abbrev cX3_hasPlace : ByteArray := prog_5_method_4_code
def yX3_hasPlace : MethodName := ⟨RX3, "hasPlace", "(II)Z"⟩
abbrev cX3_makeZeros : ByteArray := prog_5_method_5_code
def yX3_makeZeros : MethodName := ⟨RX3, "makeZeros", "(II)V"⟩
abbrev cX3_layRow : ByteArray := prog_5_method_6_code
def yX3_layRow : MethodName := ⟨RX3, "layRow", "(II[II)I"⟩
def RX4 : String := "HumpYard$Paper"
def TX4 : u_T := fun k => match k with
  | 0 => ("HumpYard$Paper", "bytes", "[I", true)
  | _ => ("HumpYard$Paper", "used", "I", false)
def tyX4 : Nat → FieldType := fun k => match k with
  | 0 => .array .int
  | _ => .int
abbrev wsX40 : List Cond := u_ws RX4 TX4 2
theorem nmX4 : ∀ a, a < 2 → ∀ b, b < 2 → a ≠ b → (TX4 a).2.1 ≠ (TX4 b).2.1 := by decide +kernel
theorem tyX4_ok : ∀ k, k < 2 → parseFieldDescriptor (TX4 k).2.2.1 = some (tyX4 k) := by decide +kernel
abbrev cX4_init : ByteArray := prog_6_method_1_code
def yX4_init : MethodName := ⟨RX4, "<init>", "()V"⟩
abbrev cX4_append : ByteArray := prog_6_method_2_code
def yX4_append : MethodName := ⟨RX4, "append", "(I)V"⟩
abbrev cX4_appendRoll : ByteArray := prog_6_method_3_code
def yX4_appendRoll : MethodName := ⟨RX4, "appendRoll", "(II)V"⟩
def RX5 : String := "HumpYard$Renumbering"
def TX5 : u_T := fun k => match k with
  | 0 => ("HumpYard$Renumbering", "row", "[I", true)
  | 1 => ("HumpYard$Renumbering", "numbers", "[I", true)
  | 2 => ("HumpYard$Renumbering", "bestWagon", "I", false)
  | 3 => ("HumpYard$Renumbering", "bestPlace", "I", false)
  | _ => ("HumpYard$Renumbering", "bestNeed", "I", false)
def tyX5 : Nat → FieldType := fun k => match k with
  | 0 => .array .int
  | 1 => .array .int
  | 2 => .int
  | 3 => .int
  | _ => .int
abbrev wsX50 : List Cond := u_ws RX5 TX5 5
theorem nmX5 : ∀ a, a < 5 → ∀ b, b < 5 → a ≠ b → (TX5 a).2.1 ≠ (TX5 b).2.1 := by decide +kernel
theorem tyX5_ok : ∀ k, k < 5 → parseFieldDescriptor (TX5 k).2.2.1 = some (tyX5 k) := by decide +kernel
abbrev cX5_init : ByteArray := prog_7_method_1_code
def yX5_init : MethodName := ⟨RX5, "<init>", "()V"⟩
abbrev cX5_drawRow : ByteArray := prog_7_method_2_code
def yX5_drawRow : MethodName := ⟨RX5, "drawRow", "(II)V"⟩
abbrev cX5_findElsewhere : ByteArray := prog_7_method_3_code
def yX5_findElsewhere : MethodName := ⟨RX5, "findElsewhere", "(LHumpYard$Yard;)Z"⟩
abbrev cX5_moveTo : ByteArray := prog_7_method_4_code
def yX5_moveTo : MethodName := ⟨RX5, "moveTo", "(III)V"⟩
def RX6 : String := "HumpYard$Tape"
def TX6 : u_T := fun k => match k with
  | 0 => ("HumpYard$Tape", "bytes", "[I", true)
  | _ => ("HumpYard$Tape", "used", "I", false)
def tyX6 : Nat → FieldType := fun k => match k with
  | 0 => .array .int
  | _ => .int
abbrev wsX60 : List Cond := u_ws RX6 TX6 2
theorem nmX6 : ∀ a, a < 2 → ∀ b, b < 2 → a ≠ b → (TX6 a).2.1 ≠ (TX6 b).2.1 := by decide +kernel
theorem tyX6_ok : ∀ k, k < 2 → parseFieldDescriptor (TX6 k).2.2.1 = some (tyX6 k) := by decide +kernel
abbrev cX6_init : ByteArray := prog_8_method_1_code
def yX6_init : MethodName := ⟨RX6, "<init>", "()V"⟩
abbrev cX6_takes : ByteArray := prog_8_method_2_code
def yX6_takes : MethodName := ⟨RX6, "takes", "(I)Z"⟩
abbrev cX6_append : ByteArray := prog_8_method_3_code
def yX6_append : MethodName := ⟨RX6, "append", "(I)V"⟩
abbrev cX6_figureAt : ByteArray := prog_8_method_4_code
def yX6_figureAt : MethodName := ⟨RX6, "figureAt", "(I)I"⟩
abbrev cX6_faultOfYard : ByteArray := prog_8_method_5_code
def yX6_faultOfYard : MethodName := ⟨RX6, "faultOfYard", "()I"⟩
abbrev cX6_firstLetterFrom : ByteArray := prog_8_method_6_code
def yX6_firstLetterFrom : MethodName := ⟨RX6, "firstLetterFrom", "(I)I"⟩
abbrev cX6_faultOfFigures : ByteArray := prog_8_method_7_code
def yX6_faultOfFigures : MethodName := ⟨RX6, "faultOfFigures", "(III)I"⟩
def RX7 : String := "HumpYard$Yard"
def TX7 : u_T := fun k => match k with
  | 0 => ("HumpYard$Yard", "wagons", "I", false)
  | 1 => ("HumpYard$Yard", "brandNumber", "I", false)
  | 2 => ("HumpYard$Yard", "humped", "Z", false)
  | 3 => ("HumpYard$Yard", "pulls", "I", false)
  | 4 => ("HumpYard$Yard", "lengths", "[I", true)
  | 5 => ("HumpYard$Yard", "codes", "[I", true)
  | 6 => ("HumpYard$Yard", "trainOf", "[I", true)
  | 7 => ("HumpYard$Yard", "placeOf", "[I", true)
  | 8 => ("HumpYard$Yard", "wantedRows", "[[I", true)
  | 9 => ("HumpYard$Yard", "sizes", "[I", true)
  | 10 => ("HumpYard$Yard", "rooms", "[I", true)
  | _ => ("HumpYard$Yard", "lanes", "LHumpYard$Lanes;", true)
def tyX7 : Nat → FieldType := fun k => match k with
  | 0 => .int
  | 1 => .int
  | 2 => .boolean
  | 3 => .int
  | 4 => .array .int
  | 5 => .array .int
  | 6 => .array .int
  | 7 => .array .int
  | 8 => .array (.array .int)
  | 9 => .array .int
  | 10 => .array .int
  | _ => .object "HumpYard$Lanes"
abbrev wsX70 : List Cond := u_ws RX7 TX7 12
theorem nmX7 : ∀ a, a < 12 → ∀ b, b < 12 → a ≠ b → (TX7 a).2.1 ≠ (TX7 b).2.1 := by decide +kernel
theorem tyX7_ok : ∀ k, k < 12 → parseFieldDescriptor (TX7 k).2.2.1 = some (tyX7 k) := by decide +kernel
abbrev cX7_init : ByteArray := prog_9_method_1_code
def yX7_init : MethodName := ⟨RX7, "<init>", "()V"⟩
abbrev cX7_become : ByteArray := prog_9_method_2_code
def yX7_become : MethodName := ⟨RX7, "become", "(LHumpYard$Yard;)V"⟩
abbrev cX7_becomeNew : ByteArray := prog_9_method_3_code
def yX7_becomeNew : MethodName := ⟨RX7, "becomeNew", "(LHumpYard$Tape;)V"⟩
abbrev cX7_addWanted : ByteArray := prog_9_method_4_code
def yX7_addWanted : MethodName := ⟨RX7, "addWanted", "(II)V"⟩
abbrev cX7_becomeCleared : ByteArray := prog_9_method_5_code
def yX7_becomeCleared : MethodName := ⟨RX7, "becomeCleared", "()V"⟩
abbrev cX7_hasWagon : ByteArray := prog_9_method_6_code
def yX7_hasWagon : MethodName := ⟨RX7, "hasWagon", "(I)Z"⟩
abbrev cX7_wantedAt : ByteArray := prog_9_method_7_code
def yX7_wantedAt : MethodName := ⟨RX7, "wantedAt", "(II)I"⟩
abbrev cX7_isCut : ByteArray := prog_9_method_8_code
def yX7_isCut : MethodName := ⟨RX7, "isCut", "(II[I)Z"⟩
abbrev cX7_chainsOf : ByteArray := prog_9_method_9_code
def yX7_chainsOf : MethodName := ⟨RX7, "chainsOf", "(I[I)I"⟩
abbrev cX7_needOf : ByteArray := prog_9_method_10_code
def yX7_needOf : MethodName := ⟨RX7, "needOf", "([I)I"⟩
abbrev cX7_chainOf : ByteArray := prog_9_method_11_code
def yX7_chainOf : MethodName := ⟨RX7, "chainOf", "(I)I"⟩
abbrev cX7_firstNotRight : ByteArray := prog_9_method_12_code
def yX7_firstNotRight : MethodName := ⟨RX7, "firstNotRight", "([I)I"⟩
abbrev cX7_loadOf : ByteArray := prog_9_method_13_code
def yX7_loadOf : MethodName := ⟨RX7, "loadOf", "([II)I"⟩
abbrev cX7_stepsOf : ByteArray := prog_9_method_14_code
def yX7_stepsOf : MethodName := ⟨RX7, "stepsOf", "([I)I"⟩
abbrev cX7_rollsOf : ByteArray := prog_9_method_15_code
def yX7_rollsOf : MethodName := ⟨RX7, "rollsOf", "([I)I"⟩
abbrev cX7_judgeCodes : ByteArray := prog_9_method_16_code
def yX7_judgeCodes : MethodName := ⟨RX7, "judgeCodes", "([II)I"⟩
abbrev cX7_laneBehind : ByteArray := prog_9_method_17_code
def yX7_laneBehind : MethodName := ⟨RX7, "laneBehind", "([III)I"⟩
abbrev cX7_humpInto : ByteArray := prog_9_method_18_code
def yX7_humpInto : MethodName := ⟨RX7, "humpInto", "(LHumpYard$Lanes;[I)V"⟩
abbrev cX7_pullIn : ByteArray := prog_9_method_19_code
def yX7_pullIn : MethodName := ⟨RX7, "pullIn", "(LHumpYard$Lanes;I[I)I"⟩
abbrev cX7_runWhole : ByteArray := prog_9_method_20_code
def yX7_runWhole : MethodName := ⟨RX7, "runWhole", "(LHumpYard$Lanes;[I)V"⟩
abbrev cX7_lengthsOn : ByteArray := prog_9_method_21_code
def yX7_lengthsOn : MethodName := ⟨RX7, "lengthsOn", "(LHumpYard$Lanes;I)I"⟩
abbrev cX7_isOverfull : ByteArray := prog_9_method_22_code
def yX7_isOverfull : MethodName := ⟨RX7, "isOverfull", "(LHumpYard$Lanes;)Z"⟩
abbrev cX7_firstWrong : ByteArray := prog_9_method_23_code
def yX7_firstWrong : MethodName := ⟨RX7, "firstWrong", "(LHumpYard$Lanes;I)I"⟩
def RX8 : String := "HumpYard"
def TX8 : u_T := fun k => match k with
  | 0 => ("HumpYard", "now", "LHumpYard$Yard;", true)
  | 1 => ("HumpYard", "kept", "LHumpYard$Yard;", true)
  | 2 => ("HumpYard", "keptOnce", "Z", false)
  | 3 => ("HumpYard", "tape", "LHumpYard$Tape;", true)
  | 4 => ("HumpYard", "sheet", "LHumpYard$Paper;", true)
  | 5 => ("HumpYard", "lists", "LHumpYard$Lists;", true)
  | 6 => ("HumpYard", "binder", "LHumpYard$Binder;", true)
  | 7 => ("HumpYard", "renumbering", "LHumpYard$Renumbering;", true)
  | 8 => ("HumpYard", "thought", "LHumpYard$Lanes;", true)
  | _ => ("HumpYard", "tried", "[I", true)
def tyX8 : Nat → FieldType := fun k => match k with
  | 0 => .object "HumpYard$Yard"
  | 1 => .object "HumpYard$Yard"
  | 2 => .boolean
  | 3 => .object "HumpYard$Tape"
  | 4 => .object "HumpYard$Paper"
  | 5 => .object "HumpYard$Lists"
  | 6 => .object "HumpYard$Binder"
  | 7 => .object "HumpYard$Renumbering"
  | 8 => .object "HumpYard$Lanes"
  | _ => .array .int
abbrev wsX80 : List Cond := u_ws RX8 TX8 10
theorem nmX8 : ∀ a, a < 10 → ∀ b, b < 10 → a ≠ b → (TX8 a).2.1 ≠ (TX8 b).2.1 := by decide +kernel
theorem tyX8_ok : ∀ k, k < 10 → parseFieldDescriptor (TX8 k).2.2.1 = some (tyX8 k) := by decide +kernel
abbrev cX8_init : ByteArray := prog_1_method_1_code
def yX8_init : MethodName := ⟨RX8, "<init>", "()V"⟩
abbrev cX8_feed : ByteArray := prog_1_method_2_code
def yX8_feed : MethodName := ⟨RX8, "feed", "(IIIII)I"⟩
abbrev cX8_yard : ByteArray := prog_1_method_3_code
def yX8_yard : MethodName := ⟨RX8, "yard", "()I"⟩
abbrev cX8_codes : ByteArray := prog_1_method_4_code
def yX8_codes : MethodName := ⟨RX8, "codes", "()I"⟩
abbrev cX8_set : ByteArray := prog_1_method_5_code
def yX8_set : MethodName := ⟨RX8, "set", "(III)I"⟩
abbrev cX8_room : ByteArray := prog_1_method_6_code
def yX8_room : MethodName := ⟨RX8, "room", "(II)I"⟩
abbrev cX8_brand : ByteArray := prog_1_method_7_code
def yX8_brand : MethodName := ⟨RX8, "brand", "(I)I"⟩
abbrev cX8_wagon : ByteArray := prog_1_method_8_code
def yX8_wagon : MethodName := ⟨RX8, "wagon", "(II)I"⟩
abbrev cX8_wanted : ByteArray := prog_1_method_9_code
def yX8_wanted : MethodName := ⟨RX8, "wanted", "(II)I"⟩
abbrev cX8_track : ByteArray := prog_1_method_10_code
def yX8_track : MethodName := ⟨RX8, "track", "(II)I"⟩
abbrev cX8_chains : ByteArray := prog_1_method_11_code
def yX8_chains : MethodName := ⟨RX8, "chains", "(I)I"⟩
abbrev cX8_fewest : ByteArray := prog_1_method_12_code
def yX8_fewest : MethodName := ⟨RX8, "fewest", "(I)I"⟩
abbrev cX8_presort : ByteArray := prog_1_method_13_code
def yX8_presort : MethodName := ⟨RX8, "presort", "()I"⟩
abbrev cX8_right : ByteArray := prog_1_method_14_code
def yX8_right : MethodName := ⟨RX8, "right", "(I)I"⟩
abbrev cX8_bounded : ByteArray := prog_1_method_15_code
def yX8_bounded : MethodName := ⟨RX8, "bounded", "(I)I"⟩
abbrev cX8_bind : ByteArray := prog_1_method_16_code
def yX8_bind : MethodName := ⟨RX8, "bind", "()I"⟩
abbrev cX8_mean : ByteArray := prog_1_method_17_code
def yX8_mean : MethodName := ⟨RX8, "mean", "(I)J"⟩
abbrev cX8_hump : ByteArray := prog_1_method_18_code
def yX8_hump : MethodName := ⟨RX8, "hump", "()I"⟩
abbrev cX8_pull : ByteArray := prog_1_method_19_code
def yX8_pull : MethodName := ⟨RX8, "pull", "(I)I"⟩
abbrev cX8_clear : ByteArray := prog_1_method_20_code
def yX8_clear : MethodName := ⟨RX8, "clear", "()I"⟩
abbrev cX8_out : ByteArray := prog_1_method_21_code
def yX8_out : MethodName := ⟨RX8, "out", "(II)I"⟩
abbrev cX8_wrong : ByteArray := prog_1_method_22_code
def yX8_wrong : MethodName := ⟨RX8, "wrong", "(I)I"⟩
abbrev cX8_replay : ByteArray := prog_1_method_23_code
def yX8_replay : MethodName := ⟨RX8, "replay", "(I)I"⟩
abbrev cX8_spell : ByteArray := prog_1_method_24_code
def yX8_spell : MethodName := ⟨RX8, "spell", "()I"⟩
abbrev cX8_paper : ByteArray := prog_1_method_25_code
def yX8_paper : MethodName := ⟨RX8, "paper", "(I)I"⟩
abbrev cX8_elsewhere : ByteArray := prog_1_method_26_code
def yX8_elsewhere : MethodName := ⟨RX8, "elsewhere", "(I)I"⟩
abbrev cX8_drawn : ByteArray := prog_1_method_27_code
def yX8_drawn : MethodName := ⟨RX8, "drawn", "(II)I"⟩
abbrev cX8_odds : ByteArray := prog_1_method_28_code
def yX8_odds : MethodName := ⟨RX8, "odds", "(IIII)J"⟩
abbrev cX8_seen : ByteArray := prog_1_method_29_code
def yX8_seen : MethodName := ⟨RX8, "seen", "(III)I"⟩
abbrev cX8_judge : ByteArray := prog_1_method_30_code
def yX8_judge : MethodName := ⟨RX8, "judge", "(I)I"⟩
abbrev cX8_list : ByteArray := prog_1_method_31_code
def yX8_list : MethodName := ⟨RX8, "list", "(II)I"⟩
abbrev cX8_put : ByteArray := prog_1_method_32_code
def yX8_put : MethodName := ⟨RX8, "put", "(III)I"⟩
abbrev cX8_get : ByteArray := prog_1_method_33_code
def yX8_get : MethodName := ⟨RX8, "get", "(II)J"⟩
abbrev cX8_lay : ByteArray := prog_1_method_34_code
def yX8_lay : MethodName := ⟨RX8, "lay", "(IIII)I"⟩
abbrev cX8_image : ByteArray := prog_1_method_35_code
def yX8_image : MethodName := ⟨RX8, "image", "()I"⟩
abbrev cX8_undo : ByteArray := prog_1_method_36_code
def yX8_undo : MethodName := ⟨RX8, "undo", "()I"⟩
abbrev cX8_count : ByteArray := prog_1_method_37_code
def yX8_count : MethodName := ⟨RX8, "count", "(I)I"⟩
abbrev cX8_isTrain : ByteArray := prog_1_method_38_code
def yX8_isTrain : MethodName := ⟨RX8, "isTrain", "(I)Z"⟩
abbrev cX8_isTrack : ByteArray := prog_1_method_39_code
def yX8_isTrack : MethodName := ⟨RX8, "isTrack", "(I)Z"⟩
abbrev cX8_fewestNow : ByteArray := prog_1_method_40_code
def yX8_fewestNow : MethodName := ⟨RX8, "fewestNow", "()I"⟩
abbrev cX8_presortedCode : ByteArray := prog_1_method_41_code
def yX8_presortedCode : MethodName := ⟨RX8, "presortedCode", "(I)I"⟩
abbrev cX8_whereIs : ByteArray := prog_1_method_42_code
def yX8_whereIs : MethodName := ⟨RX8, "whereIs", "(I)I"⟩
abbrev cX8_partOfLowest : ByteArray := prog_1_method_43_code
def yX8_partOfLowest : MethodName := ⟨RX8, "partOfLowest", "(III)J"⟩
abbrev cX8_replayed : ByteArray := prog_1_method_44_code
def yX8_replayed : MethodName := ⟨RX8, "replayed", "(I)I"⟩
abbrev cX8_wrongInThought : ByteArray := prog_1_method_45_code
def yX8_wrongInThought : MethodName := ⟨RX8, "wrongInThought", "(I)I"⟩
abbrev cX8_spellPull : ByteArray := prog_1_method_46_code
def yX8_spellPull : MethodName := ⟨RX8, "spellPull", "(I)V"⟩
abbrev cX8_tellsOut : ByteArray := prog_1_method_47_code
def yX8_tellsOut : MethodName := ⟨RX8, "tellsOut", "(II)Z"⟩
def RX9 : String := "HumpYardModel"
def TX9 : u_T := fun k => match k with
  | 0 => ("HumpYardModel", "w", "[I", true)
  | 1 => ("HumpYardModel", "kept", "[I", true)
  | 2 => ("HumpYardModel", "thought", "[I", true)
  | 3 => ("HumpYardModel", "isKept", "Z", false)
  | 4 => ("HumpYardModel", "tape", "[I", true)
  | 5 => ("HumpYardModel", "taped", "I", false)
  | 6 => ("HumpYardModel", "number", "[I", true)
  | 7 => ("HumpYardModel", "chosen", "[I", true)
  | 8 => ("HumpYardModel", "best", "[I", true)
  | 9 => ("HumpYardModel", "turn", "[I", true)
  | 10 => ("HumpYardModel", "load", "[I", true)
  | 11 => ("HumpYardModel", "bestSteps", "I", false)
  | 12 => ("HumpYardModel", "bestRolls", "I", false)
  | 13 => ("HumpYardModel", "rolled", "I", false)
  | 14 => ("HumpYardModel", "isSpelled", "Z", false)
  | 15 => ("HumpYardModel", "paper", "[I", true)
  | 16 => ("HumpYardModel", "written", "I", false)
  | 17 => ("HumpYardModel", "drawn", "[I", true)
  | 18 => ("HumpYardModel", "items", "[I", true)
  | _ => ("HumpYardModel", "listMany", "[I", true)
def tyX9 : Nat → FieldType := fun k => match k with
  | 0 => .array .int
  | 1 => .array .int
  | 2 => .array .int
  | 3 => .boolean
  | 4 => .array .int
  | 5 => .int
  | 6 => .array .int
  | 7 => .array .int
  | 8 => .array .int
  | 9 => .array .int
  | 10 => .array .int
  | 11 => .int
  | 12 => .int
  | 13 => .int
  | 14 => .boolean
  | 15 => .array .int
  | 16 => .int
  | 17 => .array .int
  | 18 => .array .int
  | _ => .array .int
abbrev wsX90 : List Cond := u_ws RX9 TX9 20
theorem nmX9 : ∀ a, a < 20 → ∀ b, b < 20 → a ≠ b → (TX9 a).2.1 ≠ (TX9 b).2.1 := by decide +kernel
theorem tyX9_ok : ∀ k, k < 20 → parseFieldDescriptor (TX9 k).2.2.1 = some (tyX9 k) := by decide +kernel
abbrev cX9_init : ByteArray := prog_11_method_1_code
def yX9_init : MethodName := ⟨RX9, "<init>", "()V"⟩
abbrev cX9_isIn : ByteArray := prog_11_method_2_code
def yX9_isIn : MethodName := ⟨RX9, "isIn", "(JJJ)Z"⟩
abbrev cX9_isWagon : ByteArray := prog_11_method_3_code
def yX9_isWagon : MethodName := ⟨RX9, "isWagon", "(I)Z"⟩
abbrev cX9_isTrain : ByteArray := prog_11_method_4_code
def yX9_isTrain : MethodName := ⟨RX9, "isTrain", "(I)Z"⟩
abbrev cX9_isTrack : ByteArray := prog_11_method_5_code
def yX9_isTrack : MethodName := ⟨RX9, "isTrack", "(I)Z"⟩
abbrev cX9_has : ByteArray := prog_11_method_6_code
def yX9_has : MethodName := ⟨RX9, "has", "(II)Z"⟩
abbrev cX9_ones : ByteArray := prog_11_method_7_code
def yX9_ones : MethodName := ⟨RX9, "ones", "(I)I"⟩
abbrev cX9_mayBe : ByteArray := prog_11_method_8_code
def yX9_mayBe : MethodName := ⟨RX9, "mayBe", "(II)Z"⟩
abbrev cX9_wantedAt : ByteArray := prog_11_method_9_code
def yX9_wantedAt : MethodName := ⟨RX9, "wantedAt", "(II)I"⟩
abbrev cX9_clears : ByteArray := prog_11_method_10_code
def yX9_clears : MethodName := ⟨RX9, "clears", "()V"⟩
abbrev cX9_feed : ByteArray := prog_11_method_11_code
def yX9_feed : MethodName := ⟨RX9, "feed", "(IIIII)I"⟩
abbrev cX9_yardFault : ByteArray := prog_11_method_12_code
def yX9_yardFault : MethodName := ⟨RX9, "yardFault", "()I"⟩
abbrev cX9_yard : ByteArray := prog_11_method_13_code
def yX9_yard : MethodName := ⟨RX9, "yard", "()I"⟩
abbrev cX9_codes : ByteArray := prog_11_method_14_code
def yX9_codes : MethodName := ⟨RX9, "codes", "()I"⟩
abbrev cX9_set : ByteArray := prog_11_method_15_code
def yX9_set : MethodName := ⟨RX9, "set", "(III)I"⟩
abbrev cX9_room : ByteArray := prog_11_method_16_code
def yX9_room : MethodName := ⟨RX9, "room", "(II)I"⟩
abbrev cX9_brand : ByteArray := prog_11_method_17_code
def yX9_brand : MethodName := ⟨RX9, "brand", "(I)I"⟩
abbrev cX9_asTheyAre : ByteArray := prog_11_method_18_code
def yX9_asTheyAre : MethodName := ⟨RX9, "asTheyAre", "()V"⟩
abbrev cX9_chainsOf : ByteArray := prog_11_method_19_code
def yX9_chainsOf : MethodName := ⟨RX9, "chainsOf", "(I)I"⟩
abbrev cX9_need : ByteArray := prog_11_method_20_code
def yX9_need : MethodName := ⟨RX9, "need", "()I"⟩
abbrev cX9_fewestFor : ByteArray := prog_11_method_21_code
def yX9_fewestFor : MethodName := ⟨RX9, "fewestFor", "(I)I"⟩
abbrev cX9_placeOf : ByteArray := prog_11_method_22_code
def yX9_placeOf : MethodName := ⟨RX9, "placeOf", "(I)I"⟩
abbrev cX9_chainOf : ByteArray := prog_11_method_23_code
def yX9_chainOf : MethodName := ⟨RX9, "chainOf", "(I)I"⟩
abbrev cX9_codeOf : ByteArray := prog_11_method_24_code
def yX9_codeOf : MethodName := ⟨RX9, "codeOf", "(I)I"⟩
abbrev cX9_fewestNow : ByteArray := prog_11_method_25_code
def yX9_fewestNow : MethodName := ⟨RX9, "fewestNow", "()I"⟩
abbrev cX9_whereIs : ByteArray := prog_11_method_26_code
def yX9_whereIs : MethodName := ⟨RX9, "whereIs", "(I)I"⟩
abbrev cX9_wagon : ByteArray := prog_11_method_27_code
def yX9_wagon : MethodName := ⟨RX9, "wagon", "(II)I"⟩
abbrev cX9_wanted : ByteArray := prog_11_method_28_code
def yX9_wanted : MethodName := ⟨RX9, "wanted", "(II)I"⟩
abbrev cX9_lengthsOn : ByteArray := prog_11_method_29_code
def yX9_lengthsOn : MethodName := ⟨RX9, "lengthsOn", "(I)I"⟩
abbrev cX9_loadOf : ByteArray := prog_11_method_30_code
def yX9_loadOf : MethodName := ⟨RX9, "loadOf", "(I)I"⟩
abbrev cX9_track : ByteArray := prog_11_method_31_code
def yX9_track : MethodName := ⟨RX9, "track", "(II)I"⟩
abbrev cX9_chains : ByteArray := prog_11_method_32_code
def yX9_chains : MethodName := ⟨RX9, "chains", "(I)I"⟩
abbrev cX9_mayAll : ByteArray := prog_11_method_33_code
def yX9_mayAll : MethodName := ⟨RX9, "mayAll", "()I"⟩
abbrev cX9_fewest : ByteArray := prog_11_method_34_code
def yX9_fewest : MethodName := ⟨RX9, "fewest", "(I)I"⟩
abbrev cX9_stepsNow : ByteArray := prog_11_method_35_code
def yX9_stepsNow : MethodName := ⟨RX9, "stepsNow", "()I"⟩
abbrev cX9_stepsOf : ByteArray := prog_11_method_36_code
def yX9_stepsOf : MethodName := ⟨RX9, "stepsOf", "(I)I"⟩
abbrev cX9_rollsNow : ByteArray := prog_11_method_37_code
def yX9_rollsNow : MethodName := ⟨RX9, "rollsNow", "()I"⟩
abbrev cX9_presort : ByteArray := prog_11_method_38_code
def yX9_presort : MethodName := ⟨RX9, "presort", "()I"⟩
abbrev cX9_notRight : ByteArray := prog_11_method_39_code
def yX9_notRight : MethodName := ⟨RX9, "notRight", "()I"⟩
abbrev cX9_tooLoaded : ByteArray := prog_11_method_40_code
def yX9_tooLoaded : MethodName := ⟨RX9, "tooLoaded", "()I"⟩
abbrev cX9_mayAllCodes : ByteArray := prog_11_method_41_code
def yX9_mayAllCodes : MethodName := ⟨RX9, "mayAllCodes", "()Z"⟩
abbrev cX9_right : ByteArray := prog_11_method_42_code
def yX9_right : MethodName := ⟨RX9, "right", "(I)I"⟩
abbrev cX9_orders : ByteArray := prog_11_method_43_code
def yX9_orders : MethodName := ⟨RX9, "orders", "()V"⟩
abbrev cX9_lowAt : ByteArray := prog_11_method_44_code
def yX9_lowAt : MethodName := ⟨RX9, "lowAt", "(I)I"⟩
abbrev cX9_loads : ByteArray := prog_11_method_45_code
def yX9_loads : MethodName := ⟨RX9, "loads", "(II)V"⟩
abbrev cX9_isRoomy : ByteArray := prog_11_method_46_code
def yX9_isRoomy : MethodName := ⟨RX9, "isRoomy", "()Z"⟩
abbrev cX9_isBetter : ByteArray := prog_11_method_47_code
def yX9_isBetter : MethodName := ⟨RX9, "isBetter", "()Z"⟩
abbrev cX9_isBest : ByteArray := prog_11_method_48_code
def yX9_isBest : MethodName := ⟨RX9, "isBest", "()V"⟩
abbrev cX9_isHopeless : ByteArray := prog_11_method_49_code
def yX9_isHopeless : MethodName := ⟨RX9, "isHopeless", "(I)Z"⟩
abbrev cX9_goesOn : ByteArray := prog_11_method_50_code
def yX9_goesOn : MethodName := ⟨RX9, "goesOn", "(I)Z"⟩
abbrev cX9_findBounded : ByteArray := prog_11_method_51_code
def yX9_findBounded : MethodName := ⟨RX9, "findBounded", "()V"⟩
abbrev cX9_bounded : ByteArray := prog_11_method_52_code
def yX9_bounded : MethodName := ⟨RX9, "bounded", "(I)I"⟩
abbrev cX9_bind : ByteArray := prog_11_method_53_code
def yX9_bind : MethodName := ⟨RX9, "bind", "()I"⟩
abbrev cX9_common : ByteArray := prog_11_method_54_code
def yX9_common : MethodName := ⟨RX9, "common", "(JJ)J"⟩
abbrev cX9_partOf : ByteArray := prog_11_method_55_code
def yX9_partOf : MethodName := ⟨RX9, "partOf", "(JJI)J"⟩
abbrev cX9_mean : ByteArray := prog_11_method_56_code
def yX9_mean : MethodName := ⟨RX9, "mean", "(I)J"⟩
abbrev cX9_copies : ByteArray := prog_11_method_57_code
def yX9_copies : MethodName := ⟨RX9, "copies", "([I[I)V"⟩
abbrev cX9_rolls : ByteArray := prog_11_method_58_code
def yX9_rolls : MethodName := ⟨RX9, "rolls", "(II)V"⟩
abbrev cX9_humps : ByteArray := prog_11_method_59_code
def yX9_humps : MethodName := ⟨RX9, "humps", "()V"⟩
abbrev cX9_pulls : ByteArray := prog_11_method_60_code
def yX9_pulls : MethodName := ⟨RX9, "pulls", "(I)V"⟩
abbrev cX9_isOver : ByteArray := prog_11_method_61_code
def yX9_isOver : MethodName := ⟨RX9, "isOver", "()Z"⟩
abbrev cX9_outs : ByteArray := prog_11_method_62_code
def yX9_outs : MethodName := ⟨RX9, "outs", "()I"⟩
abbrev cX9_hump : ByteArray := prog_11_method_63_code
def yX9_hump : MethodName := ⟨RX9, "hump", "()I"⟩
abbrev cX9_pull : ByteArray := prog_11_method_64_code
def yX9_pull : MethodName := ⟨RX9, "pull", "(I)I"⟩
abbrev cX9_clear : ByteArray := prog_11_method_65_code
def yX9_clear : MethodName := ⟨RX9, "clear", "()I"⟩
abbrev cX9_out : ByteArray := prog_11_method_66_code
def yX9_out : MethodName := ⟨RX9, "out", "(II)I"⟩
abbrev cX9_wrongOf : ByteArray := prog_11_method_67_code
def yX9_wrongOf : MethodName := ⟨RX9, "wrongOf", "(I)I"⟩
abbrev cX9_wrong : ByteArray := prog_11_method_68_code
def yX9_wrong : MethodName := ⟨RX9, "wrong", "(I)I"⟩
abbrev cX9_pullsFault : ByteArray := prog_11_method_69_code
def yX9_pullsFault : MethodName := ⟨RX9, "pullsFault", "()I"⟩
abbrev cX9_replayed : ByteArray := prog_11_method_70_code
def yX9_replayed : MethodName := ⟨RX9, "replayed", "(II)I"⟩
abbrev cX9_replay : ByteArray := prog_11_method_71_code
def yX9_replay : MethodName := ⟨RX9, "replay", "(I)I"⟩
abbrev cX9_says : ByteArray := prog_11_method_72_code
def yX9_says : MethodName := ⟨RX9, "says", "(I)V"⟩
abbrev cX9_wholeRun : ByteArray := prog_11_method_73_code
def yX9_wholeRun : MethodName := ⟨RX9, "wholeRun", "()V"⟩
abbrev cX9_spell : ByteArray := prog_11_method_74_code
def yX9_spell : MethodName := ⟨RX9, "spell", "()I"⟩
abbrev cX9_paper : ByteArray := prog_11_method_75_code
def yX9_paper : MethodName := ⟨RX9, "paper", "(I)I"⟩
abbrev cX9_moves : ByteArray := prog_11_method_76_code
def yX9_moves : MethodName := ⟨RX9, "moves", "(II)V"⟩
abbrev cX9_elsewhere : ByteArray := prog_11_method_77_code
def yX9_elsewhere : MethodName := ⟨RX9, "elsewhere", "(I)I"⟩
abbrev cX9_draws : ByteArray := prog_11_method_78_code
def yX9_draws : MethodName := ⟨RX9, "draws", "(I)V"⟩
abbrev cX9_drawn : ByteArray := prog_11_method_79_code
def yX9_drawn : MethodName := ⟨RX9, "drawn", "(II)I"⟩
abbrev cX9_odds : ByteArray := prog_11_method_80_code
def yX9_odds : MethodName := ⟨RX9, "odds", "(IIII)J"⟩
abbrev cX9_isList : ByteArray := prog_11_method_81_code
def yX9_isList : MethodName := ⟨RX9, "isList", "(I)Z"⟩
abbrev cX9_isSeen : ByteArray := prog_11_method_82_code
def yX9_isSeen : MethodName := ⟨RX9, "isSeen", "(II)Z"⟩
abbrev cX9_seen : ByteArray := prog_11_method_83_code
def yX9_seen : MethodName := ⟨RX9, "seen", "(III)I"⟩
abbrev cX9_judged : ByteArray := prog_11_method_84_code
def yX9_judged : MethodName := ⟨RX9, "judged", "()I"⟩
abbrev cX9_judge : ByteArray := prog_11_method_85_code
def yX9_judge : MethodName := ⟨RX9, "judge", "(I)I"⟩
abbrev cX9_list : ByteArray := prog_11_method_86_code
def yX9_list : MethodName := ⟨RX9, "list", "(II)I"⟩
abbrev cX9_put : ByteArray := prog_11_method_87_code
def yX9_put : MethodName := ⟨RX9, "put", "(III)I"⟩
abbrev cX9_get : ByteArray := prog_11_method_88_code
def yX9_get : MethodName := ⟨RX9, "get", "(II)J"⟩
abbrev cX9_lay : ByteArray := prog_11_method_89_code
def yX9_lay : MethodName := ⟨RX9, "lay", "(IIII)I"⟩
abbrev cX9_image : ByteArray := prog_11_method_90_code
def yX9_image : MethodName := ⟨RX9, "image", "()I"⟩
abbrev cX9_undo : ByteArray := prog_11_method_91_code
def yX9_undo : MethodName := ⟨RX9, "undo", "()I"⟩
abbrev cX9_lying : ByteArray := prog_11_method_92_code
def yX9_lying : MethodName := ⟨RX9, "lying", "()I"⟩
abbrev cX9_count : ByteArray := prog_11_method_93_code
def yX9_count : MethodName := ⟨RX9, "count", "(I)I"⟩
def RJ6 : String := "java/lang/Integer"
def TJ6 : u_T := fun k => match k with
  | _ => ("", "", "", false)
def tyJ6 : Nat → FieldType := fun k => match k with
  | _ => .int
abbrev wsJ60 : List Cond := u_ws RJ6 TJ6 0
theorem nmJ6 : ∀ a, a < 0 → ∀ b, b < 0 → a ≠ b → (TJ6 a).2.1 ≠ (TJ6 b).2.1 := by decide +kernel
theorem tyJ6_ok : ∀ k, k < 0 → parseFieldDescriptor (TJ6 k).2.2.1 = some (tyJ6 k) := by decide +kernel
abbrev cJ6_bitCount_0f7a4 : ByteArray := prog_12_method_49_code
def yJ6_bitCount_0f7a4 : MethodName := ⟨RJ6, "bitCount", "(I)I"⟩
def RJ9 : String := "java/lang/Math"
def TJ9 : u_T := fun k => match k with
  | _ => ("", "", "", false)
def tyJ9 : Nat → FieldType := fun k => match k with
  | _ => .int
abbrev wsJ90 : List Cond := u_ws RJ9 TJ9 0
theorem nmJ9 : ∀ a, a < 0 → ∀ b, b < 0 → a ≠ b → (TJ9 a).2.1 ≠ (TJ9 b).2.1 := by decide +kernel
theorem tyJ9_ok : ∀ k, k < 0 → parseFieldDescriptor (TJ9 k).2.2.1 = some (tyJ9 k) := by decide +kernel
abbrev cJ9_max_7cf53 : ByteArray := prog_13_method_65_code
def yJ9_max_7cf53 : MethodName := ⟨RJ9, "max", "(II)I"⟩
abbrev cJ9_min_7cf53 : ByteArray := prog_13_method_69_code
def yJ9_min_7cf53 : MethodName := ⟨RJ9, "min", "(II)I"⟩
def RJ10 : String := "java/lang/System"
def TJ10 : u_T := fun k => match k with
  | _ => ("", "", "", false)
def tyJ10 : Nat → FieldType := fun k => match k with
  | _ => .int
abbrev wsJ100 : List Cond := u_ws RJ10 TJ10 0
theorem nmJ10 : ∀ a, a < 0 → ∀ b, b < 0 → a ≠ b → (TJ10 a).2.1 ≠ (TJ10 b).2.1 := by decide +kernel
theorem tyJ10_ok : ∀ k, k < 0 → parseFieldDescriptor (TJ10 k).2.2.1 = some (tyJ10 k) := by decide +kernel
def RL : String := "HumpYardLaw"
abbrev cL_law : ByteArray := code
def yL_law : MethodName := ⟨RL, "law", "([I)Z"⟩
abbrev vwCl : List vw_C := [(RX0, TX0, 8), (RX2, TX2, 2), (RX3, TX3, 2), (RX4, TX4, 2), (RX5, TX5, 5), (RX6, TX6, 2), (RX7, TX7, 12), (RX8, TX8, 10), (RX9, TX9, 20)]
end
section
/-! ===== the light machine: threaded code over a memory of ints, and what it says of the real one ===== -/
/-- the memory: by a cell's number and a place in it -/
abbrev hy_M : Type := Nat → Nat → Int32
/-- locals that are known -/
abbrev hy_L : Type := List (Option Value)
/-- threaded code: locals, operand stack, memory -/
abbrev hy_C (β : Type) : Type := hy_L → List Value → hy_M → Option β
def hy_lget : Nat → hy_L → Option Value
  | _, [] => none
  | 0, x :: _ => x
  | n + 1, _ :: l => hy_lget n l
def hy_lset : Nat → Value → hy_L → hy_L
  | _, _, [] => []
  | 0, v, _ :: l => some v :: l
  | n + 1, v, x :: l => x :: hy_lset n v l
def hy_w (D : hy_M) (c i : Nat) (x : Int32) : hy_M := fun c' => if c' = c then upd (D c) i x else D c'
def hy_cp (D : hy_M) (a b sp dp n : Nat) : hy_M := fun c' => if c' = b then va_cpy (D a) (D b) sp dp n else D c'
def hy_in (j : Int32) (n : Nat) : Bool := !(decide (j < 0)) && Nat.ble (j.toNatClampNeg + 1) n
theorem hy_in_vp {j : Int32} {n : Nat} (h : hy_in j n = true) : vp_in j n := by
  simp only [hy_in, Bool.and_eq_true, Bool.not_eq_true', decide_eq_false_iff_not, Nat.ble_eq] at h
  rintro (q | q)
  · exact h.1 q
  · omega
/-- the static shape: kind (0 ints, 1 references, 2 an object), size or class, what references it holds -/
abbrev hy_Sh : Type := List (Nat × Nat × List (Option Nat))
abbrev hy_G : Type := (Nat → Nat) × (Nat → ClassId) × (Nat → Nat → Nat) × ClassId × ClassId
def hy_v (ad : Nat → Nat) : Value → Value
  | .ref c => .ref (ad c)
  | v => v
/-- the cells that the two constructors make, in their order -/
def hy_shape : hy_Sh := [
  (2, 7, [some 1, some 19, none, some 37, some 39, some 41, some 48, some 55, some 58, some 66]),
  (2, 6, [none, none, none, none, some 2, some 3, some 4, some 5, some 6, some 9, some 10, some 11]),
  (0, 8, []),
  (0, 8, []),
  (0, 8, []),
  (0, 8, []),
  (1, 2, [some 7, some 8]),
  (0, 8, []),
  (0, 8, []),
  (0, 2, []),
  (0, 3, []),
  (2, 1, [some 12, some 18]),
  (1, 5, [some 13, some 14, some 15, some 16, some 17]),
  (0, 8, []),
  (0, 8, []),
  (0, 8, []),
  (0, 8, []),
  (0, 8, []),
  (0, 5, []),
  (2, 6, [none, none, none, none, some 20, some 21, some 22, some 23, some 24, some 27, some 28, some 29]),
  (0, 8, []),
  (0, 8, []),
  (0, 8, []),
  (0, 8, []),
  (1, 2, [some 25, some 26]),
  (0, 8, []),
  (0, 8, []),
  (0, 2, []),
  (0, 3, []),
  (2, 1, [some 30, some 36]),
  (1, 5, [some 31, some 32, some 33, some 34, some 35]),
  (0, 8, []),
  (0, 8, []),
  (0, 8, []),
  (0, 8, []),
  (0, 8, []),
  (0, 5, []),
  (2, 5, [some 38, none]),
  (0, 40, []),
  (2, 3, [some 40, none]),
  (0, 71, []),
  (2, 2, [some 42, some 47]),
  (1, 4, [some 43, some 44, some 45, some 46]),
  (0, 12, []),
  (0, 12, []),
  (0, 12, []),
  (0, 12, []),
  (0, 4, []),
  (2, 0, [some 49, none, some 50, some 51, some 52, some 53, none, some 54]),
  (0, 8, []),
  (0, 8, []),
  (0, 8, []),
  (0, 3, []),
  (0, 9, []),
  (0, 8, []),
  (2, 4, [some 56, some 57, none, none, none]),
  (0, 8, []),
  (0, 8, []),
  (2, 1, [some 59, some 65]),
  (1, 5, [some 60, some 61, some 62, some 63, some 64]),
  (0, 8, []),
  (0, 8, []),
  (0, 8, []),
  (0, 8, []),
  (0, 8, []),
  (0, 5, []),
  (0, 8, []),
  (2, 8, [some 68, some 69, some 70, none, some 71, none, some 72, some 73, some 74, some 75, some 76, none, none, none, none, some 77, none, some 78, some 79, some 80]),
  (0, 94, []),
  (0, 94, []),
  (0, 94, []),
  (0, 40, []),
  (0, 8, []),
  (0, 8, []),
  (0, 8, []),
  (0, 8, []),
  (0, 3, []),
  (0, 80, []),
  (0, 8, []),
  (0, 48, []),
  (0, 4, [])]
def hy_sh (c : Nat) : Nat × Nat × List (Option Nat) := hy_shape.getD c (3, 0, [])
def hy_al (c : Nat) : Nat := match hy_sh c with
  | (0, n, _) => n
  | _ => bif Nat.beq c 1000 then 8 else 0
def hy_wl (c : Nat) : Nat := match hy_sh c with
  | (0, n, _) => n
  | _ => 0
def hy_rl (c : Nat) : Nat := match hy_sh c with
  | (1, n, _) => n
  | _ => 0
def hy_pr (c k : Nat) : Nat := ((hy_sh c).2.2.getD k none).getD 0
/-- an object of class ci, its field k an int (r false) or a reference -/
def hy_oc (c ci k : Nat) (r : Bool) : Bool := match hy_sh c with
  | (2, ci', rs) => Nat.beq ci ci' && (match rs[k]? with
    | some (some _) => r
    | some none => !r
    | none => false)
  | _ => false
def hy_cl (c ci : Nat) : Bool := match hy_sh c with
  | (2, ci', _) => Nat.beq ci ci'
  | _ => false
def hy_fs (ad : Nat → Nat) (D : hy_M) (c : Nat) : Nat → List (Option Nat) → List Value
  | _, [] => []
  | k, some q :: rs => .ref (ad q) :: hy_fs ad D c (k + 1) rs
  | k, none :: rs => .int (D c k) :: hy_fs ad D c (k + 1) rs
def hy_E (G : hy_G) (D : hy_M) (c : Nat) : va_E := match hy_sh c with
  | (0, n, _) => .inl (G.2.2.2.1, n, .inl (D c))
  | (1, n, rs) => .inl (G.2.2.2.2, n, .inr (.inr (.inr (.inr (fun j => if j < n then some (G.1 ((rs.getD j none).getD 0)) else none)))))
  | (_, ci, rs) => .inr (ci, hy_fs G.1 D c 0 rs)
def hy_ws (G : hy_G) (D : hy_M) : va_W := (List.range 81).map (fun c => (G.1 c, hy_E G D c))
def hy_A (G : hy_G) : Nat → Prop := fun q => ∃ c, c < 81 ∧ G.1 c = q
def hy_inj (G : hy_G) : Prop := ∀ i j, i < 81 → j < 81 → G.1 i = G.1 j → i = j
def hy_HR (G : hy_G) (D : hy_M) (H : Heap) : Prop := va_P (G.2.1, G.2.2.1) vwCl (hy_ws G D) H ∧ ∀ j, j < 8 → D 1000 j = nI j
def hy_nestY : Cond := .fieldLinkNest "HumpYard$Yard" 101 "HumpYard" "AS_THEY_COME" "[I" "HumpYard"
def hy_nestR : Cond := .fieldLinkNest "HumpYard$Renumbering" 28 "HumpYard" "AS_THEY_COME" "[I" "HumpYard"
def hy_K (G : hy_G) (U : State) : Prop :=
  va_K (G.2.1, G.2.2.1) vwCl [(G.2.2.2.1, .int), (G.2.2.2.2, .array .int)] U ∧ va_Z "HumpYard" "AS_THEY_COME" "[I" (.ref (G.1 1000)) (hy_A G) U U.heap ∧ va_T .int (G.1 1000) 8 (fun j => .int (nI j)) (hy_A G) U U.heap ∧ va_Nw hy_nestY U ∧ va_Nw hy_nestR U ∧ hy_inj G
theorem hy_sh_lt {c k n : Nat} {rs : List (Option Nat)} (h : hy_sh c = (k, n, rs)) (hk : k < 3) : c < 81 := by
  by_cases hc : c < 81
  · exact hc
  · have e : hy_shape.length = 81 := by decide +kernel
    have : hy_sh c = (3, 0, []) := by
      unfold hy_sh
      rw [List.getD_eq_getElem?_getD, List.getElem?_eq_none (by omega)]
      rfl
    rw [this] at h
    cases h
    omega
theorem hy_ws_get {G : hy_G} {D : hy_M} {c : Nat} (h : c < 81) : (hy_ws G D)[c]? = some (G.1 c, hy_E G D c) := by
  unfold hy_ws
  rw [List.getElem?_map, List.getElem?_range h]
  rfl
theorem hy_ws_set {G : hy_G} {D D' : hy_M} {c : Nat} {e : va_E} (h : c < 81) (he : hy_E G D' c = e) (ho : ∀ c', c' < 81 → c' ≠ c → hy_E G D' c' = hy_E G D c') : (hy_ws G D).set c (G.1 c, e) = hy_ws G D' := by
  apply List.ext_getElem?
  intro i
  by_cases hi : i < 81
  · rw [hy_ws_get hi]
    by_cases hc : i = c
    · subst hc
      rw [List.getElem?_set_self (by simp [hy_ws, hi]), he]
    · rw [List.getElem?_set_ne (fun q => hc q.symm), hy_ws_get hi, ho i hi hc]
  · rw [List.getElem?_eq_none (by simp [hy_ws]; omega), List.getElem?_eq_none (by simp [hy_ws]; omega)]
theorem hy_D {G : hy_G} (h : hy_inj G) (D : hy_M) : va_D (hy_A G) (hy_ws G D) := by
  have key : ∀ (k : Nat) (q : Nat × va_E), (hy_ws G D)[k]? = some q → k < 81 ∧ q.1 = G.1 k := by
    intro k q hk
    have hl : k < 81 := by
      have := (List.getElem?_eq_some_iff.mp hk).1
      simpa [hy_ws] using this
    rw [hy_ws_get hl] at hk
    cases hk
    exact ⟨hl, rfl⟩
  refine ⟨fun i j p q hi hj hpq => ?_, fun k q hk => ?_⟩
  · obtain ⟨a1, a2⟩ := key i p hi
    obtain ⟨b1, b2⟩ := key j q hj
    exact h i j a1 b1 (by rw [← a2, ← b2]; exact hpq)
  · obtain ⟨a1, a2⟩ := key k q hk
    exact ⟨k, a1, a2.symm⟩
theorem hy_fs_get (ad : Nat → Nat) (D : hy_M) (c : Nat) : ∀ (rs : List (Option Nat)) (k j : Nat), (hy_fs ad D c k rs)[j]? = (rs[j]?).map (fun r => match r with | some q => Value.ref (ad q) | none => Value.int (D c (k + j)))
  | [], k, j => by simp [hy_fs]
  | some q :: rs, k, 0 => by simp [hy_fs]
  | none :: rs, k, 0 => by simp [hy_fs]
  | some q :: rs, k, j + 1 => by
    simp only [hy_fs, List.getElem?_cons_succ]
    rw [hy_fs_get ad D c rs (k + 1) j, show k + 1 + j = k + (j + 1) by omega]
  | none :: rs, k, j + 1 => by
    simp only [hy_fs, List.getElem?_cons_succ]
    rw [hy_fs_get ad D c rs (k + 1) j, show k + 1 + j = k + (j + 1) by omega]
theorem hy_fs_len (ad : Nat → Nat) (D : hy_M) (c : Nat) : ∀ (rs : List (Option Nat)) (k : Nat), (hy_fs ad D c k rs).length = rs.length
  | [], k => rfl
  | some q :: rs, k => by simp [hy_fs, hy_fs_len ad D c rs]
  | none :: rs, k => by simp [hy_fs, hy_fs_len ad D c rs]
theorem hy_w_same (D : hy_M) (c i : Nat) (x : Int32) : hy_w D c i x c = upd (D c) i x := by simp [hy_w]
theorem hy_w_ne {D : hy_M} {c c' i : Nat} {x : Int32} (h : c' ≠ c) : hy_w D c i x c' = D c' := by simp [hy_w, h]
theorem hy_fs_same {ad : Nat → Nat} {D D' : hy_M} {c : Nat} (h : D' c = D c) : ∀ (rs : List (Option Nat)) (k : Nat), hy_fs ad D' c k rs = hy_fs ad D c k rs
  | [], k => rfl
  | some q :: rs, k => by simp [hy_fs, hy_fs_same h rs]
  | none :: rs, k => by simp [hy_fs, hy_fs_same h rs, h]
theorem hy_fs_set {ad : Nat → Nat} {D : hy_M} {c j : Nat} {x : Int32} {rs : List (Option Nat)} (hj : rs[j]? = some none) : (hy_fs ad D c 0 rs).set j (.int x) = hy_fs ad (hy_w D c j x) c 0 rs := by
  apply List.ext_getElem?
  intro i
  by_cases hc : i = j
  · subst hc
    have hl : i < rs.length := (List.getElem?_eq_some_iff.mp hj).1
    rw [List.getElem?_set_self (by rw [hy_fs_len]; exact hl), hy_fs_get, hj]
    simp [hy_w_same, upd]
  · rw [List.getElem?_set_ne (fun q => hc q.symm), hy_fs_get, hy_fs_get]
    simp [hy_w_same, upd, hc]
theorem hy_E_same {G : hy_G} {D D' : hy_M} {c : Nat} (h : D' c = D c) : hy_E G D' c = hy_E G D c := by
  unfold hy_E
  split <;> simp_all [hy_fs_same]
/-! ===== one frame ===== -/
abbrev hy_X : Type := Program × Launch × Env × Room × State × MethodId × Array Value × List Frame × Method × Code × Nat × Nat × (State → Prop)
def hy_WT : List Cond := lw_tbl.filter goodWord
theorem hy_WT_in {w : Cond} (h : w ∈ lw_tbl) (g : goodWord w = true) : w ∈ hy_WT := List.mem_filter.mpr ⟨h, g⟩
theorem hy_in_tb {w : Cond} {i : Nat} (h : tables_1[i]? = some w) (g : goodWord w = true) : w ∈ hy_WT := hy_WT_in (List.mem_append_right _ (List.mem_of_getElem? h)) g
theorem hy_in_sel {w : Cond} {i : Nat} (h : (k2_sels lw_privs)[i]? = some w) (g : goodWord w = true) : w ∈ hy_WT := hy_WT_in (List.mem_append_left _ (List.mem_of_getElem? h)) g
def hy_Wt : hy_X → Heap → List Loc → Nat → Array Slot → List Value → Prop
  | (p, l, e, R, s, m, args, below, meth, c, cells, slots, Q), H, locs, pc, ls, st => W p l e R s m args below meth c H locs cells slots Q (F0 m pc ls st)
def hy_st : hy_X → State
  | (_, _, _, _, s, _, _, _, _, _, _, _, _) => s
/-- what a frame stands on -/
def hy_Cx (G : hy_G) (x : hy_X) (own : String) (cc : ByteArray) (nL fr lo : Nat) : Prop := match x with
  | (p, _, _, R, s, m, args, _, meth, c, cells, slots, _) => p.tables.exec = Jvm.exec ∧ c.code = cc ∧ c.maxLocals = nL ∧ s.vm.findClass own = some m.cls ∧ (∀ w ∈ hy_WT, w.before args s = true) ∧ meth.locks = false ∧ hy_K G s ∧ fr ≤ R.frames ∧ lo ≤ R.locals ∧ cells ≤ R.cells ∧ slots ≤ R.slots
def hy_LR (ad : Nat → Nat) (nL : Nat) (L : hy_L) (ls : Array Slot) : Prop := ls.size = nL ∧ lv_wf ls ∧ ∀ i v, hy_lget i L = some v → ls[i]? = some (.val (hy_v ad v))
/-- threaded code at pc speaks true: whenever it answers b, the machine comes to its end -/
def hy_Sn (G : hy_G) (x : hy_X) (nL pc : Nat) {β : Type} (b : β) (f : hy_C β) : Prop := ∀ (L : hy_L) (S : List Value) (D : hy_M) (ls : Array Slot) (H : Heap) (locs : List Loc), hy_LR G.1 nL L ls → hy_HR G D H → va_S (hy_A G) (hy_st x).heap H locs → f L S D = some b → hy_Wt x H locs pc ls (S.map (hy_v G.1))
def hy_dq (cc : ByteArray) (pc : Nat) (i : Instr) (n : Nat) : Bool := decide (decode cc pc = .ok (i, n))
theorem hy_dqs {cc : ByteArray} {pc n : Nat} {i : Instr} (h : hy_dq cc pc i n = true) : decode cc pc = .ok (i, n) := of_decide_eq_true h
def o_fail {β : Type} : hy_C β := fun _ _ _ => none
def o_push {β : Type} (v : Value) (f : hy_C β) : hy_C β := fun L S D => f L (v :: S) D
def o_iload {β : Type} (i : Nat) (f : hy_C β) : hy_C β := fun L S D => match hy_lget i L with
  | some (.int v) => f L (.int v :: S) D
  | _ => none
def o_lload {β : Type} (i : Nat) (f : hy_C β) : hy_C β := fun L S D => match hy_lget i L with
  | some (.long v) => f L (.long v :: S) D
  | _ => none
def o_aload {β : Type} (i : Nat) (f : hy_C β) : hy_C β := fun L S D => match hy_lget i L with
  | some (.ref v) => f L (.ref v :: S) D
  | _ => none
def hy_isL : Option Value → Bool
  | some (.long _) => true
  | some (.double _) => true
  | _ => false
/-- the place ahead holds no long: it stays when this one is written -/
def hy_ok1 : Nat → hy_L → Bool
  | 0, _ => true
  | i + 1, L => !(hy_isL (hy_lget i L))
def o_istore {β : Type} (i : Nat) (f : hy_C β) : hy_C β := fun L S D => match S with
  | .int v :: S' => bif hy_ok1 i L then f (hy_lset i (.int v) L) S' D else none
  | _ => none
def o_astore {β : Type} (i : Nat) (f : hy_C β) : hy_C β := fun L S D => match S with
  | .ref v :: S' => bif hy_ok1 i L then f (hy_lset i (.ref v) L) S' D else none
  | _ => none
def hy_lkill : Nat → hy_L → hy_L
  | _, [] => []
  | 0, _ :: l => none :: l
  | n + 1, x :: l => x :: hy_lkill n l
def o_lstore {β : Type} (i : Nat) (f : hy_C β) : hy_C β := fun L S D => match S with
  | .long v :: S' => bif hy_ok1 i L then f (hy_lkill (i + 1) (hy_lset i (.long v) L)) S' D else none
  | _ => none
def o_iinc {β : Type} (i : Nat) (n : Int32) (f : hy_C β) : hy_C β := fun L S D => match hy_lget i L with
  | some (.int v) => bif hy_ok1 i L then f (hy_lset i (.int (v + n)) L) S D else none
  | _ => none
def o_i2 {β : Type} (op : Int32 → Int32 → Int32) (f : hy_C β) : hy_C β := fun L S D => match S with
  | .int y :: .int z :: S' => f L (.int (op z y) :: S') D
  | _ => none
def o_idiv {β : Type} (f : hy_C β) : hy_C β := fun L S D => match S with
  | .int y :: .int z :: S' => if y = 0 then none else f L (.int (z / y) :: S') D
  | _ => none
def o_irem {β : Type} (f : hy_C β) : hy_C β := fun L S D => match S with
  | .int y :: .int z :: S' => if y = 0 then none else f L (.int (z - z / y * y) :: S') D
  | _ => none
def o_ldiv {β : Type} (f : hy_C β) : hy_C β := fun L S D => match S with
  | .long y :: .long z :: S' => if y = 0 then none else f L (.long (z / y) :: S') D
  | _ => none
def o_lrem {β : Type} (f : hy_C β) : hy_C β := fun L S D => match S with
  | .long y :: .long z :: S' => if y = 0 then none else f L (.long (z - z / y * y) :: S') D
  | _ => none
def o_ineg {β : Type} (f : hy_C β) : hy_C β := fun L S D => match S with
  | .int y :: S' => f L (.int (-y) :: S') D
  | _ => none
def o_i2l {β : Type} (f : hy_C β) : hy_C β := fun L S D => match S with
  | .int y :: S' => f L (.long y.toInt64 :: S') D
  | _ => none
def o_lcmp {β : Type} (f : hy_C β) : hy_C β := fun L S D => match S with
  | .long y :: .long z :: S' => f L (.int (lg_cmp z y) :: S') D
  | _ => none
def o_dup {β : Type} (f : hy_C β) : hy_C β := fun L S D => match S with
  | .int y :: S' => f L (.int y :: .int y :: S') D
  | .ref y :: S' => f L (.ref y :: .ref y :: S') D
  | _ => none
def o_dup2 {β : Type} (f : hy_C β) : hy_C β := fun L S D => match S with
  | .int y :: .ref z :: S' => f L (.int y :: .ref z :: .int y :: .ref z :: S') D
  | _ => none
def o_pop {β : Type} (f : hy_C β) : hy_C β := fun L S D => match S with
  | .int _ :: S' => f L S' D
  | _ => none
/-- branches: f where it goes, g the next -/
def o_ceq {β : Type} (f g : hy_C β) : hy_C β := fun L S D => match S with
  | .int y :: .int z :: S' => if z = y then f L S' D else g L S' D
  | _ => none
def o_clt {β : Type} (f g : hy_C β) : hy_C β := fun L S D => match S with
  | .int y :: .int z :: S' => if z < y then f L S' D else g L S' D
  | _ => none
def o_cgt {β : Type} (f g : hy_C β) : hy_C β := fun L S D => match S with
  | .int y :: .int z :: S' => if y < z then f L S' D else g L S' D
  | _ => none
def o_zeq {β : Type} (f g : hy_C β) : hy_C β := fun L S D => match S with
  | .int z :: S' => if z = 0 then f L S' D else g L S' D
  | _ => none
def o_zlt {β : Type} (f g : hy_C β) : hy_C β := fun L S D => match S with
  | .int z :: S' => if z < 0 then f L S' D else g L S' D
  | _ => none
def o_zgt {β : Type} (f g : hy_C β) : hy_C β := fun L S D => match S with
  | .int z :: S' => if 0 < z then f L S' D else g L S' D
  | _ => none
/-- a table, by the int on top -/
def hy_tab {β : Type} (z : Int32) (L : hy_L) (S : List Value) (D : hy_M) (d : hy_C β) : List (Int32 × hy_C β) → Option β
  | [] => d L S D
  | (k, f) :: fs => if z = k then f L S D else hy_tab z L S D d fs
def o_tab {β : Type} (ks : List (Int32 × hy_C β)) (d : hy_C β) : hy_C β := fun L S D => match S with
  | .int z :: S' => hy_tab z L S' D d ks
  | _ => none
/-- the memory -/
def o_getI {β : Type} (ci k : Nat) (f : hy_C β) : hy_C β := fun L S D => match S with
  | .ref o :: S' => bif hy_oc o ci k false then f L (.int (D o k) :: S') D else none
  | _ => none
def o_getR {β : Type} (ci k : Nat) (f : hy_C β) : hy_C β := fun L S D => match S with
  | .ref o :: S' => bif hy_oc o ci k true then f L (.ref (hy_pr o k) :: S') D else none
  | _ => none
def o_putI {β : Type} (ci k : Nat) (f : hy_C β) : hy_C β := fun L S D => match S with
  | .int v :: .ref o :: S' => bif hy_oc o ci k false then f L S' (hy_w D o k v) else none
  | _ => none
def o_putZ {β : Type} (ci k : Nat) (f : hy_C β) : hy_C β := fun L S D => match S with
  | .int v :: .ref o :: S' => bif hy_oc o ci k false then (if v = 0 ∨ v = 1 then f L S' (hy_w D o k v) else none) else none
  | _ => none
def o_iald {β : Type} (f : hy_C β) : hy_C β := fun L S D => match S with
  | .int j :: .ref r :: S' => if hy_in j (hy_al r) = true then f L (.int (D r j.toNatClampNeg) :: S') D else none
  | _ => none
def o_iast {β : Type} (f : hy_C β) : hy_C β := fun L S D => match S with
  | .int v :: .int j :: .ref r :: S' => if hy_in j (hy_wl r) = true then f L S' (hy_w D r j.toNatClampNeg v) else none
  | _ => none
def o_aald {β : Type} (f : hy_C β) : hy_C β := fun L S D => match S with
  | .int j :: .ref r :: S' => if hy_in j (hy_rl r) = true then f L (.ref (hy_pr r j.toNatClampNeg) :: S') D else none
  | _ => none
def o_gets {β : Type} (f : hy_C β) : hy_C β := fun L S D => f L (.ref 1000 :: S) D
/-- an array's part into another's -/
def hy_rng (p n : Int32) (k : Nat) : Bool := !(decide (p < 0)) && !(decide (n < 0)) && Nat.ble (p.toNatClampNeg + n.toNatClampNeg) k && Nat.ble 1 k
def hy_cat : List Value → Nat
  | [] => 0
  | v :: l => v.category + hy_cat l
def o_acpy {β : Type} (f : hy_C β) : hy_C β := fun L S D => match S with
  | .int n :: .int dp :: .ref b :: .int sp :: .ref a :: S' => bif Nat.ble (hy_cat S') 8 then (if hy_rng sp n (hy_wl a) = true ∧ hy_rng dp n (hy_wl b) = true then f L S' (hy_cp D a b sp.toNatClampNeg dp.toNatClampNeg n.toNatClampNeg) else none) else none
  | _ => none
/-- calls: n values off the stack -/
def hy_pop : Nat → List Value → List Value → Option (List Value × List Value)
  | 0, acc, S => some (acc, S)
  | n + 1, acc, v :: S => hy_pop n (v :: acc) S
  | _ + 1, _, [] => none
def o_cali {β : Type} (n : Nat) (g : List Value → hy_M → Option (Int32 × hy_M)) (f : hy_C β) : hy_C β := fun L S D => match hy_pop n [] S with
  | some (a, S') => bif Nat.ble (hy_cat S') 8 then (g a D).bind (fun q => f L (.int q.1 :: S') q.2) else none
  | none => none
def o_call {β : Type} (n : Nat) (g : List Value → hy_M → Option (Int64 × hy_M)) (f : hy_C β) : hy_C β := fun L S D => match hy_pop n [] S with
  | some (a, S') => bif Nat.ble (hy_cat S') 8 then (g a D).bind (fun q => f L (.long q.1 :: S') q.2) else none
  | none => none
def o_calv {β : Type} (n : Nat) (g : List Value → hy_M → Option hy_M) (f : hy_C β) : hy_C β := fun L S D => match hy_pop n [] S with
  | some (a, S') => bif Nat.ble (hy_cat S') 8 then (g a D).bind (fun q => f L S' q) else none
  | none => none
/-- the receiver is an object of the class -/
def hy_rc (ci : Nat) (a : List Value) : Bool := match a with
  | .ref o :: _ => hy_cl o ci
  | _ => false
def o_vali {β : Type} (ci n : Nat) (g : List Value → hy_M → Option (Int32 × hy_M)) (f : hy_C β) : hy_C β := fun L S D => match hy_pop n [] S with
  | some (a, S') => bif hy_rc ci a && Nat.ble (hy_cat S') 8 then (g a D).bind (fun q => f L (.int q.1 :: S') q.2) else none
  | none => none
def o_vall {β : Type} (ci n : Nat) (g : List Value → hy_M → Option (Int64 × hy_M)) (f : hy_C β) : hy_C β := fun L S D => match hy_pop n [] S with
  | some (a, S') => bif hy_rc ci a && Nat.ble (hy_cat S') 8 then (g a D).bind (fun q => f L (.long q.1 :: S') q.2) else none
  | none => none
def o_valv {β : Type} (ci n : Nat) (g : List Value → hy_M → Option hy_M) (f : hy_C β) : hy_C β := fun L S D => match hy_pop n [] S with
  | some (a, S') => bif hy_rc ci a && Nat.ble (hy_cat S') 8 then (g a D).bind (fun q => f L S' q) else none
  | none => none
/-- ends -/
def o_iret : hy_C (Int32 × hy_M) := fun _ S D => match S with
  | [.int v] => some (v, D)
  | _ => none
def o_zret : hy_C (Int32 × hy_M) := fun _ S D => match S with
  | [.int v] => if v = 0 ∨ v = 1 then some (v, D) else none
  | _ => none
def o_lret : hy_C (Int64 × hy_M) := fun _ S D => match S with
  | [.long v] => some (v, D)
  | _ => none
def o_vret : hy_C hy_M := fun _ S D => match S with
  | [] => some D
  | _ => none
/-- only some locals stay known -/
def hy_mk : List Bool → hy_L → hy_L
  | _, [] => []
  | [], _ :: l => none :: hy_mk [] l
  | true :: m, v :: l => v :: hy_mk m l
  | false :: m, _ :: l => none :: hy_mk m l
def o_mask {β : Type} (m : List Bool) (f : hy_C β) : hy_C β := fun L S D => f (hy_mk m L) S D
/-- a method's code from its start -/
def hy_wd : List Value → Nat
  | [] => 0
  | v :: l => v.category + hy_wd l
def hy_lo : List Value → hy_L
  | [] => []
  | .long v :: l => some (.long v) :: none :: hy_lo l
  | .double v :: l => some (.double v) :: none :: hy_lo l
  | v :: l => some v :: hy_lo l
def hy_g {β : Type} (nL : Nat) (f : hy_C β) : List Value → hy_M → Option β := fun a D => bif Nat.ble (hy_wd a) nL then f (hy_lo a ++ List.replicate (nL - hy_wd a) none) [] D else none
end
section
theorem hy_lget_lset {i : Nat} {v : Value} : ∀ {j : Nat} {w : Value} {L : hy_L} (_ : hy_lget j (hy_lset i v L) = some w), (j = i ∧ w = v) ∨ (j ≠ i ∧ hy_lget j L = some w) := by
  induction i with
  | zero =>
    intro j w L h
    cases L with
    | nil => simp [hy_lset, hy_lget] at h
    | cons a L =>
      cases j with
      | zero => simp [hy_lset, hy_lget] at h; exact Or.inl ⟨rfl, h.symm⟩
      | succ j => simp [hy_lset, hy_lget] at h; exact Or.inr ⟨by omega, by simpa [hy_lget] using h⟩
  | succ i ih =>
    intro j w L h
    cases L with
    | nil => simp [hy_lset, hy_lget] at h
    | cons a L =>
      cases j with
      | zero => simp [hy_lset, hy_lget] at h; exact Or.inr ⟨by omega, by simpa [hy_lget] using h⟩
      | succ j =>
        simp [hy_lset, hy_lget] at h
        rcases ih h with ⟨q1, q2⟩ | ⟨q1, q2⟩
        · exact Or.inl ⟨by omega, q2⟩
        · exact Or.inr ⟨by omega, by simpa [hy_lget] using q2⟩
theorem hy_lget_lkill {i : Nat} : ∀ {j : Nat} {w : Value} {L : hy_L} (_ : hy_lget j (hy_lkill i L) = some w), j ≠ i ∧ hy_lget j L = some w := by
  induction i with
  | zero =>
    intro j w L h
    cases L with
    | nil => simp [hy_lkill, hy_lget] at h
    | cons a L =>
      cases j with
      | zero => simp [hy_lkill, hy_lget] at h
      | succ j => simp [hy_lkill, hy_lget] at h; exact ⟨by omega, by simpa [hy_lget] using h⟩
  | succ i ih =>
    intro j w L h
    cases L with
    | nil => simp [hy_lkill, hy_lget] at h
    | cons a L =>
      cases j with
      | zero => simp [hy_lkill, hy_lget] at h; exact ⟨by omega, by simpa [hy_lget] using h⟩
      | succ j =>
        simp [hy_lkill, hy_lget] at h
        obtain ⟨q1, q2⟩ := ih h
        exact ⟨by omega, by simpa [hy_lget] using q2⟩
theorem hy_lget_mk : ∀ {m : List Bool} {L : hy_L} {j : Nat} {w : Value} (_ : hy_lget j (hy_mk m L) = some w), hy_lget j L = some w := by
  intro m L
  induction L generalizing m with
  | nil => intro j w h; cases m <;> simp [hy_mk, hy_lget] at h
  | cons a L ih =>
    intro j w h
    cases m with
    | nil =>
      cases j with
      | zero => simp [hy_mk, hy_lget] at h
      | succ j => simp [hy_mk, hy_lget] at h; simpa [hy_lget] using ih h
    | cons q m =>
      cases q <;> cases j with
      | zero => simp [hy_mk, hy_lget] at h <;> first | (simpa [hy_lget] using h) | trivial
      | succ j => simp [hy_mk, hy_lget] at h; simpa [hy_lget] using ih h
theorem hy_v_cat (ad : Nat → Nat) (v : Value) : (hy_v ad v).category = v.category := by cases v <;> rfl
/-- what is known of the locals, as a list -/
def hy_kn (ad : Nat → Nat) (n : Nat) (L : hy_L) : List (Nat × Value) := (List.range n).filterMap (fun i => (hy_lget i L).map (fun v => (i, hy_v ad v)))
theorem hy_kn_in {ad : Nat → Nat} {n j : Nat} {L : hy_L} {v : Value} (hj : j < n) (h : hy_lget j L = some v) : (j, hy_v ad v) ∈ hy_kn ad n L := by
  refine List.mem_filterMap.mpr ⟨j, List.mem_range.mpr hj, ?_⟩
  rw [h]
  rfl
theorem hy_LR_has {ad : Nat → Nat} {n : Nat} {L : hy_L} {ls : Array Slot} (h : hy_LR ad n L ls) : lv_has ls n (hy_kn ad n L) := by
  refine ⟨h.1, h.2.1, fun q hq => ?_⟩
  obtain ⟨i, -, hi⟩ := List.mem_filterMap.mp hq
  cases hg : hy_lget i L with
  | none => rw [hg] at hi; cases hi
  | some v =>
    rw [hg] at hi
    cases hi
    exact h.2.2 i v hg
theorem hy_LR_lt {ad : Nat → Nat} {n : Nat} {L : hy_L} {ls : Array Slot} (h : hy_LR ad n L ls) {j : Nat} {v : Value} (hj : hy_lget j L = some v) : j < n := by
  have := (Array.getElem?_eq_some_iff.mp (h.2.2 j v hj)).1
  rw [h.1] at this
  exact this
theorem hy_ok1_cat {i j : Nat} {L : hy_L} {v : Value} (h : hy_ok1 i L = true) (hj : hy_lget j L = some v) (e : j + 1 = i) : ¬ v.category = 2 := by
  subst e
  simp only [hy_ok1, hj, Bool.not_eq_true'] at h
  cases v <;> simp_all [hy_isL, Value.category]
theorem hy_LR_st1 {ad : Nat → Nat} {n i : Nat} {L : hy_L} {ls ls' : Array Slot} {v : Value} (h : hy_LR ad n L ls) (hok : hy_ok1 i L = true)
    (h' : lv_has ls' n ((i, hy_v ad v) :: (hy_kn ad n L).filter (fun q => !(q.1 == i) && !(q.1 + 1 == i && q.2.category == 2)))) : hy_LR ad n (hy_lset i v L) ls' := by
  refine ⟨h'.1, h'.2.1, fun j w hj => ?_⟩
  rcases hy_lget_lset hj with ⟨rfl, rfl⟩ | ⟨h1, h2⟩
  · exact h'.2.2 _ List.mem_cons_self
  · refine h'.2.2 (j, hy_v ad w) (List.mem_cons_of_mem _ (List.mem_filter.mpr ⟨hy_kn_in (hy_LR_lt h h2) h2, ?_⟩))
    simp only [Bool.and_eq_true, Bool.not_eq_true', beq_eq_false_iff_ne, ne_eq, Bool.and_eq_false_iff]
    refine ⟨h1, ?_⟩
    by_cases e : j + 1 = i
    · right
      rw [hy_v_cat]
      exact hy_ok1_cat hok h2 e
    · exact Or.inl e
theorem hy_LR_st2 {ad : Nat → Nat} {n i : Nat} {L : hy_L} {ls ls' : Array Slot} {v : Value} (h : hy_LR ad n L ls) (hok : hy_ok1 i L = true)
    (h' : lv_has ls' n ((i, hy_v ad v) :: (hy_kn ad n L).filter (fun q => !(q.1 == i) && (!(q.1 == i + 1) && !(q.1 + 1 == i && q.2.category == 2))))) : hy_LR ad n (hy_lkill (i + 1) (hy_lset i v L)) ls' := by
  refine ⟨h'.1, h'.2.1, fun j w hj => ?_⟩
  obtain ⟨h0, hj⟩ := hy_lget_lkill hj
  rcases hy_lget_lset hj with ⟨rfl, rfl⟩ | ⟨h1, h2⟩
  · exact h'.2.2 _ List.mem_cons_self
  · refine h'.2.2 (j, hy_v ad w) (List.mem_cons_of_mem _ (List.mem_filter.mpr ⟨hy_kn_in (hy_LR_lt h h2) h2, ?_⟩))
    simp only [Bool.and_eq_true, Bool.not_eq_true', beq_eq_false_iff_ne, ne_eq, Bool.and_eq_false_iff]
    refine ⟨h1, h0, ?_⟩
    by_cases e : j + 1 = i
    · right
      rw [hy_v_cat]
      exact hy_ok1_cat hok h2 e
    · exact Or.inl e
section HS
variable {G : hy_G} {x : hy_X} {own : String} {cc : ByteArray} {nL fr lo pc : Nat} {β : Type} {b : β} {f g : hy_C β}
theorem hs_fail : hy_Sn G x nL pc b (o_fail : hy_C β) := fun L S D ls H locs hL hH hS h => by cases h
theorem hs_mask {mk : List Bool} (k : hy_Sn G x nL pc b f) : hy_Sn G x nL pc b (o_mask mk f) := fun L S D ls H locs hL hH hS h => k _ S D ls H locs ⟨hL.1, hL.2.1, fun i v hi => hL.2.2 i v (hy_lget_mk hi)⟩ hH hS h
theorem hs_iconst (X : hy_Cx G x own cc nL fr lo) {n : Int} {v : Int32} (d : hy_dq cc pc (.iconst n) 1 = true) (hv : Int32.ofInt n = v) (k : hy_Sn G x nL (pc + 1) b f) : hy_Sn G x nL pc b (o_push (.int v) f) := by
  intro L S D ls H locs hL hH hS h
  obtain ⟨p, l, e, R, s, m, args, below, meth, c, cells, slots, Q⟩ := x
  obtain ⟨hx, hb, hml, hown, hts, hlk, hK, hfr, hlo, hce, hsl⟩ := X
  exact lv_iconst hx hb (hy_dqs d) hv (k L (.int v :: S) D ls H locs hL hH hS h)
theorem hs_bipush (X : hy_Cx G x own cc nL fr lo) {n : Int} {v : Int32} (d : hy_dq cc pc (.bipush n) 2 = true) (hv : (Int8.ofInt n).toInt32 = v) (k : hy_Sn G x nL (pc + 2) b f) : hy_Sn G x nL pc b (o_push (.int v) f) := by
  intro L S D ls H locs hL hH hS h
  obtain ⟨p, l, e, R, s, m, args, below, meth, c, cells, slots, Q⟩ := x
  obtain ⟨hx, hb, hml, hown, hts, hlk, hK, hfr, hlo, hce, hsl⟩ := X
  exact lv_bipush hx hb (hy_dqs d) hv (k L (.int v :: S) D ls H locs hL hH hS h)
theorem hs_sipush (X : hy_Cx G x own cc nL fr lo) {n : Int} {v : Int32} (d : hy_dq cc pc (.sipush n) 3 = true) (hv : (Int16.ofInt n).toInt32 = v) (k : hy_Sn G x nL (pc + 3) b f) : hy_Sn G x nL pc b (o_push (.int v) f) := by
  intro L S D ls H locs hL hH hS h
  obtain ⟨p, l, e, R, s, m, args, below, meth, c, cells, slots, Q⟩ := x
  obtain ⟨hx, hb, hml, hown, hts, hlk, hK, hfr, hlo, hce, hsl⟩ := X
  exact lv_sipush hx hb (hy_dqs d) hv (k L (.int v :: S) D ls H locs hL hH hS h)
theorem hs_lconst (X : hy_Cx G x own cc nL fr lo) {n : Fin 2} {v : Int64} (d : hy_dq cc pc (.lconst n) 1 = true) (hv : Int64.ofNat (n : Nat) = v) (k : hy_Sn G x nL (pc + 1) b f) : hy_Sn G x nL pc b (o_push (.long v) f) := by
  intro L S D ls H locs hL hH hS h
  obtain ⟨p, l, e, R, s, m, args, below, meth, c, cells, slots, Q⟩ := x
  obtain ⟨hx, hb, hml, hown, hts, hlk, hK, hfr, hlo, hce, hsl⟩ := X
  exact lv_lconst hx hb (hy_dqs d) hv (k L (.long v :: S) D ls H locs hL hH hS h)
theorem hs_ldc (X : hy_Cx G x own cc nL fr lo) {index : Nat} {v : Int32} (d : hy_dq cc pc (.ldc index) 2 = true) (w : Cond.constant own index v ∈ hy_WT) (k : hy_Sn G x nL (pc + 2) b f) : hy_Sn G x nL pc b (o_push (.int v) f) := by
  intro L S D ls H locs hL hH hS h
  obtain ⟨p, l, e, R, s, m, args, below, meth, c, cells, slots, Q⟩ := x
  obtain ⟨hx, hb, hml, hown, hts, hlk, hK, hfr, hlo, hce, hsl⟩ := X
  exact lv_ldc hx hb hown (hts _ w) (hy_dqs d) (k L (.int v :: S) D ls H locs hL hH hS h)
theorem hs_ldc_w (X : hy_Cx G x own cc nL fr lo) {index : Nat} {v : Int32} (d : hy_dq cc pc (.ldc_w index) 3 = true) (w : Cond.constant own index v ∈ hy_WT) (k : hy_Sn G x nL (pc + 3) b f) : hy_Sn G x nL pc b (o_push (.int v) f) := by
  intro L S D ls H locs hL hH hS h
  obtain ⟨p, l, e, R, s, m, args, below, meth, c, cells, slots, Q⟩ := x
  obtain ⟨hx, hb, hml, hown, hts, hlk, hK, hfr, hlo, hce, hsl⟩ := X
  exact lv_ldcw hx hb hown (hts _ w) (hy_dqs d) (k L (.int v :: S) D ls H locs hL hH hS h)
theorem hs_ldc2 (X : hy_Cx G x own cc nL fr lo) {index : Nat} {v : Int64} (d : hy_dq cc pc (.ldc2_w index) 3 = true) (w : Cond.constantLong own index v ∈ hy_WT) (k : hy_Sn G x nL (pc + 3) b f) : hy_Sn G x nL pc b (o_push (.long v) f) := by
  intro L S D ls H locs hL hH hS h
  obtain ⟨p, l, e, R, s, m, args, below, meth, c, cells, slots, Q⟩ := x
  obtain ⟨hx, hb, hml, hown, hts, hlk, hK, hfr, hlo, hce, hsl⟩ := X
  exact lv_ldc2 hx hb hown (hts _ w) (hy_dqs d) (k L (.long v :: S) D ls H locs hL hH hS h)
theorem hs_iload (X : hy_Cx G x own cc nL fr lo) {i : Nat} (d : hy_dq cc pc (.iload i) 2 = true) (k : hy_Sn G x nL (pc + 2) b f) : hy_Sn G x nL pc b (o_iload i f) := by
  intro L S D ls H locs hL hH hS h
  obtain ⟨p, l, e, R, s, m, args, below, meth, c, cells, slots, Q⟩ := x
  obtain ⟨hx, hb, hml, hown, hts, hlk, hK, hfr, hlo, hce, hsl⟩ := X
  unfold o_iload at h
  split at h
  · rename_i v hv
    exact lv_iload hx hb (hy_dqs d) (hL.2.2 i _ hv) (k L (.int v :: S) D ls H locs hL hH hS h)
  · cases h
theorem hs_iload_n (X : hy_Cx G x own cc nL fr lo) {i : Nat} {q : Fin 4} (d : hy_dq cc pc (.iload_n q) 1 = true) (hi : (q : Nat) = i) (k : hy_Sn G x nL (pc + 1) b f) : hy_Sn G x nL pc b (o_iload i f) := by
  intro L S D ls H locs hL hH hS h
  obtain ⟨p, l, e, R, s, m, args, below, meth, c, cells, slots, Q⟩ := x
  obtain ⟨hx, hb, hml, hown, hts, hlk, hK, hfr, hlo, hce, hsl⟩ := X
  unfold o_iload at h
  split at h
  · rename_i v hv
    exact lv_iload_n hx hb (hy_dqs d) hi (hL.2.2 i _ hv) (k L (.int v :: S) D ls H locs hL hH hS h)
  · cases h
theorem hs_lload (X : hy_Cx G x own cc nL fr lo) {i : Nat} (d : hy_dq cc pc (.lload i) 2 = true) (k : hy_Sn G x nL (pc + 2) b f) : hy_Sn G x nL pc b (o_lload i f) := by
  intro L S D ls H locs hL hH hS h
  obtain ⟨p, l, e, R, s, m, args, below, meth, c, cells, slots, Q⟩ := x
  obtain ⟨hx, hb, hml, hown, hts, hlk, hK, hfr, hlo, hce, hsl⟩ := X
  unfold o_lload at h
  split at h
  · rename_i v hv
    exact lv_lload hx hb (hy_dqs d) (hL.2.2 i _ hv) (k L (.long v :: S) D ls H locs hL hH hS h)
  · cases h
theorem hs_lload_n (X : hy_Cx G x own cc nL fr lo) {i : Nat} {q : Fin 4} (d : hy_dq cc pc (.lload_n q) 1 = true) (hi : (q : Nat) = i) (k : hy_Sn G x nL (pc + 1) b f) : hy_Sn G x nL pc b (o_lload i f) := by
  intro L S D ls H locs hL hH hS h
  obtain ⟨p, l, e, R, s, m, args, below, meth, c, cells, slots, Q⟩ := x
  obtain ⟨hx, hb, hml, hown, hts, hlk, hK, hfr, hlo, hce, hsl⟩ := X
  unfold o_lload at h
  split at h
  · rename_i v hv
    exact lv_lload_n hx hb (hy_dqs d) hi (hL.2.2 i _ hv) (k L (.long v :: S) D ls H locs hL hH hS h)
  · cases h
theorem hs_aload (X : hy_Cx G x own cc nL fr lo) {i : Nat} (d : hy_dq cc pc (.aload i) 2 = true) (k : hy_Sn G x nL (pc + 2) b f) : hy_Sn G x nL pc b (o_aload i f) := by
  intro L S D ls H locs hL hH hS h
  obtain ⟨p, l, e, R, s, m, args, below, meth, c, cells, slots, Q⟩ := x
  obtain ⟨hx, hb, hml, hown, hts, hlk, hK, hfr, hlo, hce, hsl⟩ := X
  unfold o_aload at h
  split at h
  · rename_i v hv
    exact lv_aload hx hb (hy_dqs d) (hL.2.2 i _ hv) (k L (.ref v :: S) D ls H locs hL hH hS h)
  · cases h
theorem hs_aload_n (X : hy_Cx G x own cc nL fr lo) {i : Nat} {q : Fin 4} (d : hy_dq cc pc (.aload_n q) 1 = true) (hi : (q : Nat) = i) (k : hy_Sn G x nL (pc + 1) b f) : hy_Sn G x nL pc b (o_aload i f) := by
  intro L S D ls H locs hL hH hS h
  obtain ⟨p, l, e, R, s, m, args, below, meth, c, cells, slots, Q⟩ := x
  obtain ⟨hx, hb, hml, hown, hts, hlk, hK, hfr, hlo, hce, hsl⟩ := X
  unfold o_aload at h
  split at h
  · rename_i v hv
    exact lv_aload_n hx hb (hy_dqs d) hi (hL.2.2 i _ hv) (k L (.ref v :: S) D ls H locs hL hH hS h)
  · cases h
theorem hs_istore (X : hy_Cx G x own cc nL fr lo) {i : Nat} (d : hy_dq cc pc (.istore i) 2 = true) (hn : i < nL) (k : hy_Sn G x nL (pc + 2) b f) : hy_Sn G x nL pc b (o_istore i f) := by
  intro L S D ls H locs hL hH hS h
  obtain ⟨p, l, e, R, s, m, args, below, meth, c, cells, slots, Q⟩ := x
  obtain ⟨hx, hb, hml, hown, hts, hlk, hK, hfr, hlo, hce, hsl⟩ := X
  unfold o_istore at h
  split at h
  · rename_i v S'
    cases hok : hy_ok1 i L with
    | false => rw [hok] at h; cases h
    | true =>
      rw [hok] at h
      exact lv_istore hx hb (hy_dqs d) (hy_LR_has hL) hn rfl (fun ls' h' => k _ S' D ls' H locs (hy_LR_st1 (v := .int v) hL hok h') hH hS h)
  · cases h
theorem hs_istore_n (X : hy_Cx G x own cc nL fr lo) {i : Nat} {q : Fin 4} (d : hy_dq cc pc (.istore_n q) 1 = true) (hi : (q : Nat) = i) (hn : i < nL) (k : hy_Sn G x nL (pc + 1) b f) : hy_Sn G x nL pc b (o_istore i f) := by
  intro L S D ls H locs hL hH hS h
  obtain ⟨p, l, e, R, s, m, args, below, meth, c, cells, slots, Q⟩ := x
  obtain ⟨hx, hb, hml, hown, hts, hlk, hK, hfr, hlo, hce, hsl⟩ := X
  unfold o_istore at h
  split at h
  · rename_i v S'
    cases hok : hy_ok1 i L with
    | false => rw [hok] at h; cases h
    | true =>
      rw [hok] at h
      exact lv_istore_n hx hb (hy_dqs d) hi (hy_LR_has hL) hn rfl (fun ls' h' => k _ S' D ls' H locs (hy_LR_st1 (v := .int v) hL hok h') hH hS h)
  · cases h
theorem hs_astore (X : hy_Cx G x own cc nL fr lo) {i : Nat} (d : hy_dq cc pc (.astore i) 2 = true) (hn : i < nL) (k : hy_Sn G x nL (pc + 2) b f) : hy_Sn G x nL pc b (o_astore i f) := by
  intro L S D ls H locs hL hH hS h
  obtain ⟨p, l, e, R, s, m, args, below, meth, c, cells, slots, Q⟩ := x
  obtain ⟨hx, hb, hml, hown, hts, hlk, hK, hfr, hlo, hce, hsl⟩ := X
  unfold o_astore at h
  split at h
  · rename_i v S'
    cases hok : hy_ok1 i L with
    | false => rw [hok] at h; cases h
    | true =>
      rw [hok] at h
      exact lv_astore hx hb (hy_dqs d) (hy_LR_has hL) hn rfl (fun ls' h' => k _ S' D ls' H locs (hy_LR_st1 (v := .ref v) hL hok h') hH hS h)
  · cases h
theorem hs_astore_n (X : hy_Cx G x own cc nL fr lo) {i : Nat} {q : Fin 4} (d : hy_dq cc pc (.astore_n q) 1 = true) (hi : (q : Nat) = i) (hn : i < nL) (k : hy_Sn G x nL (pc + 1) b f) : hy_Sn G x nL pc b (o_astore i f) := by
  intro L S D ls H locs hL hH hS h
  obtain ⟨p, l, e, R, s, m, args, below, meth, c, cells, slots, Q⟩ := x
  obtain ⟨hx, hb, hml, hown, hts, hlk, hK, hfr, hlo, hce, hsl⟩ := X
  unfold o_astore at h
  split at h
  · rename_i v S'
    cases hok : hy_ok1 i L with
    | false => rw [hok] at h; cases h
    | true =>
      rw [hok] at h
      exact lv_astore_n hx hb (hy_dqs d) hi (hy_LR_has hL) hn rfl (fun ls' h' => k _ S' D ls' H locs (hy_LR_st1 (v := .ref v) hL hok h') hH hS h)
  · cases h
theorem hs_lstore (X : hy_Cx G x own cc nL fr lo) {i : Nat} (d : hy_dq cc pc (.lstore i) 2 = true) (hn : i + 1 < nL) (k : hy_Sn G x nL (pc + 2) b f) : hy_Sn G x nL pc b (o_lstore i f) := by
  intro L S D ls H locs hL hH hS h
  obtain ⟨p, l, e, R, s, m, args, below, meth, c, cells, slots, Q⟩ := x
  obtain ⟨hx, hb, hml, hown, hts, hlk, hK, hfr, hlo, hce, hsl⟩ := X
  unfold o_lstore at h
  split at h
  · rename_i v S'
    cases hok : hy_ok1 i L with
    | false => rw [hok] at h; cases h
    | true =>
      rw [hok] at h
      exact lv_lstore hx hb (hy_dqs d) (hy_LR_has hL) hn rfl (fun ls' h' => k _ S' D ls' H locs (hy_LR_st2 (v := .long v) hL hok h') hH hS h)
  · cases h
theorem hs_lstore_n (X : hy_Cx G x own cc nL fr lo) {i : Nat} {q : Fin 4} (d : hy_dq cc pc (.lstore_n q) 1 = true) (hi : (q : Nat) = i) (hn : i + 1 < nL) (k : hy_Sn G x nL (pc + 1) b f) : hy_Sn G x nL pc b (o_lstore i f) := by
  intro L S D ls H locs hL hH hS h
  obtain ⟨p, l, e, R, s, m, args, below, meth, c, cells, slots, Q⟩ := x
  obtain ⟨hx, hb, hml, hown, hts, hlk, hK, hfr, hlo, hce, hsl⟩ := X
  unfold o_lstore at h
  split at h
  · rename_i v S'
    cases hok : hy_ok1 i L with
    | false => rw [hok] at h; cases h
    | true =>
      rw [hok] at h
      exact lv_lstore_n hx hb (hy_dqs d) hi (hy_LR_has hL) hn rfl (fun ls' h' => k _ S' D ls' H locs (hy_LR_st2 (v := .long v) hL hok h') hH hS h)
  · cases h
theorem hs_iinc (X : hy_Cx G x own cc nL fr lo) {i : Nat} {n : Int} {z : Int32} (d : hy_dq cc pc (.iinc i n) 3 = true) (hz : Int32.ofInt n = z) (hn : i < nL) (k : hy_Sn G x nL (pc + 3) b f) : hy_Sn G x nL pc b (o_iinc i z f) := by
  intro L S D ls H locs hL hH hS h
  obtain ⟨p, l, e, R, s, m, args, below, meth, c, cells, slots, Q⟩ := x
  obtain ⟨hx, hb, hml, hown, hts, hlk, hK, hfr, hlo, hce, hsl⟩ := X
  unfold o_iinc at h
  split at h
  · rename_i v hv
    cases hok : hy_ok1 i L with
    | false => rw [hok] at h; cases h
    | true =>
      rw [hok] at h
      obtain ⟨q, hq⟩ := List.getElem?_of_mem (hy_kn_in (ad := G.1) hn hv)
      exact lv_iinc hx hb (hy_dqs d) (hy_LR_has hL) hq (by rw [hz]) hn rfl (fun ls' h' => k _ S D ls' H locs (hy_LR_st1 (v := .int (v + z)) hL hok h') hH hS h)
  · cases h
theorem hs_iadd (X : hy_Cx G x own cc nL fr lo) (d : hy_dq cc pc .iadd 1 = true) (k : hy_Sn G x nL (pc + 1) b f) : hy_Sn G x nL pc b (o_i2 (fun a c => a + c) f) := by
  intro L S D ls H locs hL hH hS h
  obtain ⟨p, l, e, R, s, m, args, below, meth, c, cells, slots, Q⟩ := x
  obtain ⟨hx, hb, hml, hown, hts, hlk, hK, hfr, hlo, hce, hsl⟩ := X
  unfold o_i2 at h
  split at h
  · exact lv_iadd hx hb (hy_dqs d) (k _ _ _ _ _ _ hL hH hS h)
  · cases h
theorem hs_isub (X : hy_Cx G x own cc nL fr lo) (d : hy_dq cc pc .isub 1 = true) (k : hy_Sn G x nL (pc + 1) b f) : hy_Sn G x nL pc b (o_i2 (fun a c => a - c) f) := by
  intro L S D ls H locs hL hH hS h
  obtain ⟨p, l, e, R, s, m, args, below, meth, c, cells, slots, Q⟩ := x
  obtain ⟨hx, hb, hml, hown, hts, hlk, hK, hfr, hlo, hce, hsl⟩ := X
  unfold o_i2 at h
  split at h
  · exact lv_isub hx hb (hy_dqs d) (k _ _ _ _ _ _ hL hH hS h)
  · cases h
theorem hs_imul (X : hy_Cx G x own cc nL fr lo) (d : hy_dq cc pc .imul 1 = true) (k : hy_Sn G x nL (pc + 1) b f) : hy_Sn G x nL pc b (o_i2 (fun a c => a * c) f) := by
  intro L S D ls H locs hL hH hS h
  obtain ⟨p, l, e, R, s, m, args, below, meth, c, cells, slots, Q⟩ := x
  obtain ⟨hx, hb, hml, hown, hts, hlk, hK, hfr, hlo, hce, hsl⟩ := X
  unfold o_i2 at h
  split at h
  · exact lv_imul hx hb (hy_dqs d) (k _ _ _ _ _ _ hL hH hS h)
  · cases h
theorem hs_iand (X : hy_Cx G x own cc nL fr lo) (d : hy_dq cc pc .iand 1 = true) (k : hy_Sn G x nL (pc + 1) b f) : hy_Sn G x nL pc b (o_i2 (fun a c => a &&& c) f) := by
  intro L S D ls H locs hL hH hS h
  obtain ⟨p, l, e, R, s, m, args, below, meth, c, cells, slots, Q⟩ := x
  obtain ⟨hx, hb, hml, hown, hts, hlk, hK, hfr, hlo, hce, hsl⟩ := X
  unfold o_i2 at h
  split at h
  · exact lv_iand hx hb (hy_dqs d) (k _ _ _ _ _ _ hL hH hS h)
  · cases h
theorem hs_ior (X : hy_Cx G x own cc nL fr lo) (d : hy_dq cc pc .ior 1 = true) (k : hy_Sn G x nL (pc + 1) b f) : hy_Sn G x nL pc b (o_i2 (fun a c => a ||| c) f) := by
  intro L S D ls H locs hL hH hS h
  obtain ⟨p, l, e, R, s, m, args, below, meth, c, cells, slots, Q⟩ := x
  obtain ⟨hx, hb, hml, hown, hts, hlk, hK, hfr, hlo, hce, hsl⟩ := X
  unfold o_i2 at h
  split at h
  · exact lv_ior hx hb (hy_dqs d) (k _ _ _ _ _ _ hL hH hS h)
  · cases h
theorem hs_ishl (X : hy_Cx G x own cc nL fr lo) (d : hy_dq cc pc .ishl 1 = true) (k : hy_Sn G x nL (pc + 1) b f) : hy_Sn G x nL pc b (o_i2 (fun a c => a <<< (c &&& 31)) f) := by
  intro L S D ls H locs hL hH hS h
  obtain ⟨p, l, e, R, s, m, args, below, meth, c, cells, slots, Q⟩ := x
  obtain ⟨hx, hb, hml, hown, hts, hlk, hK, hfr, hlo, hce, hsl⟩ := X
  unfold o_i2 at h
  split at h
  · exact lv_ishl hx hb (hy_dqs d) (k _ _ _ _ _ _ hL hH hS h)
  · cases h
theorem hs_ishr (X : hy_Cx G x own cc nL fr lo) (d : hy_dq cc pc .ishr 1 = true) (k : hy_Sn G x nL (pc + 1) b f) : hy_Sn G x nL pc b (o_i2 (fun a c => a >>> (c &&& 31)) f) := by
  intro L S D ls H locs hL hH hS h
  obtain ⟨p, l, e, R, s, m, args, below, meth, c, cells, slots, Q⟩ := x
  obtain ⟨hx, hb, hml, hown, hts, hlk, hK, hfr, hlo, hce, hsl⟩ := X
  unfold o_i2 at h
  split at h
  · exact lv_ishr hx hb (hy_dqs d) (k _ _ _ _ _ _ hL hH hS h)
  · cases h
theorem hs_iushr (X : hy_Cx G x own cc nL fr lo) (d : hy_dq cc pc .iushr 1 = true) (k : hy_Sn G x nL (pc + 1) b f) : hy_Sn G x nL pc b (o_i2 (fun a c => (a.toUInt32 >>> (c.toUInt32 &&& Int32.toUInt32 31)).toInt32) f) := by
  intro L S D ls H locs hL hH hS h
  obtain ⟨p, l, e, R, s, m, args, below, meth, c, cells, slots, Q⟩ := x
  obtain ⟨hx, hb, hml, hown, hts, hlk, hK, hfr, hlo, hce, hsl⟩ := X
  unfold o_i2 at h
  split at h
  · exact lv_iushr hx hb (hy_dqs d) rfl (k _ _ _ _ _ _ hL hH hS h)
  · cases h
theorem hs_idiv (X : hy_Cx G x own cc nL fr lo) (d : hy_dq cc pc .idiv 1 = true) (k : hy_Sn G x nL (pc + 1) b f) : hy_Sn G x nL pc b (o_idiv f) := by
  intro L S D ls H locs hL hH hS h
  obtain ⟨p, l, e, R, s, m, args, below, meth, c, cells, slots, Q⟩ := x
  obtain ⟨hx, hb, hml, hown, hts, hlk, hK, hfr, hlo, hce, hsl⟩ := X
  unfold o_idiv at h
  split at h
  · rename_i y z S'
    by_cases hy : y = 0
    · rw [if_pos hy] at h
      cases h
    · rw [if_neg hy] at h
      exact lv_idiv hx hb (hy_dqs d) hy (k _ _ _ _ _ _ hL hH hS h)
  · cases h
theorem hs_irem (X : hy_Cx G x own cc nL fr lo) (d : hy_dq cc pc .irem 1 = true) (k : hy_Sn G x nL (pc + 1) b f) : hy_Sn G x nL pc b (o_irem f) := by
  intro L S D ls H locs hL hH hS h
  obtain ⟨p, l, e, R, s, m, args, below, meth, c, cells, slots, Q⟩ := x
  obtain ⟨hx, hb, hml, hown, hts, hlk, hK, hfr, hlo, hce, hsl⟩ := X
  unfold o_irem at h
  split at h
  · rename_i y z S'
    by_cases hy : y = 0
    · rw [if_pos hy] at h
      cases h
    · rw [if_neg hy] at h
      exact lv_irem hx hb (hy_dqs d) hy (k _ _ _ _ _ _ hL hH hS h)
  · cases h
theorem hs_ldiv (X : hy_Cx G x own cc nL fr lo) (d : hy_dq cc pc .ldiv 1 = true) (k : hy_Sn G x nL (pc + 1) b f) : hy_Sn G x nL pc b (o_ldiv f) := by
  intro L S D ls H locs hL hH hS h
  obtain ⟨p, l, e, R, s, m, args, below, meth, c, cells, slots, Q⟩ := x
  obtain ⟨hx, hb, hml, hown, hts, hlk, hK, hfr, hlo, hce, hsl⟩ := X
  unfold o_ldiv at h
  split at h
  · rename_i y z S'
    by_cases hy : y = 0
    · rw [if_pos hy] at h
      cases h
    · rw [if_neg hy] at h
      exact lv_ldiv hx hb (hy_dqs d) hy (k _ _ _ _ _ _ hL hH hS h)
  · cases h
theorem hs_lrem (X : hy_Cx G x own cc nL fr lo) (d : hy_dq cc pc .lrem 1 = true) (k : hy_Sn G x nL (pc + 1) b f) : hy_Sn G x nL pc b (o_lrem f) := by
  intro L S D ls H locs hL hH hS h
  obtain ⟨p, l, e, R, s, m, args, below, meth, c, cells, slots, Q⟩ := x
  obtain ⟨hx, hb, hml, hown, hts, hlk, hK, hfr, hlo, hce, hsl⟩ := X
  unfold o_lrem at h
  split at h
  · rename_i y z S'
    by_cases hy : y = 0
    · rw [if_pos hy] at h
      cases h
    · rw [if_neg hy] at h
      exact lv_lrem hx hb (hy_dqs d) hy (k _ _ _ _ _ _ hL hH hS h)
  · cases h
theorem hs_ineg (X : hy_Cx G x own cc nL fr lo) (d : hy_dq cc pc .ineg 1 = true) (k : hy_Sn G x nL (pc + 1) b f) : hy_Sn G x nL pc b (o_ineg f) := by
  intro L S D ls H locs hL hH hS h
  obtain ⟨p, l, e, R, s, m, args, below, meth, c, cells, slots, Q⟩ := x
  obtain ⟨hx, hb, hml, hown, hts, hlk, hK, hfr, hlo, hce, hsl⟩ := X
  unfold o_ineg at h
  split at h
  · exact lv_ineg hx hb (hy_dqs d) (k _ _ _ _ _ _ hL hH hS h)
  · cases h
theorem hs_i2l (X : hy_Cx G x own cc nL fr lo) (d : hy_dq cc pc .i2l 1 = true) (k : hy_Sn G x nL (pc + 1) b f) : hy_Sn G x nL pc b (o_i2l f) := by
  intro L S D ls H locs hL hH hS h
  obtain ⟨p, l, e, R, s, m, args, below, meth, c, cells, slots, Q⟩ := x
  obtain ⟨hx, hb, hml, hown, hts, hlk, hK, hfr, hlo, hce, hsl⟩ := X
  unfold o_i2l at h
  split at h
  · exact lv_i2l hx hb (hy_dqs d) rfl (k _ _ _ _ _ _ hL hH hS h)
  · cases h
theorem hs_lcmp (X : hy_Cx G x own cc nL fr lo) (d : hy_dq cc pc .lcmp 1 = true) (k : hy_Sn G x nL (pc + 1) b f) : hy_Sn G x nL pc b (o_lcmp f) := by
  intro L S D ls H locs hL hH hS h
  obtain ⟨p, l, e, R, s, m, args, below, meth, c, cells, slots, Q⟩ := x
  obtain ⟨hx, hb, hml, hown, hts, hlk, hK, hfr, hlo, hce, hsl⟩ := X
  unfold o_lcmp at h
  split at h
  · exact W.lcmp hx hb (hy_dqs d) (k _ _ _ _ _ _ hL hH hS h)
  · cases h
theorem hs_dup (X : hy_Cx G x own cc nL fr lo) (d : hy_dq cc pc .dup 1 = true) (k : hy_Sn G x nL (pc + 1) b f) : hy_Sn G x nL pc b (o_dup f) := by
  intro L S D ls H locs hL hH hS h
  obtain ⟨p, l, e, R, s, m, args, below, meth, c, cells, slots, Q⟩ := x
  obtain ⟨hx, hb, hml, hown, hts, hlk, hK, hfr, hlo, hce, hsl⟩ := X
  unfold o_dup at h
  split at h
  · exact lv_dup hx hb (hy_dqs d) rfl (k _ _ _ _ _ _ hL hH hS h)
  · exact lv_dup hx hb (hy_dqs d) rfl (k _ _ _ _ _ _ hL hH hS h)
  · cases h
theorem hs_dup2 (X : hy_Cx G x own cc nL fr lo) (d : hy_dq cc pc .dup2 1 = true) (k : hy_Sn G x nL (pc + 1) b f) : hy_Sn G x nL pc b (o_dup2 f) := by
  intro L S D ls H locs hL hH hS h
  obtain ⟨p, l, e, R, s, m, args, below, meth, c, cells, slots, Q⟩ := x
  obtain ⟨hx, hb, hml, hown, hts, hlk, hK, hfr, hlo, hce, hsl⟩ := X
  unfold o_dup2 at h
  split at h
  · exact lv_dup2_11 hx hb (hy_dqs d) rfl rfl (k _ _ _ _ _ _ hL hH hS h)
  · cases h
theorem hs_pop (X : hy_Cx G x own cc nL fr lo) (d : hy_dq cc pc .pop 1 = true) (k : hy_Sn G x nL (pc + 1) b f) : hy_Sn G x nL pc b (o_pop f) := by
  intro L S D ls H locs hL hH hS h
  obtain ⟨p, l, e, R, s, m, args, below, meth, c, cells, slots, Q⟩ := x
  obtain ⟨hx, hb, hml, hown, hts, hlk, hK, hfr, hlo, hce, hsl⟩ := X
  unfold o_pop at h
  split at h
  · exact lv_pop hx hb (hy_dqs d) rfl (k _ _ _ _ _ _ hL hH hS h)
  · cases h
theorem hs_goto (X : hy_Cx G x own cc nL fr lo) {off : Int} {tgt : Nat} (d : hy_dq cc pc (.goto off) 3 = true) (ht : (pc : Int) + off = (tgt : Int)) (k : hy_Sn G x nL tgt b f) : hy_Sn G x nL pc b f := by
  intro L S D ls H locs hL hH hS h
  obtain ⟨p, l, e, R, s, m, args, below, meth, c, cells, slots, Q⟩ := x
  obtain ⟨hx, hb, hml, hown, hts, hlk, hK, hfr, hlo, hce, hsl⟩ := X
  exact lv_goto hx hb (hy_dqs d) ht (k _ _ _ _ _ _ hL hH hS h)
theorem hs_ceq (X : hy_Cx G x own cc nL fr lo) {off : Int} {tgt : Nat} (d : hy_dq cc pc (.if_icmp .eq off) 3 = true) (ht : (pc : Int) + off = (tgt : Int)) (k1 : hy_Sn G x nL tgt b f) (k2 : hy_Sn G x nL (pc + 3) b g) : hy_Sn G x nL pc b (o_ceq f g) := by
  intro L S D ls H locs hL hH hS h
  obtain ⟨p, l, e, R, s, m, args, below, meth, c, cells, slots, Q⟩ := x
  obtain ⟨hx, hb, hml, hown, hts, hlk, hK, hfr, hlo, hce, hsl⟩ := X
  unfold o_ceq at h
  split at h
  · exact lv_icmp_eq hx hb (hy_dqs d) ht (fun q => k1 _ _ _ _ _ _ hL hH hS (by rw [if_pos q] at h; exact h)) (fun q => k2 _ _ _ _ _ _ hL hH hS (by rw [if_neg q] at h; exact h))
  · cases h
theorem hs_cne (X : hy_Cx G x own cc nL fr lo) {off : Int} {tgt : Nat} (d : hy_dq cc pc (.if_icmp .ne off) 3 = true) (ht : (pc : Int) + off = (tgt : Int)) (k1 : hy_Sn G x nL (pc + 3) b f) (k2 : hy_Sn G x nL tgt b g) : hy_Sn G x nL pc b (o_ceq f g) := by
  intro L S D ls H locs hL hH hS h
  obtain ⟨p, l, e, R, s, m, args, below, meth, c, cells, slots, Q⟩ := x
  obtain ⟨hx, hb, hml, hown, hts, hlk, hK, hfr, hlo, hce, hsl⟩ := X
  unfold o_ceq at h
  split at h
  · exact lv_icmp_ne hx hb (hy_dqs d) ht (fun q => k2 _ _ _ _ _ _ hL hH hS (by rw [if_neg q] at h; exact h)) (fun q => k1 _ _ _ _ _ _ hL hH hS (by rw [if_pos q] at h; exact h))
  · cases h
theorem hs_clt (X : hy_Cx G x own cc nL fr lo) {off : Int} {tgt : Nat} (d : hy_dq cc pc (.if_icmp .lt off) 3 = true) (ht : (pc : Int) + off = (tgt : Int)) (k1 : hy_Sn G x nL tgt b f) (k2 : hy_Sn G x nL (pc + 3) b g) : hy_Sn G x nL pc b (o_clt f g) := by
  intro L S D ls H locs hL hH hS h
  obtain ⟨p, l, e, R, s, m, args, below, meth, c, cells, slots, Q⟩ := x
  obtain ⟨hx, hb, hml, hown, hts, hlk, hK, hfr, hlo, hce, hsl⟩ := X
  unfold o_clt at h
  split at h
  · exact lv_icmp_lt hx hb (hy_dqs d) ht (fun q => k1 _ _ _ _ _ _ hL hH hS (by rw [if_pos q] at h; exact h)) (fun q => k2 _ _ _ _ _ _ hL hH hS (by rw [if_neg q] at h; exact h))
  · cases h
theorem hs_cge (X : hy_Cx G x own cc nL fr lo) {off : Int} {tgt : Nat} (d : hy_dq cc pc (.if_icmp .ge off) 3 = true) (ht : (pc : Int) + off = (tgt : Int)) (k1 : hy_Sn G x nL (pc + 3) b f) (k2 : hy_Sn G x nL tgt b g) : hy_Sn G x nL pc b (o_clt f g) := by
  intro L S D ls H locs hL hH hS h
  obtain ⟨p, l, e, R, s, m, args, below, meth, c, cells, slots, Q⟩ := x
  obtain ⟨hx, hb, hml, hown, hts, hlk, hK, hfr, hlo, hce, hsl⟩ := X
  unfold o_clt at h
  split at h
  · exact lv_icmp_ge hx hb (hy_dqs d) ht (fun q => k2 _ _ _ _ _ _ hL hH hS (by rw [if_neg (Int32.not_lt.mpr q)] at h; exact h)) (fun q => k1 _ _ _ _ _ _ hL hH hS (by rw [if_pos (Int32.not_le.mp q)] at h; exact h))
  · cases h
theorem hs_cgt (X : hy_Cx G x own cc nL fr lo) {off : Int} {tgt : Nat} (d : hy_dq cc pc (.if_icmp .gt off) 3 = true) (ht : (pc : Int) + off = (tgt : Int)) (k1 : hy_Sn G x nL tgt b f) (k2 : hy_Sn G x nL (pc + 3) b g) : hy_Sn G x nL pc b (o_cgt f g) := by
  intro L S D ls H locs hL hH hS h
  obtain ⟨p, l, e, R, s, m, args, below, meth, c, cells, slots, Q⟩ := x
  obtain ⟨hx, hb, hml, hown, hts, hlk, hK, hfr, hlo, hce, hsl⟩ := X
  unfold o_cgt at h
  split at h
  · exact lv_icmp_gt hx hb (hy_dqs d) ht (fun q => k1 _ _ _ _ _ _ hL hH hS (by rw [if_pos q] at h; exact h)) (fun q => k2 _ _ _ _ _ _ hL hH hS (by rw [if_neg q] at h; exact h))
  · cases h
theorem hs_cle (X : hy_Cx G x own cc nL fr lo) {off : Int} {tgt : Nat} (d : hy_dq cc pc (.if_icmp .le off) 3 = true) (ht : (pc : Int) + off = (tgt : Int)) (k1 : hy_Sn G x nL (pc + 3) b f) (k2 : hy_Sn G x nL tgt b g) : hy_Sn G x nL pc b (o_cgt f g) := by
  intro L S D ls H locs hL hH hS h
  obtain ⟨p, l, e, R, s, m, args, below, meth, c, cells, slots, Q⟩ := x
  obtain ⟨hx, hb, hml, hown, hts, hlk, hK, hfr, hlo, hce, hsl⟩ := X
  unfold o_cgt at h
  split at h
  · exact lv_icmp_le hx hb (hy_dqs d) ht (fun q => k2 _ _ _ _ _ _ hL hH hS (by rw [if_neg (Int32.not_lt.mpr q)] at h; exact h)) (fun q => k1 _ _ _ _ _ _ hL hH hS (by rw [if_pos (Int32.not_le.mp q)] at h; exact h))
  · cases h
theorem hs_zeq (X : hy_Cx G x own cc nL fr lo) {off : Int} {tgt : Nat} (d : hy_dq cc pc (.ifCond .eq off) 3 = true) (ht : (pc : Int) + off = (tgt : Int)) (k1 : hy_Sn G x nL tgt b f) (k2 : hy_Sn G x nL (pc + 3) b g) : hy_Sn G x nL pc b (o_zeq f g) := by
  intro L S D ls H locs hL hH hS h
  obtain ⟨p, l, e, R, s, m, args, below, meth, c, cells, slots, Q⟩ := x
  obtain ⟨hx, hb, hml, hown, hts, hlk, hK, hfr, hlo, hce, hsl⟩ := X
  unfold o_zeq at h
  split at h
  · exact lv_if_eq hx hb (hy_dqs d) ht (fun q => k1 _ _ _ _ _ _ hL hH hS (by rw [if_pos q] at h; exact h)) (fun q => k2 _ _ _ _ _ _ hL hH hS (by rw [if_neg q] at h; exact h))
  · cases h
theorem hs_zne (X : hy_Cx G x own cc nL fr lo) {off : Int} {tgt : Nat} (d : hy_dq cc pc (.ifCond .ne off) 3 = true) (ht : (pc : Int) + off = (tgt : Int)) (k1 : hy_Sn G x nL (pc + 3) b f) (k2 : hy_Sn G x nL tgt b g) : hy_Sn G x nL pc b (o_zeq f g) := by
  intro L S D ls H locs hL hH hS h
  obtain ⟨p, l, e, R, s, m, args, below, meth, c, cells, slots, Q⟩ := x
  obtain ⟨hx, hb, hml, hown, hts, hlk, hK, hfr, hlo, hce, hsl⟩ := X
  unfold o_zeq at h
  split at h
  · exact lv_if_ne hx hb (hy_dqs d) ht (fun q => k2 _ _ _ _ _ _ hL hH hS (by rw [if_neg q] at h; exact h)) (fun q => k1 _ _ _ _ _ _ hL hH hS (by rw [if_pos q] at h; exact h))
  · cases h
theorem hs_zlt (X : hy_Cx G x own cc nL fr lo) {off : Int} {tgt : Nat} (d : hy_dq cc pc (.ifCond .lt off) 3 = true) (ht : (pc : Int) + off = (tgt : Int)) (k1 : hy_Sn G x nL tgt b f) (k2 : hy_Sn G x nL (pc + 3) b g) : hy_Sn G x nL pc b (o_zlt f g) := by
  intro L S D ls H locs hL hH hS h
  obtain ⟨p, l, e, R, s, m, args, below, meth, c, cells, slots, Q⟩ := x
  obtain ⟨hx, hb, hml, hown, hts, hlk, hK, hfr, hlo, hce, hsl⟩ := X
  unfold o_zlt at h
  split at h
  · exact lv_if_lt hx hb (hy_dqs d) ht (fun q => k1 _ _ _ _ _ _ hL hH hS (by rw [if_pos q] at h; exact h)) (fun q => k2 _ _ _ _ _ _ hL hH hS (by rw [if_neg q] at h; exact h))
  · cases h
theorem hs_zge (X : hy_Cx G x own cc nL fr lo) {off : Int} {tgt : Nat} (d : hy_dq cc pc (.ifCond .ge off) 3 = true) (ht : (pc : Int) + off = (tgt : Int)) (k1 : hy_Sn G x nL (pc + 3) b f) (k2 : hy_Sn G x nL tgt b g) : hy_Sn G x nL pc b (o_zlt f g) := by
  intro L S D ls H locs hL hH hS h
  obtain ⟨p, l, e, R, s, m, args, below, meth, c, cells, slots, Q⟩ := x
  obtain ⟨hx, hb, hml, hown, hts, hlk, hK, hfr, hlo, hce, hsl⟩ := X
  unfold o_zlt at h
  split at h
  · exact lv_if_ge hx hb (hy_dqs d) ht (fun q => k2 _ _ _ _ _ _ hL hH hS (by rw [if_neg (Int32.not_lt.mpr q)] at h; exact h)) (fun q => k1 _ _ _ _ _ _ hL hH hS (by rw [if_pos (Int32.not_le.mp q)] at h; exact h))
  · cases h
theorem hs_zgt (X : hy_Cx G x own cc nL fr lo) {off : Int} {tgt : Nat} (d : hy_dq cc pc (.ifCond .gt off) 3 = true) (ht : (pc : Int) + off = (tgt : Int)) (k1 : hy_Sn G x nL tgt b f) (k2 : hy_Sn G x nL (pc + 3) b g) : hy_Sn G x nL pc b (o_zgt f g) := by
  intro L S D ls H locs hL hH hS h
  obtain ⟨p, l, e, R, s, m, args, below, meth, c, cells, slots, Q⟩ := x
  obtain ⟨hx, hb, hml, hown, hts, hlk, hK, hfr, hlo, hce, hsl⟩ := X
  unfold o_zgt at h
  split at h
  · exact lv_if_gt hx hb (hy_dqs d) ht (fun q => k1 _ _ _ _ _ _ hL hH hS (by rw [if_pos q] at h; exact h)) (fun q => k2 _ _ _ _ _ _ hL hH hS (by rw [if_neg q] at h; exact h))
  · cases h
theorem hs_zle (X : hy_Cx G x own cc nL fr lo) {off : Int} {tgt : Nat} (d : hy_dq cc pc (.ifCond .le off) 3 = true) (ht : (pc : Int) + off = (tgt : Int)) (k1 : hy_Sn G x nL (pc + 3) b f) (k2 : hy_Sn G x nL tgt b g) : hy_Sn G x nL pc b (o_zgt f g) := by
  intro L S D ls H locs hL hH hS h
  obtain ⟨p, l, e, R, s, m, args, below, meth, c, cells, slots, Q⟩ := x
  obtain ⟨hx, hb, hml, hown, hts, hlk, hK, hfr, hlo, hce, hsl⟩ := X
  unfold o_zgt at h
  split at h
  · exact lv_if_le hx hb (hy_dqs d) ht (fun q => k2 _ _ _ _ _ _ hL hH hS (by rw [if_neg (Int32.not_lt.mpr q)] at h; exact h)) (fun q => k1 _ _ _ _ _ _ hL hH hS (by rw [if_pos (Int32.not_le.mp q)] at h; exact h))
  · cases h
end HS
end
section
/-! ===== the memory's rows ===== -/
theorem hy_oc_spec {c ci k : Nat} {r : Bool} (h : hy_oc c ci k r = true) : ∃ rs, hy_sh c = (2, ci, rs) ∧ ((r = false ∧ rs[k]? = some none) ∨ (r = true ∧ ∃ q, rs[k]? = some (some q) ∧ hy_pr c k = q)) := by
  unfold hy_oc at h
  split at h
  · rename_i ci' rs hsh
    simp only [Bool.and_eq_true, Nat.beq_eq] at h
    obtain ⟨rfl, h⟩ := h
    refine ⟨rs, hsh, ?_⟩
    split at h
    · rename_i q hq
      refine Or.inr ⟨h, q, hq, ?_⟩
      unfold hy_pr
      rw [hsh, List.getD_eq_getElem?_getD, hq]
      rfl
    · rename_i hq
      exact Or.inl ⟨by simpa using h, hq⟩
    · cases h
  · cases h
theorem hy_cl_spec {c ci : Nat} (h : hy_cl c ci = true) : ∃ rs, hy_sh c = (2, ci, rs) := by
  unfold hy_cl at h
  split at h
  · rename_i ci' rs hsh
    simp only [Nat.beq_eq] at h
    subst h
    exact ⟨rs, hsh⟩
  · cases h
theorem hy_wl_spec {r : Nat} (h : 0 < hy_wl r) : ∃ rs, hy_sh r = (0, hy_wl r, rs) := by
  unfold hy_wl at h ⊢
  split at h
  · rename_i n rs hsh
    exact ⟨rs, by rw [hsh]⟩
  · omega
theorem hy_al_spec {r : Nat} (h : 0 < hy_al r) : (∃ rs, hy_sh r = (0, hy_al r, rs)) ∨ (r = 1000 ∧ hy_al r = 8) := by
  unfold hy_al at h ⊢
  split at h
  · rename_i n rs hsh
    exact Or.inl ⟨rs, by rw [hsh]⟩
  · right
    cases hb : Nat.beq r 1000 with
    | false => rw [hb] at h; simp at h
    | true =>
      have e : r = 1000 := Nat.eq_of_beq_eq_true hb
      subst e
      exact ⟨rfl, by decide +kernel⟩
theorem hy_rl_spec {r : Nat} (h : 0 < hy_rl r) : ∃ rs, hy_sh r = (1, hy_rl r, rs) := by
  unfold hy_rl at h ⊢
  split at h
  · rename_i n rs hsh
    exact ⟨rs, by rw [hsh]⟩
  · omega
theorem hy_in_pos {j : Int32} {n : Nat} (h : hy_in j n = true) : j.toNatClampNeg < n := by
  simp only [hy_in, Bool.and_eq_true, Nat.ble_eq] at h
  omega
theorem hy_E_0 {G : hy_G} {D : hy_M} {c n : Nat} {rs : List (Option Nat)} (h : hy_sh c = (0, n, rs)) : hy_E G D c = .inl (G.2.2.2.1, n, .inl (D c)) := by
  unfold hy_E; rw [h]; rfl
theorem hy_E_1 {G : hy_G} {D : hy_M} {c n : Nat} {rs : List (Option Nat)} (h : hy_sh c = (1, n, rs)) : hy_E G D c = .inl (G.2.2.2.2, n, .inr (.inr (.inr (.inr (fun j => if j < n then some (G.1 ((rs.getD j none).getD 0)) else none))))) := by
  unfold hy_E; rw [h]; rfl
theorem hy_E_2 {G : hy_G} {D : hy_M} {c n : Nat} {rs : List (Option Nat)} (h : hy_sh c = (2, n, rs)) : hy_E G D c = .inr (n, hy_fs G.1 D c 0 rs) := by
  unfold hy_E; rw [h]; rfl
theorem hy_HR_put {G : hy_G} {D D' : hy_M} {c : Nat} {e : va_E} {H H1 : Heap} (hH : hy_HR G D H) (hc : c < 81) (he : hy_E G D' c = e) (ho : ∀ c', c' ≠ c → D' c' = D c') (hP : va_P (G.2.1, G.2.2.1) vwCl ((hy_ws G D).set c (G.1 c, e)) H1) : hy_HR G D' H1 := by
  rw [hy_ws_set (D' := D') hc he (fun c' _ h => hy_E_same (ho c' h))] at hP
  exact ⟨hP, fun j hj => by rw [ho 1000 (by omega)]; exact hH.2 j hj⟩
/-- a class's words, by its number -/
def hy_cls (ci : Nat) (C : String) (T : u_T) (N : Nat) (ty : Nat → FieldType) : Prop := vwCl[ci]? = some (C, T, N) ∧ (∀ w ∈ u_ws C T N, w ∈ hy_WT) ∧ (∀ k, k < N → parseFieldDescriptor (T k).2.2.1 = some (ty k)) ∧ ∀ a, a < N → ∀ b, b < N → a ≠ b → (T a).2.1 ≠ (T b).2.1
/-- a pool's entry that names field k of class ci -/
def hy_fl (own : String) (index ci k : Nat) : Prop := ∃ C T N ty, hy_cls ci C T N ty ∧ k < N ∧ Cond.fieldLink own index (T k).1 (T k).2.1 (T k).2.2.1 ∈ hy_WT
/-- .. that may be written, of a type -/
def hy_fp (own : String) (index ci k : Nat) (t : FieldType) : Prop := ∃ C T N ty, hy_cls ci C T N ty ∧ k < N ∧ Cond.fieldLink own index (T k).1 (T k).2.1 (T k).2.2.1 ∈ hy_WT ∧ (T k).2.2.2 = false ∧ ty k = t
section HM
variable {G : hy_G} {x : hy_X} {own : String} {cc : ByteArray} {nL fr lo pc : Nat} {β : Type} {b : β} {f g : hy_C β}
theorem hs_getI (X : hy_Cx G x own cc nL fr lo) {index ci q : Nat} (w : hy_fl own index ci q) (d : hy_dq cc pc (.getfield index) 3 = true) (k : hy_Sn G x nL (pc + 3) b f) : hy_Sn G x nL pc b (o_getI ci q f) := by
  intro L S D ls H locs hL hH hS h
  obtain ⟨p, l, e, R, s, m, args, below, meth, c, cells, slots, Q⟩ := x
  obtain ⟨hx, hb, hml, hown, hts, hlk, hK, hfr, hlo, hce, hsl⟩ := X
  unfold o_getI at h
  split at h
  · rename_i o S'
    cases hok : hy_oc o ci q false with
    | false => rw [hok] at h; cases h
    | true =>
      rw [hok] at h
      obtain ⟨rs, hsh, ⟨-, hrs⟩ | ⟨hf, -⟩⟩ := hy_oc_spec hok
      · obtain ⟨C, T, N, ty, ⟨hc, hu, -⟩, hk, hw⟩ := w
        have hlt := hy_sh_lt hsh (by omega)
        exact va_get hx hb hts hu hown hK.1 hH.1 o (by rw [hy_ws_get hlt, hy_E_2 hsh]) hc q hk (hts _ hw) (fun _ h9 => h9) (v := .int (D o q)) (by rw [hy_fs_get, hrs]; simp) (hy_dqs d) (k _ _ _ _ _ _ hL hH hS h)
      · cases hf
  · cases h
theorem hs_getR (X : hy_Cx G x own cc nL fr lo) {index ci q : Nat} (w : hy_fl own index ci q) (d : hy_dq cc pc (.getfield index) 3 = true) (k : hy_Sn G x nL (pc + 3) b f) : hy_Sn G x nL pc b (o_getR ci q f) := by
  intro L S D ls H locs hL hH hS h
  obtain ⟨p, l, e, R, s, m, args, below, meth, c, cells, slots, Q⟩ := x
  obtain ⟨hx, hb, hml, hown, hts, hlk, hK, hfr, hlo, hce, hsl⟩ := X
  unfold o_getR at h
  split at h
  · rename_i o S'
    cases hok : hy_oc o ci q true with
    | false => rw [hok] at h; cases h
    | true =>
      rw [hok] at h
      obtain ⟨rs, hsh, ⟨hf, -⟩ | ⟨-, r, hr, hp⟩⟩ := hy_oc_spec hok
      · cases hf
      · obtain ⟨C, T, N, ty, ⟨hc, hu, -⟩, hk, hw⟩ := w
        have hlt := hy_sh_lt hsh (by omega)
        exact va_get hx hb hts hu hown hK.1 hH.1 o (by rw [hy_ws_get hlt, hy_E_2 hsh]) hc q hk (hts _ hw) (fun _ h9 => h9) (v := .ref (G.1 (hy_pr o q))) (by rw [hy_fs_get, hr, hp]; rfl) (hy_dqs d) (k _ _ _ _ _ _ hL hH hS h)
  · cases h
theorem hs_putI (X : hy_Cx G x own cc nL fr lo) {index ci q : Nat} (w : hy_fp own index ci q .int) (d : hy_dq cc pc (.putfield index) 3 = true) (k : hy_Sn G x nL (pc + 3) b f) : hy_Sn G x nL pc b (o_putI ci q f) := by
  intro L S D ls H locs hL hH hS h
  obtain ⟨p, l, e, R, s, m, args, below, meth, c, cells, slots, Q⟩ := x
  obtain ⟨hx, hb, hml, hown, hts, hlk, hK, hfr, hlo, hce, hsl⟩ := X
  unfold o_putI at h
  split at h
  · rename_i v o S'
    cases hok : hy_oc o ci q false with
    | false => rw [hok] at h; cases h
    | true =>
      rw [hok] at h
      dsimp only [cond_true] at h
      obtain ⟨rs, hsh, ⟨-, hrs⟩ | ⟨hf, -⟩⟩ := hy_oc_spec hok
      · obtain ⟨C, T, N, ty, ⟨hc, hu, hty, hnm⟩, hk, hw, hfin, ht⟩ := w
        have hlt := hy_sh_lt hsh (by omega)
        exact va_put hx hb hts hu ty hty hnm hown hK.1 hH.1 (hy_D hK.2.2.2.2.2 D) hS o (fs := hy_fs G.1 D o 0 rs) (by rw [hy_ws_get hlt, hy_E_2 hsh]) hc q hk (hts _ hw) (fun _ h9 => h9) hfin (ty := .int) (v := .int v) (by rw [hty q hk, ht]) rfl rfl (by rw [hy_fs_len]; exact (List.getElem?_eq_some_iff.mp hrs).1) (hy_dqs d) (fun H1 locs1 hP1 hD1 hS1 => k _ _ _ _ _ _ hL (hy_HR_put (D' := hy_w D o q v) hH hlt (by rw [hy_E_2 hsh, hy_fs_set hrs]) (fun c' h9 => hy_w_ne h9) hP1) hS1 h)
      · cases hf
  · cases h
theorem hs_putZ (X : hy_Cx G x own cc nL fr lo) {index ci q : Nat} (w : hy_fp own index ci q .boolean) (d : hy_dq cc pc (.putfield index) 3 = true) (k : hy_Sn G x nL (pc + 3) b f) : hy_Sn G x nL pc b (o_putZ ci q f) := by
  intro L S D ls H locs hL hH hS h
  obtain ⟨p, l, e, R, s, m, args, below, meth, c, cells, slots, Q⟩ := x
  obtain ⟨hx, hb, hml, hown, hts, hlk, hK, hfr, hlo, hce, hsl⟩ := X
  unfold o_putZ at h
  split at h
  · rename_i v o S'
    cases hok : hy_oc o ci q false with
    | false => rw [hok] at h; cases h
    | true =>
      rw [hok] at h
      dsimp only [cond_true] at h
      obtain ⟨rs, hsh, ⟨-, hrs⟩ | ⟨hf, -⟩⟩ := hy_oc_spec hok
      · obtain ⟨C, T, N, ty, ⟨hc, hu, hty, hnm⟩, hk, hw, hfin, ht⟩ := w
        have hlt := hy_sh_lt hsh (by omega)
        by_cases hv : v = 0 ∨ v = 1
        · rw [if_pos hv] at h
          have hn : narrow .boolean (.int v) = .int v := by rcases hv with rfl | rfl <;> rfl
          have hfit : fits .boolean (.int v) = true := by rcases hv with rfl | rfl <;> rfl
          exact va_put hx hb hts hu ty hty hnm hown hK.1 hH.1 (hy_D hK.2.2.2.2.2 D) hS o (fs := hy_fs G.1 D o 0 rs) (by rw [hy_ws_get hlt, hy_E_2 hsh]) hc q hk (hts _ hw) (fun _ h9 => h9) hfin (ty := .boolean) (v := .int v) (by rw [hty q hk, ht]) hn hfit (by rw [hy_fs_len]; exact (List.getElem?_eq_some_iff.mp hrs).1) (hy_dqs d) (fun H1 locs1 hP1 hD1 hS1 => k _ _ _ _ _ _ hL (hy_HR_put (D' := hy_w D o q v) hH hlt (by rw [hy_E_2 hsh, hy_fs_set hrs]) (fun c' h9 => hy_w_ne h9) hP1) hS1 h)
        · rw [if_neg hv] at h
          cases h
      · cases hf
  · cases h
theorem hs_iald (X : hy_Cx G x own cc nL fr lo) (d : hy_dq cc pc .iaload 1 = true) (k : hy_Sn G x nL (pc + 1) b f) : hy_Sn G x nL pc b (o_iald f) := by
  intro L S D ls H locs hL hH hS h
  obtain ⟨p, l, e, R, s, m, args, below, meth, c, cells, slots, Q⟩ := x
  obtain ⟨hx, hb, hml, hown, hts, hlk, hK, hfr, hlo, hce, hsl⟩ := X
  unfold o_iald at h
  split at h
  · rename_i j r S'
    by_cases hi : hy_in j (hy_al r) = true
    · rw [if_pos hi] at h
      rcases hy_al_spec (Nat.lt_of_le_of_lt (Nat.zero_le _) (hy_in_pos hi)) with ⟨rs, hsh⟩ | ⟨rfl, h8⟩
      · have hlt := hy_sh_lt hsh (by omega)
        exact va_iald hx hb hK.1 hH.1 r 0 (by rw [hy_ws_get hlt, hy_E_0 hsh]) rfl (hy_in_vp hi) (hy_dqs d) (k _ _ _ _ _ _ hL hH hS h)
      · rw [h8] at hi
        exact va_ti hx hb hK.2.2.1 hS (hy_in_vp hi) (by rw [← hH.2 _ (hy_in_pos hi)]; rfl) (hy_dqs d) (k _ _ _ _ _ _ hL hH hS h)
    · rw [if_neg hi] at h
      cases h
  · cases h
theorem hs_iast (X : hy_Cx G x own cc nL fr lo) (d : hy_dq cc pc .iastore 1 = true) (k : hy_Sn G x nL (pc + 1) b f) : hy_Sn G x nL pc b (o_iast f) := by
  intro L S D ls H locs hL hH hS h
  obtain ⟨p, l, e, R, s, m, args, below, meth, c, cells, slots, Q⟩ := x
  obtain ⟨hx, hb, hml, hown, hts, hlk, hK, hfr, hlo, hce, hsl⟩ := X
  unfold o_iast at h
  split at h
  · rename_i v j r S'
    by_cases hi : hy_in j (hy_wl r) = true
    · rw [if_pos hi] at h
      obtain ⟨rs, hsh⟩ := hy_wl_spec (Nat.lt_of_le_of_lt (Nat.zero_le _) (hy_in_pos hi))
      have hlt := hy_sh_lt hsh (by omega)
      exact va_iast hx hb hK.1 hH.1 (hy_D hK.2.2.2.2.2 D) hS r 0 (by rw [hy_ws_get hlt, hy_E_0 hsh]) rfl (hy_in_vp hi) (hy_dqs d) (fun H1 locs1 hP1 hD1 hS1 => k _ _ _ _ _ _ hL (hy_HR_put (D' := hy_w D r j.toNatClampNeg v) hH hlt (by rw [hy_E_0 hsh, hy_w_same]) (fun c' h9 => hy_w_ne h9) hP1) hS1 h)
    · rw [if_neg hi] at h
      cases h
  · cases h
theorem hs_aald (X : hy_Cx G x own cc nL fr lo) (d : hy_dq cc pc .aaload 1 = true) (k : hy_Sn G x nL (pc + 1) b f) : hy_Sn G x nL pc b (o_aald f) := by
  intro L S D ls H locs hL hH hS h
  obtain ⟨p, l, e, R, s, m, args, below, meth, c, cells, slots, Q⟩ := x
  obtain ⟨hx, hb, hml, hown, hts, hlk, hK, hfr, hlo, hce, hsl⟩ := X
  unfold o_aald at h
  split at h
  · rename_i j r S'
    by_cases hi : hy_in j (hy_rl r) = true
    · rw [if_pos hi] at h
      obtain ⟨rs, hsh⟩ := hy_rl_spec (Nat.lt_of_le_of_lt (Nat.zero_le _) (hy_in_pos hi))
      have hlt := hy_sh_lt hsh (by omega)
      have hcell := hH.1 r _ (hy_ws_get hlt)
      rw [hy_E_1 hsh] at hcell
      have hjl := hy_in_pos hi
      refine W.aald (v := .ref (G.1 (hy_pr r j.toNatClampNeg))) (ty := .array .int) hx hb hcell ((hK.1.2 1 _ rfl).1 (hy_rl r) _) rfl (fun q => by cases q) (by show ¬ (j < 0 ∨ (arrV _ _ _).slots.size ≤ _); rw [arrV_size]; exact hy_in_vp hi) ?_ rfl rfl (hy_dqs d) (k _ _ _ _ _ _ hL hH hS h)
      show (arrV _ _ _).slots[_]? = _
      rw [arrV_read _ _ hjl]
      simp [hjl, va_rf, hy_pr, hsh]
    · rw [if_neg hi] at h
      cases h
  · cases h
theorem hs_gets (X : hy_Cx G x own cc nL fr lo) {index : Nat} (w : Cond.fieldLink own index "HumpYard" "AS_THEY_COME" "[I" ∈ hy_WT) (d : hy_dq cc pc (.getstatic index) 3 = true) (k : hy_Sn G x nL (pc + 3) b f) : hy_Sn G x nL pc b (o_gets f) := by
  intro L S D ls H locs hL hH hS h
  obtain ⟨p, l, e, R, s, m, args, below, meth, c, cells, slots, Q⟩ := x
  obtain ⟨hx, hb, hml, hown, hts, hlk, hK, hfr, hlo, hce, hsl⟩ := X
  exact va_gets hx hb hK.2.1 hS hown (hts _ w) (fun _ h9 => h9) (hy_dqs d) (k _ _ _ _ _ _ hL hH hS h)
theorem hs_getsY (X : hy_Cx G x "HumpYard$Yard" cc nL fr lo) (d : hy_dq cc pc (.getstatic 101) 3 = true) (k : hy_Sn G x nL (pc + 3) b f) : hy_Sn G x nL pc b (o_gets f) := by
  intro L S D ls H locs hL hH hS h
  obtain ⟨p, l, e, R, s, m, args, below, meth, c, cells, slots, Q⟩ := x
  obtain ⟨hx, hb, hml, hown, hts, hlk, hK, hfr, hlo, hce, hsl⟩ := X
  exact va_getsN hx hb hK.2.1 hS hown (va_Nw.use rfl hK.2.2.2.1) (fun _ h9 => h9) (hy_dqs d) (k _ _ _ _ _ _ hL hH hS h)
theorem hs_getsR (X : hy_Cx G x "HumpYard$Renumbering" cc nL fr lo) (d : hy_dq cc pc (.getstatic 28) 3 = true) (k : hy_Sn G x nL (pc + 3) b f) : hy_Sn G x nL pc b (o_gets f) := by
  intro L S D ls H locs hL hH hS h
  obtain ⟨p, l, e, R, s, m, args, below, meth, c, cells, slots, Q⟩ := x
  obtain ⟨hx, hb, hml, hown, hts, hlk, hK, hfr, hlo, hce, hsl⟩ := X
  exact va_getsN hx hb hK.2.1 hS hown (va_Nw.use rfl hK.2.2.2.2.1) (fun _ h9 => h9) (hy_dqs d) (k _ _ _ _ _ _ hL hH hS h)
theorem hy_cat_sum (ad : Nat → Nat) : ∀ S : List Value, ((S.map (hy_v ad)).map fun v => v.category).sum = hy_cat S
  | [] => rfl
  | v :: S => by
    simp only [List.map_cons, List.sum_cons, hy_cat, hy_v_cat]
    rw [hy_cat_sum ad S]
theorem hy_rng_spec {p n : Int32} {k : Nat} (h : hy_rng p n k = true) : ¬ p < 0 ∧ ¬ n < 0 ∧ p.toNatClampNeg + n.toNatClampNeg ≤ k ∧ 0 < k := by
  simp only [hy_rng, Bool.and_eq_true, Bool.not_eq_true', decide_eq_false_iff_not, Nat.ble_eq] at h
  exact ⟨h.1.1.1, h.1.1.2, h.1.2, h.2⟩
theorem hs_acpy (X : hy_Cx G x own cc nL fr lo) {index : Nat} (w1 : Cond.methodLink own index arraycopyName ∈ hy_WT) (w2 : Cond.native arraycopyName ∈ hy_WT) (w3 : Cond.static arraycopyName ∈ hy_WT) (w4 : Cond.initialized "java/lang/System" ∈ hy_WT) (h1 : 1 ≤ fr) (h2 : 26 ≤ lo) (d : hy_dq cc pc (.invokestatic index) 3 = true) (k : hy_Sn G x nL (pc + 3) b f) : hy_Sn G x nL pc b (o_acpy f) := by
  intro L S D ls H locs hL hH hS h
  obtain ⟨p, l, e, R, s, m, args, below, meth, c, cells, slots, Q⟩ := x
  obtain ⟨hx, hb, hml, hown, hts, hlk, hK, hfr, hlo, hce, hsl⟩ := X
  unfold o_acpy at h
  split at h
  · rename_i n dp a1 sp a0 S'
    cases hca : Nat.ble (hy_cat S') 8 with
    | false => rw [hca] at h; cases h
    | true =>
      rw [hca] at h
      dsimp only [cond_true] at h
      by_cases hi : hy_rng sp n (hy_wl a0) = true ∧ hy_rng dp n (hy_wl a1) = true
      · rw [if_pos hi] at h
        obtain ⟨r1, r2, r3, hz0⟩ := hy_rng_spec hi.1
        obtain ⟨r4, -, r6, hz1⟩ := hy_rng_spec hi.2
        obtain ⟨rs0, hsh0⟩ := hy_wl_spec hz0
        obtain ⟨rs1, hsh1⟩ := hy_wl_spec hz1
        have hlt0 := hy_sh_lt hsh0 (by omega)
        have hlt1 := hy_sh_lt hsh1 (by omega)
        refine va_copyi hx hb (hml.trans hL.1.symm) hown (hts _ w1) (hts _ w2) (hts _ w3) (hts _ w4) hK.1 hH.1 (hy_D hK.2.2.2.2.2 D) hS a0 a1 0 0 (ty := .int) (by rw [hy_ws_get hlt0, hy_E_0 hsh0]) (by rw [hy_ws_get hlt1, hy_E_0 hsh1]) rfl rfl rfl r1 r4 r2 r3 r6 (fun _ _ => rfl) (Nat.le_trans h1 hfr) ?_ (hy_dqs d) (fun H1 locs1 hP1 hD1 hS1 => k _ _ _ _ _ _ hL (hy_HR_put (D' := hy_cp D a0 a1 sp.toNatClampNeg dp.toNatClampNeg n.toNatClampNeg) hH hlt1 (by rw [hy_E_0 hsh1]; simp [hy_cp]) (fun c' h9 => by simp [hy_cp, h9]) hP1) hS1 h)
        have e1 := hy_cat_sum G.1 S'
        have e2 := Nat.le_of_ble_eq_true hca
        have e3 : nativeFrameWords "java/lang/System" "arraycopy" 5 = 7 := by decide +kernel
        rw [e3]
        have e4 : 26 ≤ R.locals := Nat.le_trans h2 hlo
        omega
      · rw [if_neg hi] at h
        cases h
  · cases h
end HM
/-! ===== methods and calls ===== -/
def hy_Pc (G : hy_G) (a : List Value) (D : hy_M) : Array Value → State → Prop := fun v U => v = (a.map (hy_v G.1)).toArray ∧ hy_HR G D U.heap ∧ hy_K G U
def hy_Qi (G : hy_G) (r : Int32) (D : hy_M) : Array Value → State → Outcome → State → Prop := fun _ st o t => o = .returned (some (.int r)) ∧ hy_HR G D t.heap ∧ va_F (hy_A G) st t
def hy_Ql (G : hy_G) (r : Int64) (D : hy_M) : Array Value → State → Outcome → State → Prop := fun _ st o t => o = .returned (some (.long r)) ∧ hy_HR G D t.heap ∧ va_F (hy_A G) st t
def hy_Qv (G : hy_G) (D : hy_M) : Array Value → State → Outcome → State → Prop := fun _ st o t => o = .returned none ∧ hy_HR G D t.heap ∧ va_F (hy_A G) st t
abbrev hy_rm (fr lo : Nat) : Room := { frames := fr, cells := 0, slots := 0, locals := lo }
def hy_Mi (l : Launch) (G : hy_G) (y : MethodName) (cc : ByteArray) (nL : Nat) (rt : FieldType) (fr lo : Nat) (g : List Value → hy_M → Option (Int32 × hy_M)) : Prop := ∀ (a : List Value) (D D' : hy_M) (r : Int32), g a D = some (r, D') → Met l y (Cond.code y cc nL (some rt) :: hy_WT) (hy_rm fr lo) (hy_Pc G a D) (hy_Qi G r D') 0 0 (hy_A G)
def hy_Ml (l : Launch) (G : hy_G) (y : MethodName) (cc : ByteArray) (nL fr lo : Nat) (g : List Value → hy_M → Option (Int64 × hy_M)) : Prop := ∀ (a : List Value) (D D' : hy_M) (r : Int64), g a D = some (r, D') → Met l y (Cond.code y cc nL (some .long) :: hy_WT) (hy_rm fr lo) (hy_Pc G a D) (hy_Ql G r D') 0 0 (hy_A G)
def hy_Mv (l : Launch) (G : hy_G) (y : MethodName) (cc : ByteArray) (nL fr lo : Nat) (g : List Value → hy_M → Option hy_M) : Prop := ∀ (a : List Value) (D D' : hy_M), g a D = some D' → Met l y (Cond.code y cc nL none :: hy_WT) (hy_rm fr lo) (hy_Pc G a D) (hy_Qv G D') 0 0 (hy_A G)
theorem hy_K.moved {G : hy_G} {s U : State} {H : Heap} {locs : List Loc} (h : hy_K G s) (hS : va_S (hy_A G) s.heap H locs) (hU : U.heap = H) (hW : s.WarmedH U.vm) : hy_K G U := by
  obtain ⟨h1, h2, h3, h4, h5, h6⟩ := h
  subst hU
  exact ⟨va_K.moved hW.alike h1, va_Z.moved hW.alike (va_Z.kept h2 hS.2.1), va_T.moved hW.alike (va_T.kept h3 hS.2.1), va_Nw.warmF hW h4, va_Nw.warmF hW h5, h6⟩
theorem hy_blind (G : hy_G) (a : List Value) (D : hy_M) : FrameBlind (hy_Pc G a D) := by
  intro v U g mk q
  obtain ⟨q1, q2, k1, k2, k3, k4, k5, k6⟩ := q
  refine ⟨q1, q2, va_K.moved (u := U) (U := U.calling g mk v) (Vm.Alike.refl U.vm) k1, va_Z.moved (u := U) (U := U.calling g mk v) (Vm.Alike.refl U.vm) k2, va_T.moved (u := U) (U := U.calling g mk v) (Vm.Alike.refl U.vm) k3, va_Nw.same rfl rfl k4, va_Nw.same rfl rfl k5, k6⟩
theorem hy_pre {G : hy_G} {s : State} {H : Heap} {locs : List Loc} {a : List Value} {D : hy_M} (hK : hy_K G s) (hH : hy_HR G D H) (hS : va_S (hy_A G) s.heap H locs) : ∀ U : State, U.heap = H → s.WarmedH U.vm → hy_Pc G a D (a.map (hy_v G.1)).toArray U := fun U hU hW => ⟨rfl, by rw [hU]; exact hH, hK.moved hS hU hW⟩
theorem hy_good {w : Cond} (h : w ∈ hy_WT) : GoodIn hy_WT (w :: hy_WT) := by
  intro z hz
  rcases List.mem_cons.mp hz with rfl | hz
  · exact ⟨h, good_of_word (List.mem_filter.mp h).2⟩
  · exact ⟨hz, good_of_word (List.mem_filter.mp hz).2⟩
/-- behind a call -/
theorem hy_after {p : Program} {l : Launch} {e : Env} {R : Room} {s : State} {m : MethodId} {args : Array Value} {below : List Frame} {meth : Method} {c : Code} {H : Heap} {locs : List Loc} {cells slots pc : Nat} {Q : State → Prop} {ls : Array Slot} {st0 rest : List Value} {G : hy_G} {D : hy_M} {v0 : Option Value} {Qa : State → Outcome → State → Prop}
    (hr : va_Run p l e R s m args below meth c H locs cells slots 0 0 (F0 m pc ls st0) rest Qa (hy_A G)) (hQ : ∀ st o t, Qa st o t → o = .returned v0 ∧ hy_HR G D t.heap ∧ va_F (hy_A G) st t) (hS : va_S (hy_A G) s.heap H locs)
    (kk : ∀ (H1 : Heap) (locs1 : List Loc), hy_HR G D H1 → va_S (hy_A G) s.heap H1 locs1 → W p l e R s m args below meth c H1 locs1 cells slots Q (F0 m (pc + 3) ls (v0.toList ++ rest))) : W p l e R s m args below meth c H locs cells slots Q (F0 m pc ls st0) := by
  intro T hT X
  obtain ⟨v, st₀, t, T', L, h0, X', hL, e1, e2, hq, st⟩ := hr T hT X
  obtain ⟨hv, hH, hz, hk⟩ := hQ _ _ _ hq
  cases hv
  rw [h0] at hz hk
  obtain ⟨t2, a1, b1⟩ := kk T'.heap (locs ++ L) (by rw [e1]; exact hH) ⟨Nat.le_trans hS.1 (by rw [e1]; exact hz), fun q h1 h2 => by rw [e1, hk q (Nat.lt_of_lt_of_le h1 hS.1) h2]; exact hS.2.1 q h1 h2, fun q hq => by
      rcases List.mem_append.mp hq with h | h
      · exact hS.2.2 q h
      · exact hL q h⟩ T' rfl X'
  exact ⟨t2, st t2 a1, b1⟩
theorem hy_pop_spec : ∀ {n : Nat} {acc S a S' : List Value}, hy_pop n acc S = some (a, S') → ∃ q : List Value, q.length = n ∧ a = q.reverse ++ acc ∧ S = q ++ S' := by
  intro n
  induction n with
  | zero => intro acc S a S' h; simp only [hy_pop, Option.some.injEq, Prod.mk.injEq] at h; exact ⟨[], rfl, by simp [h.1], by simp [h.2]⟩
  | succ n ih =>
    intro acc S a S' h
    cases S with
    | nil => simp [hy_pop] at h
    | cons v S =>
      simp only [hy_pop] at h
      obtain ⟨q, h1, h2, h3⟩ := ih h
      exact ⟨v :: q, by simp [h1], by simp [h2], by simp [h3]⟩
theorem hy_pop0 {n : Nat} {S a S' : List Value} (h : hy_pop n [] S = some (a, S')) : a.length = n ∧ S = a.reverse ++ S' := by
  obtain ⟨q, h1, h2, h3⟩ := hy_pop_spec h
  simp only [List.append_nil] at h2
  subst h2
  exact ⟨by simp [h1], by simp [h3]⟩
/-- a static callee's words -/
def hy_ys (y : MethodName) (cc : ByteArray) (nL n : Nat) (rt : Option FieldType) : Prop := Cond.static y ∈ hy_WT ∧ Cond.initialized y.cls ∈ hy_WT ∧ Cond.code y cc nL rt ∈ hy_WT ∧ (y.cls ≠ "java/lang/invoke/MethodHandle" ∧ y.cls ≠ "java/lang/invoke/VarHandle" ∧ (parseMethodDescriptor y.desc).map (fun d => d.parameters.length) = some n)
/-- an instance callee's words -/
def hy_yv (y : MethodName) (cc : ByteArray) (nL n ci : Nat) (rt : Option FieldType) : Prop := Cond.instanceMethod y ∈ hy_WT ∧ Cond.selects y.cls y y ∈ hy_WT ∧ Cond.initialized y.cls ∈ hy_WT ∧ Cond.code y cc nL rt ∈ hy_WT ∧ (y.cls ≠ "java/lang/invoke/MethodHandle" ∧ y.cls ≠ "java/lang/invoke/VarHandle" ∧ (parseMethodDescriptor y.desc).map (fun d => d.parameters.length) = some n) ∧ ∃ q : vw_C, vwCl[ci]? = some q ∧ q.1 = y.cls
theorem hy_goodS {own : String} {index : Nat} {y : MethodName} {cc : ByteArray} {nL : Nat} {rt : Option FieldType} (w : Cond.methodLink own index y ∈ hy_WT) (h1 : Cond.static y ∈ hy_WT) (h2 : Cond.initialized y.cls ∈ hy_WT) (h3 : Cond.code y cc nL rt ∈ hy_WT) : GoodIn hy_WT (va_wsS own index y (Cond.code y cc nL rt :: hy_WT)) := by
  intro z hz
  unfold va_wsS at hz
  rcases List.mem_append.mp hz with hz | hz
  · have hz' : z ∈ hy_WT := by
      simp only [List.mem_cons, List.not_mem_nil, or_false] at hz
      rcases hz with rfl | rfl | rfl <;> assumption
    exact ⟨hz', good_of_word (List.mem_filter.mp hz').2⟩
  · exact hy_good h3 z hz
theorem hy_goodV {own : String} {index : Nat} {y : MethodName} {cc : ByteArray} {nL : Nat} {rt : Option FieldType} (w : Cond.methodLink own index y ∈ hy_WT) (h0 : Cond.instanceMethod y ∈ hy_WT) (h1 : Cond.selects y.cls y y ∈ hy_WT) (h2 : Cond.initialized y.cls ∈ hy_WT) (h3 : Cond.code y cc nL rt ∈ hy_WT) : GoodIn hy_WT (wsV own index y.cls y (Cond.code y cc nL rt :: hy_WT)) := by
  intro z hz
  unfold wsV at hz
  rcases List.mem_append.mp hz with hz | hz
  · have hz' : z ∈ hy_WT := by
      simp only [List.mem_cons, List.not_mem_nil, or_false] at hz
      rcases hz with rfl | rfl | rfl | rfl <;> assumption
    exact ⟨hz', good_of_word (List.mem_filter.mp hz').2⟩
  · exact hy_good h3 z hz
section HC
variable {G : hy_G} {x : hy_X} {own : String} {cc : ByteArray} {nL fr lo pc : Nat} {β : Type} {b : β} {f g : hy_C β} {y : MethodName} {c' : ByteArray} {nL' fr' lo' n index ci : Nat} {rt : FieldType}
theorem hs_cali (X : hy_Cx G x own cc nL fr lo) {u : List Value → hy_M → Option (Int32 × hy_M)} (M : ∀ l, hy_Mi l G y c' nL' rt fr' lo' u) (Y : hy_ys y c' nL' n (some rt)) (w : Cond.methodLink own index y ∈ hy_WT) (d : hy_dq cc pc (.invokestatic index) 3 = true) (h1 : fr' + 1 ≤ fr) (h2 : 19 + nL' + lo' ≤ lo) (k : hy_Sn G x nL (pc + 3) b f) : hy_Sn G x nL pc b (o_cali n u f) := by
  intro L S D ls H locs hL hH hS h
  obtain ⟨p, l, e, R, s, m, args, below, meth, c, cells, slots, Q⟩ := x
  obtain ⟨hx, hb, hml, hown, hts, hlk, hK, hfr, hlo, hce, hsl⟩ := X
  unfold o_cali at h
  split at h
  · rename_i a S' hp
    cases hca : Nat.ble (hy_cat S') 8 with
    | false => rw [hca] at h; cases h
    | true =>
      rw [hca] at h
      dsimp only [cond_true] at h
      obtain ⟨⟨r, D1⟩, he, hf2⟩ := Option.bind_eq_some_iff.mp h
      obtain ⟨y1, y2, y3, y4⟩ := Y
      obtain ⟨p1, p2⟩ := hy_pop0 hp
      subst p2
      have cw := va_cwS (R := R) (rm := hy_rm fr' lo') n hts (hy_goodS w y1 y2 y3) rfl rfl rfl y4 ⟨Nat.le_trans h1 hfr, by show 8 + (nL' + 11) + lo' ≤ R.locals; omega⟩
      have e1 := hy_cat_sum G.1 S'
      have e2 := Nat.le_of_ble_eq_true hca
      exact hy_after (va_runS (As := a.map (hy_v G.1)) (rest := S'.map (hy_v G.1)) ⟨hx, hb, hml, hown, hts⟩ (M l a D D1 r he) cw ⟨hy_blind G a D, hy_pre hK hH hS⟩ rfl (by simp [p1]) hL.1 (by simp) (lv_room (by omega)) (hy_dqs d) ⟨hce, hsl⟩) (v0 := some (.int r)) (fun _ _ _ q => q) hS (fun H1 locs1 hH1 hS1 => k _ (.int r :: S') _ _ _ _ hL hH1 hS1 hf2)
  · cases h
theorem hs_vali (X : hy_Cx G x own cc nL fr lo) {u : List Value → hy_M → Option (Int32 × hy_M)} (M : ∀ l, hy_Mi l G y c' nL' rt fr' lo' u) (Y : hy_yv y c' nL' n ci (some rt)) (w : Cond.methodLink own index y ∈ hy_WT) (d : hy_dq cc pc (.invokevirtual index) 3 = true) (h1 : fr' + 1 ≤ fr) (h2 : 19 + nL' + lo' ≤ lo) (k : hy_Sn G x nL (pc + 3) b f) : hy_Sn G x nL pc b (o_vali ci (n + 1) u f) := by
  intro L S D ls H locs hL hH hS h
  obtain ⟨p, l, e, R, s, m, args, below, meth, c, cells, slots, Q⟩ := x
  obtain ⟨hx, hb, hml, hown, hts, hlk, hK, hfr, hlo, hce, hsl⟩ := X
  unfold o_vali at h
  split at h
  · rename_i a S' hp
    cases hca : hy_rc ci a && Nat.ble (hy_cat S') 8 with
    | false => rw [hca] at h; cases h
    | true =>
      rw [hca] at h
      dsimp only [cond_true] at h
      obtain ⟨⟨r, D1⟩, he, hf2⟩ := Option.bind_eq_some_iff.mp h
      obtain ⟨y0, y1, y2, y3, y4, qc, y5, y6⟩ := Y
      obtain ⟨p1, p2⟩ := hy_pop0 hp
      subst p2
      simp only [Bool.and_eq_true] at hca
      unfold hy_rc at hca
      split at hca
      · rename_i o As
        obtain ⟨rs, hsh⟩ := hy_cl_spec hca.1
        have hlt := hy_sh_lt hsh (by omega)
        have cw := cwV (R := R) (rm := hy_rm fr' lo') n hts (hy_goodV w y0 y1 y2 y3) rfl rfl rfl ⟨rfl, y4⟩ ⟨Nat.le_trans h1 hfr, by show 8 + (nL' + 11) + lo' ≤ R.locals; omega⟩
        have e1 := hy_cat_sum G.1 S'
        have e2 := Nat.le_of_ble_eq_true hca.2
        have hrc := va_recv hK.1 hH.1 (ci := ci) (q0 := o) y5 (by rw [hy_ws_get hlt, hy_E_2 hsh])
        rw [y6] at hrc
        exact hy_after (va_runV (As := As.map (hy_v G.1)) (rest := S'.map (hy_v G.1)) ⟨hx, hb, hml, hown, hts⟩ (M l (.ref o :: As) D D1 r he) cw ⟨hy_blind G (.ref o :: As) D, hrc, hy_pre hK hH hS⟩ rfl (by simpa using p1) hL.1 (by simp [hy_v]) (lv_room (by omega)) (hy_dqs d) ⟨hce, hsl⟩) (v0 := some (.int r)) (fun _ _ _ q => q) hS (fun H1 locs1 hH1 hS1 => k _ (.int r :: S') _ _ _ _ hL hH1 hS1 hf2)
      · exact absurd hca.1 (by simp)
  · cases h
theorem hs_call (X : hy_Cx G x own cc nL fr lo) {u : List Value → hy_M → Option (Int64 × hy_M)} (M : ∀ l, hy_Ml l G y c' nL' fr' lo' u) (Y : hy_ys y c' nL' n (some .long)) (w : Cond.methodLink own index y ∈ hy_WT) (d : hy_dq cc pc (.invokestatic index) 3 = true) (h1 : fr' + 1 ≤ fr) (h2 : 19 + nL' + lo' ≤ lo) (k : hy_Sn G x nL (pc + 3) b f) : hy_Sn G x nL pc b (o_call n u f) := by
  intro L S D ls H locs hL hH hS h
  obtain ⟨p, l, e, R, s, m, args, below, meth, c, cells, slots, Q⟩ := x
  obtain ⟨hx, hb, hml, hown, hts, hlk, hK, hfr, hlo, hce, hsl⟩ := X
  unfold o_call at h
  split at h
  · rename_i a S' hp
    cases hca : Nat.ble (hy_cat S') 8 with
    | false => rw [hca] at h; cases h
    | true =>
      rw [hca] at h
      dsimp only [cond_true] at h
      obtain ⟨⟨r, D1⟩, he, hf2⟩ := Option.bind_eq_some_iff.mp h
      obtain ⟨y1, y2, y3, y4⟩ := Y
      obtain ⟨p1, p2⟩ := hy_pop0 hp
      subst p2
      have cw := va_cwS (R := R) (rm := hy_rm fr' lo') n hts (hy_goodS w y1 y2 y3) rfl rfl rfl y4 ⟨Nat.le_trans h1 hfr, by show 8 + (nL' + 11) + lo' ≤ R.locals; omega⟩
      have e1 := hy_cat_sum G.1 S'
      have e2 := Nat.le_of_ble_eq_true hca
      exact hy_after (va_runS (As := a.map (hy_v G.1)) (rest := S'.map (hy_v G.1)) ⟨hx, hb, hml, hown, hts⟩ (M l a D D1 r he) cw ⟨hy_blind G a D, hy_pre hK hH hS⟩ rfl (by simp [p1]) hL.1 (by simp) (lv_room (by omega)) (hy_dqs d) ⟨hce, hsl⟩) (v0 := some (.long r)) (fun _ _ _ q => q) hS (fun H1 locs1 hH1 hS1 => k _ (.long r :: S') _ _ _ _ hL hH1 hS1 hf2)
  · cases h
theorem hs_vall (X : hy_Cx G x own cc nL fr lo) {u : List Value → hy_M → Option (Int64 × hy_M)} (M : ∀ l, hy_Ml l G y c' nL' fr' lo' u) (Y : hy_yv y c' nL' n ci (some .long)) (w : Cond.methodLink own index y ∈ hy_WT) (d : hy_dq cc pc (.invokevirtual index) 3 = true) (h1 : fr' + 1 ≤ fr) (h2 : 19 + nL' + lo' ≤ lo) (k : hy_Sn G x nL (pc + 3) b f) : hy_Sn G x nL pc b (o_vall ci (n + 1) u f) := by
  intro L S D ls H locs hL hH hS h
  obtain ⟨p, l, e, R, s, m, args, below, meth, c, cells, slots, Q⟩ := x
  obtain ⟨hx, hb, hml, hown, hts, hlk, hK, hfr, hlo, hce, hsl⟩ := X
  unfold o_vall at h
  split at h
  · rename_i a S' hp
    cases hca : hy_rc ci a && Nat.ble (hy_cat S') 8 with
    | false => rw [hca] at h; cases h
    | true =>
      rw [hca] at h
      dsimp only [cond_true] at h
      obtain ⟨⟨r, D1⟩, he, hf2⟩ := Option.bind_eq_some_iff.mp h
      obtain ⟨y0, y1, y2, y3, y4, qc, y5, y6⟩ := Y
      obtain ⟨p1, p2⟩ := hy_pop0 hp
      subst p2
      simp only [Bool.and_eq_true] at hca
      unfold hy_rc at hca
      split at hca
      · rename_i o As
        obtain ⟨rs, hsh⟩ := hy_cl_spec hca.1
        have hlt := hy_sh_lt hsh (by omega)
        have cw := cwV (R := R) (rm := hy_rm fr' lo') n hts (hy_goodV w y0 y1 y2 y3) rfl rfl rfl ⟨rfl, y4⟩ ⟨Nat.le_trans h1 hfr, by show 8 + (nL' + 11) + lo' ≤ R.locals; omega⟩
        have e1 := hy_cat_sum G.1 S'
        have e2 := Nat.le_of_ble_eq_true hca.2
        have hrc := va_recv hK.1 hH.1 (ci := ci) (q0 := o) y5 (by rw [hy_ws_get hlt, hy_E_2 hsh])
        rw [y6] at hrc
        exact hy_after (va_runV (As := As.map (hy_v G.1)) (rest := S'.map (hy_v G.1)) ⟨hx, hb, hml, hown, hts⟩ (M l (.ref o :: As) D D1 r he) cw ⟨hy_blind G (.ref o :: As) D, hrc, hy_pre hK hH hS⟩ rfl (by simpa using p1) hL.1 (by simp [hy_v]) (lv_room (by omega)) (hy_dqs d) ⟨hce, hsl⟩) (v0 := some (.long r)) (fun _ _ _ q => q) hS (fun H1 locs1 hH1 hS1 => k _ (.long r :: S') _ _ _ _ hL hH1 hS1 hf2)
      · exact absurd hca.1 (by simp)
  · cases h
theorem hs_calv (X : hy_Cx G x own cc nL fr lo) {u : List Value → hy_M → Option hy_M} (M : ∀ l, hy_Mv l G y c' nL' fr' lo' u) (Y : hy_ys y c' nL' n (none)) (w : Cond.methodLink own index y ∈ hy_WT) (d : hy_dq cc pc (.invokestatic index) 3 = true) (h1 : fr' + 1 ≤ fr) (h2 : 19 + nL' + lo' ≤ lo) (k : hy_Sn G x nL (pc + 3) b f) : hy_Sn G x nL pc b (o_calv n u f) := by
  intro L S D ls H locs hL hH hS h
  obtain ⟨p, l, e, R, s, m, args, below, meth, c, cells, slots, Q⟩ := x
  obtain ⟨hx, hb, hml, hown, hts, hlk, hK, hfr, hlo, hce, hsl⟩ := X
  unfold o_calv at h
  split at h
  · rename_i a S' hp
    cases hca : Nat.ble (hy_cat S') 8 with
    | false => rw [hca] at h; cases h
    | true =>
      rw [hca] at h
      dsimp only [cond_true] at h
      obtain ⟨D1, he, hf2⟩ := Option.bind_eq_some_iff.mp h
      obtain ⟨y1, y2, y3, y4⟩ := Y
      obtain ⟨p1, p2⟩ := hy_pop0 hp
      subst p2
      have cw := va_cwS (R := R) (rm := hy_rm fr' lo') n hts (hy_goodS w y1 y2 y3) rfl rfl rfl y4 ⟨Nat.le_trans h1 hfr, by show 8 + (nL' + 11) + lo' ≤ R.locals; omega⟩
      have e1 := hy_cat_sum G.1 S'
      have e2 := Nat.le_of_ble_eq_true hca
      exact hy_after (va_runS (As := a.map (hy_v G.1)) (rest := S'.map (hy_v G.1)) ⟨hx, hb, hml, hown, hts⟩ (M l a D D1 he) cw ⟨hy_blind G a D, hy_pre hK hH hS⟩ rfl (by simp [p1]) hL.1 (by simp) (lv_room (by omega)) (hy_dqs d) ⟨hce, hsl⟩) (v0 := none) (fun _ _ _ q => q) hS (fun H1 locs1 hH1 hS1 => k _ ( S') _ _ _ _ hL hH1 hS1 hf2)
  · cases h
theorem hs_valv (X : hy_Cx G x own cc nL fr lo) {u : List Value → hy_M → Option hy_M} (M : ∀ l, hy_Mv l G y c' nL' fr' lo' u) (Y : hy_yv y c' nL' n ci (none)) (w : Cond.methodLink own index y ∈ hy_WT) (d : hy_dq cc pc (.invokevirtual index) 3 = true) (h1 : fr' + 1 ≤ fr) (h2 : 19 + nL' + lo' ≤ lo) (k : hy_Sn G x nL (pc + 3) b f) : hy_Sn G x nL pc b (o_valv ci (n + 1) u f) := by
  intro L S D ls H locs hL hH hS h
  obtain ⟨p, l, e, R, s, m, args, below, meth, c, cells, slots, Q⟩ := x
  obtain ⟨hx, hb, hml, hown, hts, hlk, hK, hfr, hlo, hce, hsl⟩ := X
  unfold o_valv at h
  split at h
  · rename_i a S' hp
    cases hca : hy_rc ci a && Nat.ble (hy_cat S') 8 with
    | false => rw [hca] at h; cases h
    | true =>
      rw [hca] at h
      dsimp only [cond_true] at h
      obtain ⟨D1, he, hf2⟩ := Option.bind_eq_some_iff.mp h
      obtain ⟨y0, y1, y2, y3, y4, qc, y5, y6⟩ := Y
      obtain ⟨p1, p2⟩ := hy_pop0 hp
      subst p2
      simp only [Bool.and_eq_true] at hca
      unfold hy_rc at hca
      split at hca
      · rename_i o As
        obtain ⟨rs, hsh⟩ := hy_cl_spec hca.1
        have hlt := hy_sh_lt hsh (by omega)
        have cw := cwV (R := R) (rm := hy_rm fr' lo') n hts (hy_goodV w y0 y1 y2 y3) rfl rfl rfl ⟨rfl, y4⟩ ⟨Nat.le_trans h1 hfr, by show 8 + (nL' + 11) + lo' ≤ R.locals; omega⟩
        have e1 := hy_cat_sum G.1 S'
        have e2 := Nat.le_of_ble_eq_true hca.2
        have hrc := va_recv hK.1 hH.1 (ci := ci) (q0 := o) y5 (by rw [hy_ws_get hlt, hy_E_2 hsh])
        rw [y6] at hrc
        exact hy_after (va_runV (As := As.map (hy_v G.1)) (rest := S'.map (hy_v G.1)) ⟨hx, hb, hml, hown, hts⟩ (M l (.ref o :: As) D D1 he) cw ⟨hy_blind G (.ref o :: As) D, hrc, hy_pre hK hH hS⟩ rfl (by simpa using p1) hL.1 (by simp [hy_v]) (lv_room (by omega)) (hy_dqs d) ⟨hce, hsl⟩) (v0 := none) (fun _ _ _ q => q) hS (fun H1 locs1 hH1 hS1 => k _ ( S') _ _ _ _ hL hH1 hS1 hf2)
      · exact absurd hca.1 (by simp)
  · cases h
end HC
end
section
/-! ===== ends, methods ===== -/
def hy_Ri (G : hy_G) (x : hy_X) (b : Int32 × hy_M) (rt : FieldType) : Prop := match x with
  | (_, _, _, _, s, _, args, below, meth, _, cells, slots, Q) => Q = MQ below (hy_Qi G b.1 b.2) args s cells slots (hy_A G) ∧ meth.sig.returnType = some rt
def hy_Rl (G : hy_G) (x : hy_X) (b : Int64 × hy_M) : Prop := match x with
  | (_, _, _, _, s, _, args, below, meth, _, cells, slots, Q) => Q = MQ below (hy_Ql G b.1 b.2) args s cells slots (hy_A G) ∧ meth.sig.returnType = some .long
def hy_Rv (G : hy_G) (x : hy_X) (b : hy_M) : Prop := match x with
  | (_, _, _, _, s, _, args, below, meth, _, cells, slots, Q) => Q = MQ below (hy_Qv G b) args s cells slots (hy_A G) ∧ meth.sig.returnType = none
section HE
variable {G : hy_G} {x : hy_X} {own : String} {cc : ByteArray} {nL fr lo pc : Nat}
theorem hs_iret {b : Int32 × hy_M} (X : hy_Cx G x own cc nL fr lo) (r : hy_Ri G x b .int) (d : hy_dq cc pc .ireturn 1 = true) : hy_Sn G x nL pc b o_iret := by
  intro L S D ls H locs hL hH hS h
  obtain ⟨p, l, e, R, s, m, args, below, meth, c, cells, slots, Q⟩ := x
  obtain ⟨hx, hb, hml, hown, hts, hlk, hK, hfr, hlo, hce, hsl⟩ := X
  obtain ⟨rfl, hr⟩ := r
  unfold o_iret at h
  split at h
  · cases h
    exact W.iret hx hb hr (fun t ht hW => ⟨rfl, by rw [ht]; exact hH, hS.F ht⟩) hS.2.2 (hy_dqs d) hlk
  · cases h
theorem hs_zret {b : Int32 × hy_M} (X : hy_Cx G x own cc nL fr lo) (r : hy_Ri G x b .boolean) (d : hy_dq cc pc .ireturn 1 = true) : hy_Sn G x nL pc b o_zret := by
  intro L S D ls H locs hL hH hS h
  obtain ⟨p, l, e, R, s, m, args, below, meth, c, cells, slots, Q⟩ := x
  obtain ⟨hx, hb, hml, hown, hts, hlk, hK, hfr, hlo, hce, hsl⟩ := X
  obtain ⟨rfl, hr⟩ := r
  unfold o_zret at h
  split at h
  · rename_i v
    by_cases hv : v = 0 ∨ v = 1
    · rw [if_pos hv] at h
      cases h
      exact W.zret hx hb hr (by rcases hv with rfl | rfl <;> rfl) (fun t ht hW => ⟨rfl, by rw [ht]; exact hH, hS.F ht⟩) hS.2.2 (hy_dqs d) hlk
    · rw [if_neg hv] at h
      cases h
  · cases h
theorem hs_lret {b : Int64 × hy_M} (X : hy_Cx G x own cc nL fr lo) (r : hy_Rl G x b) (d : hy_dq cc pc .lreturn 1 = true) : hy_Sn G x nL pc b o_lret := by
  intro L S D ls H locs hL hH hS h
  obtain ⟨p, l, e, R, s, m, args, below, meth, c, cells, slots, Q⟩ := x
  obtain ⟨hx, hb, hml, hown, hts, hlk, hK, hfr, hlo, hce, hsl⟩ := X
  obtain ⟨rfl, hr⟩ := r
  unfold o_lret at h
  split at h
  · cases h
    exact W.lret hx hb hr (fun t ht hW => ⟨rfl, by rw [ht]; exact hH, hS.F ht⟩) hS.2.2 (hy_dqs d) hlk
  · cases h
theorem hs_vret {b : hy_M} (X : hy_Cx G x own cc nL fr lo) (r : hy_Rv G x b) (d : hy_dq cc pc .return_ 1 = true) : hy_Sn G x nL pc b o_vret := by
  intro L S D ls H locs hL hH hS h
  obtain ⟨p, l, e, R, s, m, args, below, meth, c, cells, slots, Q⟩ := x
  obtain ⟨hx, hb, hml, hown, hts, hlk, hK, hfr, hlo, hce, hsl⟩ := X
  obtain ⟨rfl, hr⟩ := r
  unfold o_vret at h
  split at h
  · cases h
    exact W.vret hx hb hr (fun t ht hW => ⟨rfl, by rw [ht]; exact hH, hS.F ht⟩) hS.2.2 (hy_dqs d) hlk
  · cases h
end HE
theorem hy_lg_len : ∀ (ad : Nat → Nat) (a : List Value), (lg_sl (a.map (hy_v ad))).length = hy_wd a
  | ad, [] => rfl
  | ad, v :: a => by
    have ih := hy_lg_len ad a
    simp only [lg_sl, List.map_cons, List.flatMap_cons, List.length_append, hy_wd, hy_v_cat] at ih ⊢
    rw [ih]
    rcases lv_cat v with h | h <;> simp [h]
theorem hy_lget_rep : ∀ (k i : Nat), hy_lget i (List.replicate k none) = none
  | 0, i => by cases i <;> rfl
  | k + 1, 0 => rfl
  | k + 1, i + 1 => by simp only [List.replicate_succ, hy_lget]; exact hy_lget_rep k i
theorem hy_lo_args (ad : Nat → Nat) (k : Nat) : ∀ (a : List Value) (i j : Nat) (v : Value), hy_lget i (hy_lo a ++ List.replicate k none) = some v → (j + i, hy_v ad v) ∈ lv_args j (a.map (hy_v ad)) := by
  intro a
  induction a with
  | nil =>
    intro i j v h
    simp only [hy_lo, List.nil_append] at h
    rw [hy_lget_rep] at h
    cases h
  | cons w a ih =>
    intro i j v h
    have one : ∀ (hc : w.category = 1) (hl : hy_lo (w :: a) = some w :: hy_lo a), (j + i, hy_v ad v) ∈ lv_args j ((w :: a).map (hy_v ad)) := by
      intro hc hl
      rw [hl] at h
      simp only [List.map_cons, lv_args, hy_v_cat, hc]
      cases i with
      | zero =>
        simp only [List.cons_append, hy_lget, Option.some.injEq] at h
        subst h
        exact List.mem_cons_self
      | succ i =>
        simp only [List.cons_append, hy_lget] at h
        have := ih i (j + 1) v h
        rw [show j + 1 + i = j + (i + 1) by omega] at this
        exact List.mem_cons_of_mem _ (by simpa using this)
    have two : ∀ (hc : w.category = 2) (hl : hy_lo (w :: a) = some w :: none :: hy_lo a), (j + i, hy_v ad v) ∈ lv_args j ((w :: a).map (hy_v ad)) := by
      intro hc hl
      rw [hl] at h
      simp only [List.map_cons, lv_args, hy_v_cat, hc]
      cases i with
      | zero =>
        simp only [List.cons_append, hy_lget, Option.some.injEq] at h
        subst h
        exact List.mem_cons_self
      | succ i =>
        cases i with
        | zero => simp [hy_lget] at h
        | succ i =>
          simp only [List.cons_append, hy_lget] at h
          have := ih i (j + 2) v h
          rw [show j + 2 + i = j + (i + 1 + 1) by omega] at this
          exact List.mem_cons_of_mem _ (by simpa using this)
    cases w with
    | long z => exact two rfl rfl
    | double z => exact two rfl rfl
    | int z => exact one rfl rfl
    | float z => exact one rfl rfl
    | null => exact one rfl rfl
    | ref z => exact one rfl rfl
    | retAddr z => exact one rfl rfl
theorem hy_entry {ad : Nat → Nat} {a : List Value} {nL : Nat} (h : hy_wd a ≤ nL) : hy_LR ad nL (hy_lo a ++ List.replicate (nL - hy_wd a) none) ((lg_sl (a.map (hy_v ad)) ++ List.replicate (nL - (lg_sl (a.map (hy_v ad))).length) Slot.unset).toArray) := by
  have hl := lv_entry (a.map (hy_v ad)) (n := nL) (by rw [hy_lg_len]; exact h)
  refine ⟨hl.1, hl.2.1, fun i v hi => ?_⟩
  have := hl.2.2 _ (hy_lo_args ad _ a i 0 v hi)
  simpa using this
section HT
variable {G : hy_G} {y : MethodName} {cc : ByteArray} {nL fr lo : Nat}
theorem hy_meti {rt : FieldType} {f : hy_C (Int32 × hy_M)} (hp : plainName y.cls = true) (body : ∀ (x : hy_X) (b : Int32 × hy_M), hy_Cx G x y.cls cc nL fr lo → hy_Ri G x b rt → hy_Sn G x nL 0 b f) : ∀ l, hy_Mi l G y cc nL rt fr lo (hy_g nL f) := by
  intro l a D D' r hg
  refine Met.ofW (cc := cc) (maxL := nL) (ret := some rt) hp rfl ?_
  intro p e s m args below meth c s₁ B hml hv
  obtain ⟨rfl, hH, hK⟩ := hv
  have hts := atoms_spec (ws := Cond.code y cc nL (some rt) :: hy_WT) B.pre
  unfold hy_g at hg
  cases hle : Nat.ble (hy_wd a) nL with
  | false => rw [hle] at hg; cases hg
  | true =>
    rw [hle] at hg
    rw [lg_entry_eq]
    exact body (p, l, e, _, s, m, _, below, meth, c, 0, 0, _) (r, D') ⟨B.exec, B.bytes, hml, findClass_of_methodNamed B.named, fun w hw => hts w (List.mem_cons_of_mem _ hw), B.notSynchronized, hK, Nat.le_refl _, Nat.le_refl _, Nat.zero_le _, Nat.zero_le _⟩ ⟨rfl, B.returns⟩ _ [] D _ s.heap [] (hy_entry (Nat.le_of_ble_eq_true hle)) hH va_S.rf hg
theorem hy_metl {f : hy_C (Int64 × hy_M)} (hp : plainName y.cls = true) (body : ∀ (x : hy_X) (b : Int64 × hy_M), hy_Cx G x y.cls cc nL fr lo → hy_Rl G x b → hy_Sn G x nL 0 b f) : ∀ l, hy_Ml l G y cc nL fr lo (hy_g nL f) := by
  intro l a D D' r hg
  refine Met.ofW (cc := cc) (maxL := nL) (ret := some .long) hp rfl ?_
  intro p e s m args below meth c s₁ B hml hv
  obtain ⟨rfl, hH, hK⟩ := hv
  have hts := atoms_spec (ws := Cond.code y cc nL (some .long) :: hy_WT) B.pre
  unfold hy_g at hg
  cases hle : Nat.ble (hy_wd a) nL with
  | false => rw [hle] at hg; cases hg
  | true =>
    rw [hle] at hg
    rw [lg_entry_eq]
    exact body (p, l, e, _, s, m, _, below, meth, c, 0, 0, _) (r, D') ⟨B.exec, B.bytes, hml, findClass_of_methodNamed B.named, fun w hw => hts w (List.mem_cons_of_mem _ hw), B.notSynchronized, hK, Nat.le_refl _, Nat.le_refl _, Nat.zero_le _, Nat.zero_le _⟩ ⟨rfl, B.returns⟩ _ [] D _ s.heap [] (hy_entry (Nat.le_of_ble_eq_true hle)) hH va_S.rf hg
theorem hy_metv {f : hy_C hy_M} (hp : plainName y.cls = true) (body : ∀ (x : hy_X) (b : hy_M), hy_Cx G x y.cls cc nL fr lo → hy_Rv G x b → hy_Sn G x nL 0 b f) : ∀ l, hy_Mv l G y cc nL fr lo (hy_g nL f) := by
  intro l a D D' hg
  refine Met.ofW (cc := cc) (maxL := nL) (ret := none) hp rfl ?_
  intro p e s m args below meth c s₁ B hml hv
  obtain ⟨rfl, hH, hK⟩ := hv
  have hts := atoms_spec (ws := Cond.code y cc nL none :: hy_WT) B.pre
  unfold hy_g at hg
  cases hle : Nat.ble (hy_wd a) nL with
  | false => rw [hle] at hg; cases hg
  | true =>
    rw [hle] at hg
    rw [lg_entry_eq]
    exact body (p, l, e, _, s, m, _, below, meth, c, 0, 0, _) D' ⟨B.exec, B.bytes, hml, findClass_of_methodNamed B.named, fun w hw => hts w (List.mem_cons_of_mem _ hw), B.notSynchronized, hK, Nat.le_refl _, Nat.le_refl _, Nat.zero_le _, Nat.zero_le _⟩ ⟨rfl, B.returns⟩ _ [] D _ s.heap [] (hy_entry (Nat.le_of_ble_eq_true hle)) hH va_S.rf hg
end HT
/-! ===== a table of branches ===== -/
def hy_tabS (G : hy_G) (x : hy_X) (nL pc : Nat) {β : Type} (b : β) : Nat → List Int → List (Int32 × hy_C β) → Prop
  | _, [], [] => True
  | i, off :: os, (k, f) :: ks => (k = nI i ∧ ∃ tgt : Nat, (pc : Int) + off = (tgt : Int) ∧ hy_Sn G x nL tgt b f) ∧ hy_tabS G x nL pc b (i + 1) os ks
  | _, _, _ => False
theorem hs_tabN {G : hy_G} {x : hy_X} {nL pc : Nat} {β : Type} {b : β} {i : Nat} : hy_tabS G x nL pc b i [] ([] : List (Int32 × hy_C β)) := trivial
theorem hs_tabC {G : hy_G} {x : hy_X} {nL pc : Nat} {β : Type} {b : β} {i : Nat} {off : Int} {os : List Int} {v : Int32} {f : hy_C β} {ks : List (Int32 × hy_C β)} {tgt : Nat} (hv : v = nI i) (ht : (pc : Int) + off = (tgt : Int)) (k : hy_Sn G x nL tgt b f) (r : hy_tabS G x nL pc b (i + 1) os ks) : hy_tabS G x nL pc b i (off :: os) ((v, f) :: ks) := ⟨⟨hv, tgt, ht, k⟩, r⟩
theorem hy_tab_find {G : hy_G} {x : hy_X} {nL pc : Nat} {β : Type} {b : β} {z : Int32} {L : hy_L} {S : List Value} {D : hy_M} {d : hy_C β} : ∀ (ks : List (Int32 × hy_C β)) (os : List Int) (i : Nat), hy_tabS G x nL pc b i os ks → hy_tab z L S D d ks = some b →
    (∃ (j : Nat) (off : Int) (tgt : Nat) (f : hy_C β), os[j]? = some off ∧ z = nI (i + j) ∧ (pc : Int) + off = (tgt : Int) ∧ hy_Sn G x nL tgt b f ∧ f L S D = some b) ∨ ((∀ j, j < os.length → z ≠ nI (i + j)) ∧ d L S D = some b)
  | [], [], i, _, h => Or.inr ⟨fun j hj => by simp at hj, h⟩
  | [], _ :: _, i, hs, _ => hs.elim
  | _ :: _, [], i, hs, _ => hs.elim
  | (v, f) :: ks, off :: os, i, hs, h => by
    obtain ⟨⟨hv, tgt, ht, hk⟩, hr⟩ := hs
    unfold hy_tab at h
    by_cases e : z = v
    · rw [if_pos e] at h
      exact Or.inl ⟨0, off, tgt, f, rfl, by rw [e, hv]; rfl, ht, hk, h⟩
    · rw [if_neg e] at h
      rcases hy_tab_find ks os (i + 1) hr h with ⟨j, off', tgt', f', h1, h2, h3, h4, h5⟩ | ⟨h1, h2⟩
      · exact Or.inl ⟨j + 1, off', tgt', f', by simpa using h1, by rw [h2]; congr 1; omega, h3, h4, h5⟩
      · refine Or.inr ⟨fun j hj => ?_, h2⟩
        cases j with
        | zero => rw [Nat.add_zero, ← hv]; exact e
        | succ j =>
          have := h1 j (by simpa using hj)
          rw [show i + 1 + j = i + (j + 1) by omega] at this
          exact this
theorem hs_tab {G : hy_G} {x : hy_X} {own : String} {cc : ByteArray} {nL fr lo pc : Nat} {β : Type} {b : β} (X : hy_Cx G x own cc nL fr lo) {dflt hi : Int} {os : List Int} {len tgt : Nat} {ks : List (Int32 × hy_C β)} {dd : hy_C β} (d : hy_dq cc pc (.tableswitch dflt 0 hi os.toArray) len = true) (hhi : hi + 1 = (os.length : Int)) (hsm : os.length < 1000) (ht : (pc : Int) + dflt = (tgt : Int)) (kd : hy_Sn G x nL tgt b dd) (ks' : hy_tabS G x nL pc b 0 os ks) : hy_Sn G x nL pc b (o_tab ks dd) := by
  intro L S D ls H locs hL hH hS h
  obtain ⟨p, l, e, R, s, m, args, below, meth, c, cells, slots, Q⟩ := x
  obtain ⟨hx, hb, hml, hown, hts, hlk, hK, hfr, hlo, hce, hsl⟩ := X
  unfold o_tab at h
  split at h
  · rename_i z S'
    rcases hy_tab_find ks os 0 ks' h with ⟨j, off, tgt', f, h1, h2, h3, h4, h5⟩ | ⟨h1, h2⟩
    · have hj : j < os.length := (List.getElem?_eq_some_iff.mp h1).1
      have hz : z.toInt = (j : Int) := by rw [h2, Nat.zero_add]; exact nI_toInt (by omega)
      exact lv_tableIn hx hb (hy_dqs d) (by omega) (by omega) (by rw [hz]; simpa using h1) h3 (h4 _ _ _ _ _ _ hL hH hS h5)
    · refine lv_tableOut hx hb (hy_dqs d) ?_ ht (kd _ _ _ _ _ _ hL hH hS h2)
      by_cases hz : z.toInt < 0
      · exact Or.inl hz
      · right
        apply Classical.byContradiction
        intro hn
        obtain ⟨j, hj⟩ : ∃ j : Nat, z.toInt = (j : Int) := ⟨z.toInt.toNat, by omega⟩
        refine h1 j (by omega) ?_
        rw [Nat.zero_add]
        apply Int32.toInt_inj.mp
        rw [hj, nI_toInt (by omega)]
  · cases h
/-! ===== Math.max, Math.min ===== -/
def o_imax {β : Type} (f : hy_C β) : hy_C β := fun L S D => match S with
  | .int y :: .int z :: S' => bif Nat.ble (hy_cat S') 8 then f L (.int (if z < y then y else z) :: S') D else none
  | _ => none
def o_imin {β : Type} (f : hy_C β) : hy_C β := fun L S D => match S with
  | .int y :: .int z :: S' => bif Nat.ble (hy_cat S') 8 then f L (.int (if y < z then y else z) :: S') D else none
  | _ => none
theorem hs_imax {G : hy_G} {x : hy_X} {own : String} {cc : ByteArray} {nL fr lo pc : Nat} {β : Type} {b : β} {f : hy_C β} (X : hy_Cx G x own cc nL fr lo) {index : Nat} (w1 : Cond.methodLink own index Lib.Math.max.name ∈ hy_WT) (w2 : Cond.static Lib.Math.max.name ∈ hy_WT) (w3 : Cond.initialized "java/lang/Math" ∈ hy_WT) (w4 : Cond.code Lib.Math.max.name Lib.Math.max.code 2 (some .int) ∈ hy_WT) (h1 : 1 ≤ fr) (h2 : 21 ≤ lo) (d : hy_dq cc pc (.invokestatic index) 3 = true) (k : hy_Sn G x nL (pc + 3) b f) : hy_Sn G x nL pc b (o_imax f) := by
  intro L S D ls H locs hL hH hS h
  obtain ⟨p, l, e, R, s, m, args, below, meth, c, cells, slots, Q⟩ := x
  obtain ⟨hx, hb, hml, hown, hts, hlk, hK, hfr, hlo, hce, hsl⟩ := X
  unfold o_imax at h
  split at h
  · rename_i y z S'
    cases hca : Nat.ble (hy_cat S') 8 with
    | false => rw [hca] at h; cases h
    | true =>
      rw [hca] at h
      have e1 := hy_cat_sum G.1 S'
      have e2 := Nat.le_of_ble_eq_true hca
      exact va_mmax hx hb (hml.trans hL.1.symm) hown (hts _ w1) (hts _ w2) (hts _ w3) (hts _ w4) (Nat.le_trans h1 hfr) (by omega) hce hsl (hy_dqs d) (k _ _ _ _ _ _ hL hH hS h)
  · cases h
theorem hs_imin {G : hy_G} {x : hy_X} {own : String} {cc : ByteArray} {nL fr lo pc : Nat} {β : Type} {b : β} {f : hy_C β} (X : hy_Cx G x own cc nL fr lo) {index : Nat} (w1 : Cond.methodLink own index Lib.Math.min.name ∈ hy_WT) (w2 : Cond.static Lib.Math.min.name ∈ hy_WT) (w3 : Cond.initialized "java/lang/Math" ∈ hy_WT) (w4 : Cond.code Lib.Math.min.name Lib.Math.min.code 2 (some .int) ∈ hy_WT) (h1 : 1 ≤ fr) (h2 : 21 ≤ lo) (d : hy_dq cc pc (.invokestatic index) 3 = true) (k : hy_Sn G x nL (pc + 3) b f) : hy_Sn G x nL pc b (o_imin f) := by
  intro L S D ls H locs hL hH hS h
  obtain ⟨p, l, e, R, s, m, args, below, meth, c, cells, slots, Q⟩ := x
  obtain ⟨hx, hb, hml, hown, hts, hlk, hK, hfr, hlo, hce, hsl⟩ := X
  unfold o_imin at h
  split at h
  · rename_i y z S'
    cases hca : Nat.ble (hy_cat S') 8 with
    | false => rw [hca] at h; cases h
    | true =>
      rw [hca] at h
      have e1 := hy_cat_sum G.1 S'
      have e2 := Nat.le_of_ble_eq_true hca
      exact va_mmin hx hb (hml.trans hL.1.symm) hown (hts _ w1) (hts _ w2) (hts _ w3) (hts _ w4) (Nat.le_trans h1 hfr) (by omega) hce hsl (hy_dqs d) (k _ _ _ _ _ _ hL hH hS h)
  · cases h
/-! ===== a part of the static array into one of ours ===== -/
def o_acpyS {β : Type} (f : hy_C β) : hy_C β := fun L S D => match S with
  | .int n :: .int dp :: .ref b :: .int sp :: .ref a :: S' => bif Nat.beq a 1000 && Nat.ble (hy_cat S') 8 then (if hy_rng sp n 8 = true ∧ hy_rng dp n (hy_wl b) = true then f L S' (hy_cp D 1000 b sp.toNatClampNeg dp.toNatClampNeg n.toNatClampNeg) else none) else none
  | _ => none
theorem hy_nn {z : Int32} (hz : ¬ z < 0) : z.toInt = (z.toNatClampNeg : Int) := by
  have hz0 : (0 : Int) ≤ z.toInt := by
    have := Int32.not_lt.mp hz
    simpa using Int32.le_iff_toInt_le.mp this
  show z.toInt = ((z.toInt.toNat : Nat) : Int)
  omega
theorem hs_acpyS {G : hy_G} {x : hy_X} {own : String} {cc : ByteArray} {nL fr lo pc : Nat} {β : Type} {b : β} {f : hy_C β} (X : hy_Cx G x own cc nL fr lo) {index : Nat} (w1 : Cond.methodLink own index arraycopyName ∈ hy_WT) (w2 : Cond.native arraycopyName ∈ hy_WT) (w3 : Cond.static arraycopyName ∈ hy_WT) (w4 : Cond.initialized "java/lang/System" ∈ hy_WT) (h1 : 1 ≤ fr) (h2 : 26 ≤ lo) (d : hy_dq cc pc (.invokestatic index) 3 = true) (k : hy_Sn G x nL (pc + 3) b f) : hy_Sn G x nL pc b (o_acpyS f) := by
  intro L S D ls H locs hL hH hS h
  obtain ⟨p, l, e, R, s, m, args, below, meth, c, cells, slots, Q⟩ := x
  obtain ⟨hx, hb, hml, hown, hts, hlk, hK, hfr, hlo, hce, hsl⟩ := X
  unfold o_acpyS at h
  split at h
  · rename_i n dp a1 sp a0 S'
    cases hca : Nat.beq a0 1000 && Nat.ble (hy_cat S') 8 with
    | false => rw [hca] at h; cases h
    | true =>
      rw [hca] at h
      dsimp only [cond_true] at h
      by_cases hi : hy_rng sp n 8 = true ∧ hy_rng dp n (hy_wl a1) = true
      · rw [if_pos hi] at h
        simp only [Bool.and_eq_true] at hca
        have ea : a0 = 1000 := Nat.eq_of_beq_eq_true hca.1
        subst ea
        obtain ⟨r1, r2, r3, -⟩ := hy_rng_spec hi.1
        obtain ⟨r4, -, r6, hz1⟩ := hy_rng_spec hi.2
        obtain ⟨rs1, hsh1⟩ := hy_wl_spec hz1
        have hlt1 := hy_sh_lt hsh1 (by omega)
        obtain ⟨scr, t1, t2, t3, t4, t5, t6, t7⟩ := hK.2.2.1
        have hsc : H[G.1 1000]? = some scr := by rw [hS.2.1 _ (Array.getElem?_eq_some_iff.mp t1).1 t7]; exact t1
        have hc1 : H[G.1 a1]? = some (vp_cell G.2.2.2.1 (hy_wl a1, .inl (D a1))) := by
          have := hH.1 a1 _ (hy_ws_get hlt1)
          rw [hy_E_0 hsh1] at this
          exact this
        obtain ⟨u1, k0, hk0, cm0, hkk0⟩ := t2
        obtain ⟨-, k1, hk1, cm1, hkk1⟩ := (hK.1.2 0 _ rfl).1 (hy_wl a1) (fun j => .int (D a1 j))
        have e0 := hy_cat_sum G.1 S'
        have e2 := Nat.le_of_ble_eq_true hca.2
        have e3 : nativeFrameWords "java/lang/System" "arraycopy" 5 = 7 := by decide +kernel
        have hval : ∀ i, i < n.toNatClampNeg → scr.slots.getD (sp.toNatClampNeg + i) .null = .int (nI (sp.toNatClampNeg + i)) := fun i hi9 => by
          rw [Array.getD_eq_getD_getElem?, t6 _ (by omega)]
          rfl
        intro T hT X
        obtain ⟨vm', X', step⟩ := X.arraycopy hx hown (hts _ w1) (hts _ w2) (hts _ w3) (hts _ w4) (src := G.1 1000) (dst := G.1 a1) (cs := scr) (cd := vp_cell G.2.2.2.1 (hy_wl a1, .inl (D a1))) (srcPos := sp) (destPos := dp) (n := n) (by rw [hT]; exact hsc) (by rw [hT]; exact hc1)
          u1 (fun _ h => by cases h) t3 (fun h => by cases h) hk0 hk1 hkk0 hkk1 rfl r1 r4 r2
          (by rw [hy_nn r1, hy_nn r2]; omega)
          (by rw [hy_nn r4, hy_nn r2]; show ¬ _ > ((arrV _ _ (fun j => .int (D a1 j))).slots.size : Int); rw [arrV_size]; omega)
          (fun vm₁ _ i hi9 => by rw [hval i hi9]; exact ⟨rfl, trivial⟩)
          (g := F0 m pc ls (.int n :: .int dp :: .ref (G.1 a1) :: .int sp :: .ref (G.1 1000) :: S'.map (hy_v G.1))) rfl (by rw [hml]; exact hL.1) (rest := S'.map (hy_v G.1)) rfl (by rw [hb]; exact hy_dqs d) (Nat.le_trans h1 hfr) (by rw [e3]; show 2 * 0 + _ + _ ≤ _; omega)
        have est : scr.stretch sp.toNatClampNeg n.toNatClampNeg = (arrV 0 8 (fun j => .int (nI j))).stretch sp.toNatClampNeg n.toNatClampNeg := by
          unfold Cell.stretch
          apply List.map_congr_left
          intro i hi9
          have hi8 := List.mem_range.mp hi9
          rw [hval i hi8, Array.getD_eq_getD_getElem?, arrV_read _ _ (by omega)]
          rfl
        have hcp : va_cpy (fun j => nI j) (D a1) sp.toNatClampNeg dp.toNatClampNeg n.toNatClampNeg = va_cpy (D 1000) (D a1) sp.toNatClampNeg dp.toNatClampNeg n.toNatClampNeg := by
          funext q
          unfold va_cpy
          by_cases hq : dp.toNatClampNeg ≤ q ∧ q < dp.toNatClampNeg + n.toNatClampNeg
          · rw [if_pos hq, if_pos hq, hH.2 _ (by omega)]
          · rw [if_neg hq, if_neg hq]
        have e1 : copied scr (vp_cell G.2.2.2.1 (hy_wl a1, .inl (D a1))) sp dp n = vp_cell G.2.2.2.1 (hy_wl a1, .inl (va_cpy (D 1000) (D a1) sp.toNatClampNeg dp.toNatClampNeg n.toNatClampNeg)) := by
          rw [← hcp]
          have := va_copied (fun z => Value.int z) 0 G.2.2.2.1 (n0 := 8) (n1 := hy_wl a1) (sp := sp.toNatClampNeg) (dp := dp.toNatClampNeg) (n := n.toNatClampNeg) (fun j => nI j) (D a1) r3
          rw [← est] at this
          exact this
        rw [e1] at X' step
        have hl : G.1 a1 < H.size := (Array.getElem?_eq_some_iff.mp hc1).1
        have hheap : ((T.setVm vm').setCell (G.1 a1) (vp_cell G.2.2.2.1 (hy_wl a1, .inl (va_cpy (D 1000) (D a1) sp.toNatClampNeg dp.toNatClampNeg n.toNatClampNeg)))).heap = H.setIfInBounds (G.1 a1) (vp_cell G.2.2.2.1 (hy_wl a1, .inl (va_cpy (D 1000) (D a1) sp.toNatClampNeg dp.toNatClampNeg n.toNatClampNeg))) := by rw [← hT]; rfl
        have oq : ∀ q : Nat, q ≠ G.1 a1 → (H.setIfInBounds (G.1 a1) (vp_cell G.2.2.2.1 (hy_wl a1, .inl (va_cpy (D 1000) (D a1) sp.toNatClampNeg dp.toNatClampNeg n.toNatClampNeg))))[q]? = H[q]? := fun q hq => by simp [Array.getElem?_setIfInBounds, Ne.symm hq]
        have hA1 : hy_A G (G.1 a1) := ⟨a1, hlt1, rfl⟩
        have hDw := hy_D hK.2.2.2.2.2 D
        have hP1 := hH.1.set hDw (p := a1) (e := .inl (G.2.2.2.1, hy_wl a1, .inl (va_cpy (D 1000) (D a1) sp.toNatClampNeg dp.toNatClampNeg n.toNatClampNeg))) (hy_ws_get hlt1) (show (H.setIfInBounds (G.1 a1) _)[G.1 a1]? = some _ by simp [Array.getElem?_setIfInBounds, hl]) oq
        obtain ⟨t, a1', b1'⟩ := k _ _ _ _ _ _ hL (hy_HR_put (D' := hy_cp D 1000 a1 sp.toNatClampNeg dp.toNatClampNeg n.toNatClampNeg) hH hlt1 (by rw [hy_E_0 hsh1]; simp [hy_cp]) (fun c' h9 => by simp [hy_cp, h9]) hP1) ⟨by simp; exact hS.1, fun q g1 g2 => by
          rw [oq q (fun e => g2 (by rw [e]; exact hA1))]
          exact hS.2.1 q g1 g2, fun q hq => by
          rcases List.mem_append.mp hq with h | h
          · exact hS.2.2 q h
          · obtain ⟨z, -, hz⟩ := List.mem_map.mp h
            rw [← hz]
            exact hA1⟩ h _ hheap X'
        exact ⟨t, step t a1', b1'⟩
      · rw [if_neg hi] at h
        cases h
  · cases h
end
