section
-- ===== PART A: goes FIRST, ahead of the names: the tables' words, and 'selects' of the private methods out of them =====
/-- a private method of a class that the tables say can be made, by its rows of tables_1 -/
def lw_okq (q : MethodName × Nat) : Prop := (q.1.cls ≠ "java/lang/invoke/MethodHandle" ∧ q.1.cls ≠ "java/lang/invoke/VarHandle") ∧ Cond.instantiable q.1.cls q.2 ∈ tables_1 ∧ Cond.privateMethod q.1 ∈ tables_1 ∧ Cond.instanceMethod q.1 ∈ tables_1
theorem lw_p0 : lw_okq (⟨"RainOrgan$Reader", "nextToken", "()Z"⟩, 10) := ⟨⟨by decide +kernel, by decide +kernel⟩, List.mem_of_getElem? (i := 28) (by decide +kernel), List.mem_of_getElem? (i := 460) (by decide +kernel), List.mem_of_getElem? (i := 461) (by decide +kernel)⟩
theorem lw_p1 : lw_okq (⟨"RainOrgan$Reader", "kindAt", "(I)I"⟩, 10) := ⟨⟨by decide +kernel, by decide +kernel⟩, List.mem_of_getElem? (i := 28) (by decide +kernel), List.mem_of_getElem? (i := 464) (by decide +kernel), List.mem_of_getElem? (i := 465) (by decide +kernel)⟩
theorem lw_p2 : lw_okq (⟨"RainOrgan$Reader", "fail", "(I)Z"⟩, 10) := ⟨⟨by decide +kernel, by decide +kernel⟩, List.mem_of_getElem? (i := 28) (by decide +kernel), List.mem_of_getElem? (i := 468) (by decide +kernel), List.mem_of_getElem? (i := 469) (by decide +kernel)⟩
theorem lw_p3 : lw_okq (⟨"RainOrgan$Reader", "allPartsAreThere", "()Z"⟩, 10) := ⟨⟨by decide +kernel, by decide +kernel⟩, List.mem_of_getElem? (i := 28) (by decide +kernel), List.mem_of_getElem? (i := 472) (by decide +kernel), List.mem_of_getElem? (i := 473) (by decide +kernel)⟩
theorem lw_p4 : lw_okq (⟨"RainOrgan$Reader", "isThere", "(I)Z"⟩, 10) := ⟨⟨by decide +kernel, by decide +kernel⟩, List.mem_of_getElem? (i := 28) (by decide +kernel), List.mem_of_getElem? (i := 476) (by decide +kernel), List.mem_of_getElem? (i := 477) (by decide +kernel)⟩
theorem lw_p5 : lw_okq (⟨"RainOrgan$Reader", "isNamed", "(Ljava/lang/String;)Z"⟩, 10) := ⟨⟨by decide +kernel, by decide +kernel⟩, List.mem_of_getElem? (i := 28) (by decide +kernel), List.mem_of_getElem? (i := 481) (by decide +kernel), List.mem_of_getElem? (i := 482) (by decide +kernel)⟩
theorem lw_p6 : lw_okq (⟨"RainOrgan$Reader", "readRoof", "()Z"⟩, 10) := ⟨⟨by decide +kernel, by decide +kernel⟩, List.mem_of_getElem? (i := 28) (by decide +kernel), List.mem_of_getElem? (i := 533) (by decide +kernel), List.mem_of_getElem? (i := 534) (by decide +kernel)⟩
theorem lw_p7 : lw_okq (⟨"RainOrgan$Reader", "needsNumber", "(II)Z"⟩, 10) := ⟨⟨by decide +kernel, by decide +kernel⟩, List.mem_of_getElem? (i := 28) (by decide +kernel), List.mem_of_getElem? (i := 537) (by decide +kernel), List.mem_of_getElem? (i := 538) (by decide +kernel)⟩
theorem lw_p8 : lw_okq (⟨"RainOrgan$Reader", "numberRead", "()I"⟩, 10) := ⟨⟨by decide +kernel, by decide +kernel⟩, List.mem_of_getElem? (i := 28) (by decide +kernel), List.mem_of_getElem? (i := 541) (by decide +kernel), List.mem_of_getElem? (i := 542) (by decide +kernel)⟩
theorem lw_p9 : lw_okq (⟨"RainOrgan$Reader", "needs", "(I)Z"⟩, 10) := ⟨⟨by decide +kernel, by decide +kernel⟩, List.mem_of_getElem? (i := 28) (by decide +kernel), List.mem_of_getElem? (i := 545) (by decide +kernel), List.mem_of_getElem? (i := 546) (by decide +kernel)⟩
theorem lw_p10 : lw_okq (⟨"RainOrgan$Reader", "readPeg", "()Z"⟩, 10) := ⟨⟨by decide +kernel, by decide +kernel⟩, List.mem_of_getElem? (i := 28) (by decide +kernel), List.mem_of_getElem? (i := 550) (by decide +kernel), List.mem_of_getElem? (i := 551) (by decide +kernel)⟩
theorem lw_p11 : lw_okq (⟨"RainOrgan$Reader", "readWay", "(I)Z"⟩, 10) := ⟨⟨by decide +kernel, by decide +kernel⟩, List.mem_of_getElem? (i := 28) (by decide +kernel), List.mem_of_getElem? (i := 554) (by decide +kernel), List.mem_of_getElem? (i := 555) (by decide +kernel)⟩
theorem lw_p12 : lw_okq (⟨"RainOrgan$Reader", "readSpout", "()Z"⟩, 10) := ⟨⟨by decide +kernel, by decide +kernel⟩, List.mem_of_getElem? (i := 28) (by decide +kernel), List.mem_of_getElem? (i := 561) (by decide +kernel), List.mem_of_getElem? (i := 562) (by decide +kernel)⟩
theorem lw_p13 : lw_okq (⟨"RainOrgan$Reader", "readCup", "(I)Z"⟩, 10) := ⟨⟨by decide +kernel, by decide +kernel⟩, List.mem_of_getElem? (i := 28) (by decide +kernel), List.mem_of_getElem? (i := 565) (by decide +kernel), List.mem_of_getElem? (i := 566) (by decide +kernel)⟩
theorem lw_p14 : lw_okq (⟨"RainOrgan$Reader", "namedKind", "()I"⟩, 10) := ⟨⟨by decide +kernel, by decide +kernel⟩, List.mem_of_getElem? (i := 28) (by decide +kernel), List.mem_of_getElem? (i := 569) (by decide +kernel), List.mem_of_getElem? (i := 570) (by decide +kernel)⟩
theorem lw_p15 : lw_okq (⟨"RainOrgan$Reader", "readRain", "()Z"⟩, 10) := ⟨⟨by decide +kernel, by decide +kernel⟩, List.mem_of_getElem? (i := 28) (by decide +kernel), List.mem_of_getElem? (i := 583) (by decide +kernel), List.mem_of_getElem? (i := 584) (by decide +kernel)⟩
def lw_privs_1 : List (MethodName × Nat) := [(⟨"RainOrgan$Reader", "nextToken", "()Z"⟩, 10), (⟨"RainOrgan$Reader", "kindAt", "(I)I"⟩, 10), (⟨"RainOrgan$Reader", "fail", "(I)Z"⟩, 10), (⟨"RainOrgan$Reader", "allPartsAreThere", "()Z"⟩, 10), (⟨"RainOrgan$Reader", "isThere", "(I)Z"⟩, 10), (⟨"RainOrgan$Reader", "isNamed", "(Ljava/lang/String;)Z"⟩, 10), (⟨"RainOrgan$Reader", "readRoof", "()Z"⟩, 10), (⟨"RainOrgan$Reader", "needsNumber", "(II)Z"⟩, 10), (⟨"RainOrgan$Reader", "numberRead", "()I"⟩, 10), (⟨"RainOrgan$Reader", "needs", "(I)Z"⟩, 10), (⟨"RainOrgan$Reader", "readPeg", "()Z"⟩, 10), (⟨"RainOrgan$Reader", "readWay", "(I)Z"⟩, 10), (⟨"RainOrgan$Reader", "readSpout", "()Z"⟩, 10), (⟨"RainOrgan$Reader", "readCup", "(I)Z"⟩, 10), (⟨"RainOrgan$Reader", "namedKind", "()I"⟩, 10), (⟨"RainOrgan$Reader", "readRain", "()Z"⟩, 10)]
theorem lw_r1 : ∀ q ∈ lw_privs_1, lw_okq q := List.forall_mem_cons.mpr ⟨lw_p0, List.forall_mem_cons.mpr ⟨lw_p1, List.forall_mem_cons.mpr ⟨lw_p2, List.forall_mem_cons.mpr ⟨lw_p3, List.forall_mem_cons.mpr ⟨lw_p4, List.forall_mem_cons.mpr ⟨lw_p5, List.forall_mem_cons.mpr ⟨lw_p6, List.forall_mem_cons.mpr ⟨lw_p7, List.forall_mem_cons.mpr ⟨lw_p8, List.forall_mem_cons.mpr ⟨lw_p9, List.forall_mem_cons.mpr ⟨lw_p10, List.forall_mem_cons.mpr ⟨lw_p11, List.forall_mem_cons.mpr ⟨lw_p12, List.forall_mem_cons.mpr ⟨lw_p13, List.forall_mem_cons.mpr ⟨lw_p14, List.forall_mem_cons.mpr ⟨lw_p15, fun _ h => absurd h List.not_mem_nil⟩⟩⟩⟩⟩⟩⟩⟩⟩⟩⟩⟩⟩⟩⟩⟩
theorem lw_p16 : lw_okq (⟨"RainOrgan$Reader", "readSeconds", "([II)I"⟩, 10) := ⟨⟨by decide +kernel, by decide +kernel⟩, List.mem_of_getElem? (i := 28) (by decide +kernel), List.mem_of_getElem? (i := 587) (by decide +kernel), List.mem_of_getElem? (i := 588) (by decide +kernel)⟩
theorem lw_p17 : lw_okq (⟨"RainOrgan$Reader", "isSecond", "(II)Z"⟩, 10) := ⟨⟨by decide +kernel, by decide +kernel⟩, List.mem_of_getElem? (i := 28) (by decide +kernel), List.mem_of_getElem? (i := 591) (by decide +kernel), List.mem_of_getElem? (i := 592) (by decide +kernel)⟩
theorem lw_p18 : lw_okq (⟨"RainOrgan$Reader", "readTune", "()Z"⟩, 10) := ⟨⟨by decide +kernel, by decide +kernel⟩, List.mem_of_getElem? (i := 28) (by decide +kernel), List.mem_of_getElem? (i := 596) (by decide +kernel), List.mem_of_getElem? (i := 597) (by decide +kernel)⟩
theorem lw_p19 : lw_okq (⟨"RainOrgan$Reader", "readSleep", "()Z"⟩, 10) := ⟨⟨by decide +kernel, by decide +kernel⟩, List.mem_of_getElem? (i := 28) (by decide +kernel), List.mem_of_getElem? (i := 601) (by decide +kernel), List.mem_of_getElem? (i := 602) (by decide +kernel)⟩
theorem lw_p20 : lw_okq (⟨"RainOrgan$Reader", "readWear", "()Z"⟩, 10) := ⟨⟨by decide +kernel, by decide +kernel⟩, List.mem_of_getElem? (i := 28) (by decide +kernel), List.mem_of_getElem? (i := 606) (by decide +kernel), List.mem_of_getElem? (i := 607) (by decide +kernel)⟩
theorem lw_p21 : lw_okq (⟨"RainOrgan", "takeWhatWasRead", "()V"⟩, 11) := ⟨⟨by decide +kernel, by decide +kernel⟩, List.mem_of_getElem? (i := 20) (by decide +kernel), List.mem_of_getElem? (i := 610) (by decide +kernel), List.mem_of_getElem? (i := 611) (by decide +kernel)⟩
theorem lw_p22 : lw_okq (⟨"RainOrgan", "isGutter", "(I)Z"⟩, 11) := ⟨⟨by decide +kernel, by decide +kernel⟩, List.mem_of_getElem? (i := 20) (by decide +kernel), List.mem_of_getElem? (i := 634) (by decide +kernel), List.mem_of_getElem? (i := 635) (by decide +kernel)⟩
theorem lw_p23 : lw_okq (⟨"RainOrgan", "isSpout", "(I)Z"⟩, 11) := ⟨⟨by decide +kernel, by decide +kernel⟩, List.mem_of_getElem? (i := 20) (by decide +kernel), List.mem_of_getElem? (i := 642) (by decide +kernel), List.mem_of_getElem? (i := 643) (by decide +kernel)⟩
theorem lw_p24 : lw_okq (⟨"RainOrgan", "manySettings", "()I"⟩, 11) := ⟨⟨by decide +kernel, by decide +kernel⟩, List.mem_of_getElem? (i := 20) (by decide +kernel), List.mem_of_getElem? (i := 671) (by decide +kernel), List.mem_of_getElem? (i := 672) (by decide +kernel)⟩
theorem lw_p25 : lw_okq (⟨"RainOrgan$Flow", "fallOnRoofs", "(LRainOrgan$Plan;I)V"⟩, 12) := ⟨⟨by decide +kernel, by decide +kernel⟩, List.mem_of_getElem? (i := 238) (by decide +kernel), List.mem_of_getElem? (i := 697) (by decide +kernel), List.mem_of_getElem? (i := 698) (by decide +kernel)⟩
theorem lw_p26 : lw_okq (⟨"RainOrgan$Flow", "lead", "(II)V"⟩, 12) := ⟨⟨by decide +kernel, by decide +kernel⟩, List.mem_of_getElem? (i := 238) (by decide +kernel), List.mem_of_getElem? (i := 701) (by decide +kernel), List.mem_of_getElem? (i := 702) (by decide +kernel)⟩
theorem lw_p27 : lw_okq (⟨"RainOrgan$Flow", "runThroughGutters", "(LRainOrgan$Plan;LRainOrgan$Setup;)V"⟩, 12) := ⟨⟨by decide +kernel, by decide +kernel⟩, List.mem_of_getElem? (i := 238) (by decide +kernel), List.mem_of_getElem? (i := 705) (by decide +kernel), List.mem_of_getElem? (i := 706) (by decide +kernel)⟩
theorem lw_p28 : lw_okq (⟨"RainOrgan$Flow", "shareOfLeft", "(II)I"⟩, 12) := ⟨⟨by decide +kernel, by decide +kernel⟩, List.mem_of_getElem? (i := 238) (by decide +kernel), List.mem_of_getElem? (i := 709) (by decide +kernel), List.mem_of_getElem? (i := 710) (by decide +kernel)⟩
theorem lw_p29 : lw_okq (⟨"RainOrgan$Flow", "fillCups", "(LRainOrgan$Plan;LRainOrgan$Setup;)I"⟩, 12) := ⟨⟨by decide +kernel, by decide +kernel⟩, List.mem_of_getElem? (i := 238) (by decide +kernel), List.mem_of_getElem? (i := 713) (by decide +kernel), List.mem_of_getElem? (i := 714) (by decide +kernel)⟩
theorem lw_p30 : lw_okq (⟨"RainOrgan$Flow", "fillCup", "(LRainOrgan$Plan;III)I"⟩, 12) := ⟨⟨by decide +kernel, by decide +kernel⟩, List.mem_of_getElem? (i := 238) (by decide +kernel), List.mem_of_getElem? (i := 718) (by decide +kernel), List.mem_of_getElem? (i := 719) (by decide +kernel)⟩
theorem lw_p31 : lw_okq (⟨"RainOrgan$Flow", "tip", "(IIII)I"⟩, 12) := ⟨⟨by decide +kernel, by decide +kernel⟩, List.mem_of_getElem? (i := 238) (by decide +kernel), List.mem_of_getElem? (i := 722) (by decide +kernel), List.mem_of_getElem? (i := 723) (by decide +kernel)⟩
def lw_privs_2 : List (MethodName × Nat) := [(⟨"RainOrgan$Reader", "readSeconds", "([II)I"⟩, 10), (⟨"RainOrgan$Reader", "isSecond", "(II)Z"⟩, 10), (⟨"RainOrgan$Reader", "readTune", "()Z"⟩, 10), (⟨"RainOrgan$Reader", "readSleep", "()Z"⟩, 10), (⟨"RainOrgan$Reader", "readWear", "()Z"⟩, 10), (⟨"RainOrgan", "takeWhatWasRead", "()V"⟩, 11), (⟨"RainOrgan", "isGutter", "(I)Z"⟩, 11), (⟨"RainOrgan", "isSpout", "(I)Z"⟩, 11), (⟨"RainOrgan", "manySettings", "()I"⟩, 11), (⟨"RainOrgan$Flow", "fallOnRoofs", "(LRainOrgan$Plan;I)V"⟩, 12), (⟨"RainOrgan$Flow", "lead", "(II)V"⟩, 12), (⟨"RainOrgan$Flow", "runThroughGutters", "(LRainOrgan$Plan;LRainOrgan$Setup;)V"⟩, 12), (⟨"RainOrgan$Flow", "shareOfLeft", "(II)I"⟩, 12), (⟨"RainOrgan$Flow", "fillCups", "(LRainOrgan$Plan;LRainOrgan$Setup;)I"⟩, 12), (⟨"RainOrgan$Flow", "fillCup", "(LRainOrgan$Plan;III)I"⟩, 12), (⟨"RainOrgan$Flow", "tip", "(IIII)I"⟩, 12)]
theorem lw_r2 : ∀ q ∈ lw_privs_2, lw_okq q := List.forall_mem_cons.mpr ⟨lw_p16, List.forall_mem_cons.mpr ⟨lw_p17, List.forall_mem_cons.mpr ⟨lw_p18, List.forall_mem_cons.mpr ⟨lw_p19, List.forall_mem_cons.mpr ⟨lw_p20, List.forall_mem_cons.mpr ⟨lw_p21, List.forall_mem_cons.mpr ⟨lw_p22, List.forall_mem_cons.mpr ⟨lw_p23, List.forall_mem_cons.mpr ⟨lw_p24, List.forall_mem_cons.mpr ⟨lw_p25, List.forall_mem_cons.mpr ⟨lw_p26, List.forall_mem_cons.mpr ⟨lw_p27, List.forall_mem_cons.mpr ⟨lw_p28, List.forall_mem_cons.mpr ⟨lw_p29, List.forall_mem_cons.mpr ⟨lw_p30, List.forall_mem_cons.mpr ⟨lw_p31, fun _ h => absurd h List.not_mem_nil⟩⟩⟩⟩⟩⟩⟩⟩⟩⟩⟩⟩⟩⟩⟩⟩
theorem lw_p32 : lw_okq (⟨"RainOrgan$Flow", "leak", "(III)I"⟩, 12) := ⟨⟨by decide +kernel, by decide +kernel⟩, List.mem_of_getElem? (i := 238) (by decide +kernel), List.mem_of_getElem? (i := 726) (by decide +kernel), List.mem_of_getElem? (i := 727) (by decide +kernel)⟩
theorem lw_p33 : lw_okq (⟨"RainOrgan$Flow", "countEach", "(III)I"⟩, 12) := ⟨⟨by decide +kernel, by decide +kernel⟩, List.mem_of_getElem? (i := 238) (by decide +kernel), List.mem_of_getElem? (i := 730) (by decide +kernel), List.mem_of_getElem? (i := 731) (by decide +kernel)⟩
theorem lw_p34 : lw_okq (⟨"RainOrgan", "isShower", "(I)Z"⟩, 11) := ⟨⟨by decide +kernel, by decide +kernel⟩, List.mem_of_getElem? (i := 20) (by decide +kernel), List.mem_of_getElem? (i := 753) (by decide +kernel), List.mem_of_getElem? (i := 754) (by decide +kernel)⟩
theorem lw_p35 : lw_okq (⟨"RainOrgan", "allSpouts", "()I"⟩, 11) := ⟨⟨by decide +kernel, by decide +kernel⟩, List.mem_of_getElem? (i := 20) (by decide +kernel), List.mem_of_getElem? (i := 779) (by decide +kernel), List.mem_of_getElem? (i := 780) (by decide +kernel)⟩
theorem lw_p36 : lw_okq (⟨"RainOrgan", "distance", "(I)I"⟩, 11) := ⟨⟨by decide +kernel, by decide +kernel⟩, List.mem_of_getElem? (i := 20) (by decide +kernel), List.mem_of_getElem? (i := 795) (by decide +kernel), List.mem_of_getElem? (i := 796) (by decide +kernel)⟩
theorem lw_p37 : lw_okq (⟨"RainOrgan", "chooseForShower", "(IZ)V"⟩, 11) := ⟨⟨by decide +kernel, by decide +kernel⟩, List.mem_of_getElem? (i := 20) (by decide +kernel), List.mem_of_getElem? (i := 813) (by decide +kernel), List.mem_of_getElem? (i := 814) (by decide +kernel)⟩
theorem lw_p38 : lw_okq (⟨"RainOrgan$Choice", "changedPegs", "(I)I"⟩, 8) := ⟨⟨by decide +kernel, by decide +kernel⟩, List.mem_of_getElem? (i := 315) (by decide +kernel), List.mem_of_getElem? (i := 829) (by decide +kernel), List.mem_of_getElem? (i := 830) (by decide +kernel)⟩
theorem lw_p39 : lw_okq (⟨"RainOrgan", "chooseForAllShowers", "()V"⟩, 11) := ⟨⟨by decide +kernel, by decide +kernel⟩, List.mem_of_getElem? (i := 20) (by decide +kernel), List.mem_of_getElem? (i := 841) (by decide +kernel), List.mem_of_getElem? (i := 842) (by decide +kernel)⟩
theorem lw_p40 : lw_okq (⟨"RainOrgan", "soundsAsTheTune", "(I)Z"⟩, 11) := ⟨⟨by decide +kernel, by decide +kernel⟩, List.mem_of_getElem? (i := 20) (by decide +kernel), List.mem_of_getElem? (i := 857) (by decide +kernel), List.mem_of_getElem? (i := 858) (by decide +kernel)⟩
theorem lw_p41 : lw_okq (⟨"RainOrgan", "keptImages", "()I"⟩, 11) := ⟨⟨by decide +kernel, by decide +kernel⟩, List.mem_of_getElem? (i := 20) (by decide +kernel), List.mem_of_getElem? (i := 942) (by decide +kernel), List.mem_of_getElem? (i := 943) (by decide +kernel)⟩
theorem lw_p42 : lw_okq (⟨"RainOrganModel", "step", "()V"⟩, 46) := ⟨⟨by decide +kernel, by decide +kernel⟩, List.mem_of_getElem? (i := 947) (by decide +kernel), List.mem_of_getElem? (i := 1108) (by decide +kernel), List.mem_of_getElem? (i := 1109) (by decide +kernel)⟩
theorem lw_p43 : lw_okq (⟨"RainOrganModel", "byteAt", "(I)I"⟩, 46) := ⟨⟨by decide +kernel, by decide +kernel⟩, List.mem_of_getElem? (i := 947) (by decide +kernel), List.mem_of_getElem? (i := 1112) (by decide +kernel), List.mem_of_getElem? (i := 1113) (by decide +kernel)⟩
theorem lw_p44 : lw_okq (⟨"RainOrganModel", "fails", "(I)V"⟩, 46) := ⟨⟨by decide +kernel, by decide +kernel⟩, List.mem_of_getElem? (i := 947) (by decide +kernel), List.mem_of_getElem? (i := 1120) (by decide +kernel), List.mem_of_getElem? (i := 1121) (by decide +kernel)⟩
theorem lw_p45 : lw_okq (⟨"RainOrganModel", "readLine", "()V"⟩, 46) := ⟨⟨by decide +kernel, by decide +kernel⟩, List.mem_of_getElem? (i := 947) (by decide +kernel), List.mem_of_getElem? (i := 1124) (by decide +kernel), List.mem_of_getElem? (i := 1125) (by decide +kernel)⟩
theorem lw_p46 : lw_okq (⟨"RainOrganModel", "nameHere", "()I"⟩, 46) := ⟨⟨by decide +kernel, by decide +kernel⟩, List.mem_of_getElem? (i := 947) (by decide +kernel), List.mem_of_getElem? (i := 1128) (by decide +kernel), List.mem_of_getElem? (i := 1129) (by decide +kernel)⟩
theorem lw_p47 : lw_okq (⟨"RainOrganModel", "readThing", "(I)V"⟩, 46) := ⟨⟨by decide +kernel, by decide +kernel⟩, List.mem_of_getElem? (i := 947) (by decide +kernel), List.mem_of_getElem? (i := 1133) (by decide +kernel), List.mem_of_getElem? (i := 1134) (by decide +kernel)⟩
def lw_privs_3 : List (MethodName × Nat) := [(⟨"RainOrgan$Flow", "leak", "(III)I"⟩, 12), (⟨"RainOrgan$Flow", "countEach", "(III)I"⟩, 12), (⟨"RainOrgan", "isShower", "(I)Z"⟩, 11), (⟨"RainOrgan", "allSpouts", "()I"⟩, 11), (⟨"RainOrgan", "distance", "(I)I"⟩, 11), (⟨"RainOrgan", "chooseForShower", "(IZ)V"⟩, 11), (⟨"RainOrgan$Choice", "changedPegs", "(I)I"⟩, 8), (⟨"RainOrgan", "chooseForAllShowers", "()V"⟩, 11), (⟨"RainOrgan", "soundsAsTheTune", "(I)Z"⟩, 11), (⟨"RainOrgan", "keptImages", "()I"⟩, 11), (⟨"RainOrganModel", "step", "()V"⟩, 46), (⟨"RainOrganModel", "byteAt", "(I)I"⟩, 46), (⟨"RainOrganModel", "fails", "(I)V"⟩, 46), (⟨"RainOrganModel", "readLine", "()V"⟩, 46), (⟨"RainOrganModel", "nameHere", "()I"⟩, 46), (⟨"RainOrganModel", "readThing", "(I)V"⟩, 46)]
theorem lw_r3 : ∀ q ∈ lw_privs_3, lw_okq q := List.forall_mem_cons.mpr ⟨lw_p32, List.forall_mem_cons.mpr ⟨lw_p33, List.forall_mem_cons.mpr ⟨lw_p34, List.forall_mem_cons.mpr ⟨lw_p35, List.forall_mem_cons.mpr ⟨lw_p36, List.forall_mem_cons.mpr ⟨lw_p37, List.forall_mem_cons.mpr ⟨lw_p38, List.forall_mem_cons.mpr ⟨lw_p39, List.forall_mem_cons.mpr ⟨lw_p40, List.forall_mem_cons.mpr ⟨lw_p41, List.forall_mem_cons.mpr ⟨lw_p42, List.forall_mem_cons.mpr ⟨lw_p43, List.forall_mem_cons.mpr ⟨lw_p44, List.forall_mem_cons.mpr ⟨lw_p45, List.forall_mem_cons.mpr ⟨lw_p46, List.forall_mem_cons.mpr ⟨lw_p47, fun _ h => absurd h List.not_mem_nil⟩⟩⟩⟩⟩⟩⟩⟩⟩⟩⟩⟩⟩⟩⟩⟩
theorem lw_p48 : lw_okq (⟨"RainOrganModel", "number", "(II)I"⟩, 46) := ⟨⟨by decide +kernel, by decide +kernel⟩, List.mem_of_getElem? (i := 947) (by decide +kernel), List.mem_of_getElem? (i := 1137) (by decide +kernel), List.mem_of_getElem? (i := 1138) (by decide +kernel)⟩
theorem lw_p49 : lw_okq (⟨"RainOrganModel", "looks", "(II)V"⟩, 46) := ⟨⟨by decide +kernel, by decide +kernel⟩, List.mem_of_getElem? (i := 947) (by decide +kernel), List.mem_of_getElem? (i := 1141) (by decide +kernel), List.mem_of_getElem? (i := 1142) (by decide +kernel)⟩
theorem lw_p50 : lw_okq (⟨"RainOrganModel", "readWay", "(I)I"⟩, 46) := ⟨⟨by decide +kernel, by decide +kernel⟩, List.mem_of_getElem? (i := 947) (by decide +kernel), List.mem_of_getElem? (i := 1145) (by decide +kernel), List.mem_of_getElem? (i := 1146) (by decide +kernel)⟩
theorem lw_p51 : lw_okq (⟨"RainOrganModel", "readCup", "(I)V"⟩, 46) := ⟨⟨by decide +kernel, by decide +kernel⟩, List.mem_of_getElem? (i := 947) (by decide +kernel), List.mem_of_getElem? (i := 1149) (by decide +kernel), List.mem_of_getElem? (i := 1150) (by decide +kernel)⟩
theorem lw_p52 : lw_okq (⟨"RainOrganModel", "readSeconds", "(II)V"⟩, 46) := ⟨⟨by decide +kernel, by decide +kernel⟩, List.mem_of_getElem? (i := 947) (by decide +kernel), List.mem_of_getElem? (i := 1155) (by decide +kernel), List.mem_of_getElem? (i := 1156) (by decide +kernel)⟩
theorem lw_p53 : lw_okq (⟨"RainOrganModel", "takes", "()V"⟩, 46) := ⟨⟨by decide +kernel, by decide +kernel⟩, List.mem_of_getElem? (i := 947) (by decide +kernel), List.mem_of_getElem? (i := 1159) (by decide +kernel), List.mem_of_getElem? (i := 1160) (by decide +kernel)⟩
theorem lw_p54 : lw_okq (⟨"RainOrganModel", "isGutter", "(I)Z"⟩, 46) := ⟨⟨by decide +kernel, by decide +kernel⟩, List.mem_of_getElem? (i := 947) (by decide +kernel), List.mem_of_getElem? (i := 1175) (by decide +kernel), List.mem_of_getElem? (i := 1176) (by decide +kernel)⟩
theorem lw_p55 : lw_okq (⟨"RainOrganModel", "isSpout", "(I)Z"⟩, 46) := ⟨⟨by decide +kernel, by decide +kernel⟩, List.mem_of_getElem? (i := 947) (by decide +kernel), List.mem_of_getElem? (i := 1183) (by decide +kernel), List.mem_of_getElem? (i := 1184) (by decide +kernel)⟩
theorem lw_p56 : lw_okq (⟨"RainOrganModel", "settingMany", "()I"⟩, 46) := ⟨⟨by decide +kernel, by decide +kernel⟩, List.mem_of_getElem? (i := 947) (by decide +kernel), List.mem_of_getElem? (i := 1204) (by decide +kernel), List.mem_of_getElem? (i := 1205) (by decide +kernel)⟩
theorem lw_p57 : lw_okq (⟨"RainOrganModel", "settingsNow", "()I"⟩, 46) := ⟨⟨by decide +kernel, by decide +kernel⟩, List.mem_of_getElem? (i := 947) (by decide +kernel), List.mem_of_getElem? (i := 1208) (by decide +kernel), List.mem_of_getElem? (i := 1209) (by decide +kernel)⟩
theorem lw_p58 : lw_okq (⟨"RainOrganModel", "sets", "(I)V"⟩, 46) := ⟨⟨by decide +kernel, by decide +kernel⟩, List.mem_of_getElem? (i := 947) (by decide +kernel), List.mem_of_getElem? (i := 1212) (by decide +kernel), List.mem_of_getElem? (i := 1213) (by decide +kernel)⟩
theorem lw_p59 : lw_okq (⟨"RainOrganModel", "second", "(II)I"⟩, 46) := ⟨⟨by decide +kernel, by decide +kernel⟩, List.mem_of_getElem? (i := 947) (by decide +kernel), List.mem_of_getElem? (i := 1221) (by decide +kernel), List.mem_of_getElem? (i := 1222) (by decide +kernel)⟩
theorem lw_p60 : lw_okq (⟨"RainOrganModel", "gutters", "(II)V"⟩, 46) := ⟨⟨by decide +kernel, by decide +kernel⟩, List.mem_of_getElem? (i := 947) (by decide +kernel), List.mem_of_getElem? (i := 1225) (by decide +kernel), List.mem_of_getElem? (i := 1226) (by decide +kernel)⟩
theorem lw_p61 : lw_okq (⟨"RainOrganModel", "leads", "(III)V"⟩, 46) := ⟨⟨by decide +kernel, by decide +kernel⟩, List.mem_of_getElem? (i := 947) (by decide +kernel), List.mem_of_getElem? (i := 1229) (by decide +kernel), List.mem_of_getElem? (i := 1230) (by decide +kernel)⟩
theorem lw_p62 : lw_okq (⟨"RainOrganModel", "sounds", "(III)I"⟩, 46) := ⟨⟨by decide +kernel, by decide +kernel⟩, List.mem_of_getElem? (i := 947) (by decide +kernel), List.mem_of_getElem? (i := 1233) (by decide +kernel), List.mem_of_getElem? (i := 1234) (by decide +kernel)⟩
theorem lw_p63 : lw_okq (⟨"RainOrganModel", "dries", "(I)V"⟩, 46) := ⟨⟨by decide +kernel, by decide +kernel⟩, List.mem_of_getElem? (i := 947) (by decide +kernel), List.mem_of_getElem? (i := 1241) (by decide +kernel), List.mem_of_getElem? (i := 1242) (by decide +kernel)⟩
def lw_privs_4 : List (MethodName × Nat) := [(⟨"RainOrganModel", "number", "(II)I"⟩, 46), (⟨"RainOrganModel", "looks", "(II)V"⟩, 46), (⟨"RainOrganModel", "readWay", "(I)I"⟩, 46), (⟨"RainOrganModel", "readCup", "(I)V"⟩, 46), (⟨"RainOrganModel", "readSeconds", "(II)V"⟩, 46), (⟨"RainOrganModel", "takes", "()V"⟩, 46), (⟨"RainOrganModel", "isGutter", "(I)Z"⟩, 46), (⟨"RainOrganModel", "isSpout", "(I)Z"⟩, 46), (⟨"RainOrganModel", "settingMany", "()I"⟩, 46), (⟨"RainOrganModel", "settingsNow", "()I"⟩, 46), (⟨"RainOrganModel", "sets", "(I)V"⟩, 46), (⟨"RainOrganModel", "second", "(II)I"⟩, 46), (⟨"RainOrganModel", "gutters", "(II)V"⟩, 46), (⟨"RainOrganModel", "leads", "(III)V"⟩, 46), (⟨"RainOrganModel", "sounds", "(III)I"⟩, 46), (⟨"RainOrganModel", "dries", "(I)V"⟩, 46)]
theorem lw_r4 : ∀ q ∈ lw_privs_4, lw_okq q := List.forall_mem_cons.mpr ⟨lw_p48, List.forall_mem_cons.mpr ⟨lw_p49, List.forall_mem_cons.mpr ⟨lw_p50, List.forall_mem_cons.mpr ⟨lw_p51, List.forall_mem_cons.mpr ⟨lw_p52, List.forall_mem_cons.mpr ⟨lw_p53, List.forall_mem_cons.mpr ⟨lw_p54, List.forall_mem_cons.mpr ⟨lw_p55, List.forall_mem_cons.mpr ⟨lw_p56, List.forall_mem_cons.mpr ⟨lw_p57, List.forall_mem_cons.mpr ⟨lw_p58, List.forall_mem_cons.mpr ⟨lw_p59, List.forall_mem_cons.mpr ⟨lw_p60, List.forall_mem_cons.mpr ⟨lw_p61, List.forall_mem_cons.mpr ⟨lw_p62, List.forall_mem_cons.mpr ⟨lw_p63, fun _ h => absurd h List.not_mem_nil⟩⟩⟩⟩⟩⟩⟩⟩⟩⟩⟩⟩⟩⟩⟩⟩
theorem lw_p64 : lw_okq (⟨"RainOrganModel", "sumOf", "(II)I"⟩, 46) := ⟨⟨by decide +kernel, by decide +kernel⟩, List.mem_of_getElem? (i := 947) (by decide +kernel), List.mem_of_getElem? (i := 1249) (by decide +kernel), List.mem_of_getElem? (i := 1250) (by decide +kernel)⟩
theorem lw_p65 : lw_okq (⟨"RainOrganModel", "isShower", "(I)Z"⟩, 46) := ⟨⟨by decide +kernel, by decide +kernel⟩, List.mem_of_getElem? (i := 947) (by decide +kernel), List.mem_of_getElem? (i := 1261) (by decide +kernel), List.mem_of_getElem? (i := 1262) (by decide +kernel)⟩
theorem lw_p66 : lw_okq (⟨"RainOrganModel", "lengthOf", "(I)I"⟩, 46) := ⟨⟨by decide +kernel, by decide +kernel⟩, List.mem_of_getElem? (i := 947) (by decide +kernel), List.mem_of_getElem? (i := 1265) (by decide +kernel), List.mem_of_getElem? (i := 1266) (by decide +kernel)⟩
theorem lw_p67 : lw_okq (⟨"RainOrganModel", "plays2", "(I)V"⟩, 46) := ⟨⟨by decide +kernel, by decide +kernel⟩, List.mem_of_getElem? (i := 947) (by decide +kernel), List.mem_of_getElem? (i := 1273) (by decide +kernel), List.mem_of_getElem? (i := 1274) (by decide +kernel)⟩
theorem lw_p68 : lw_okq (⟨"RainOrganModel", "showers", "(I)V"⟩, 46) := ⟨⟨by decide +kernel, by decide +kernel⟩, List.mem_of_getElem? (i := 947) (by decide +kernel), List.mem_of_getElem? (i := 1277) (by decide +kernel), List.mem_of_getElem? (i := 1278) (by decide +kernel)⟩
theorem lw_p69 : lw_okq (⟨"RainOrganModel", "farOf", "(I)I"⟩, 46) := ⟨⟨by decide +kernel, by decide +kernel⟩, List.mem_of_getElem? (i := 947) (by decide +kernel), List.mem_of_getElem? (i := 1299) (by decide +kernel), List.mem_of_getElem? (i := 1300) (by decide +kernel)⟩
theorem lw_p70 : lw_okq (⟨"RainOrganModel", "layBest", "(I)V"⟩, 46) := ⟨⟨by decide +kernel, by decide +kernel⟩, List.mem_of_getElem? (i := 947) (by decide +kernel), List.mem_of_getElem? (i := 1310) (by decide +kernel), List.mem_of_getElem? (i := 1311) (by decide +kernel)⟩
theorem lw_p71 : lw_okq (⟨"RainOrganModel", "unlikePegs", "(II)I"⟩, 46) := ⟨⟨by decide +kernel, by decide +kernel⟩, List.mem_of_getElem? (i := 947) (by decide +kernel), List.mem_of_getElem? (i := 1318) (by decide +kernel), List.mem_of_getElem? (i := 1319) (by decide +kernel)⟩
theorem lw_p72 : lw_okq (⟨"RainOrganModel", "wakes", "(I)I"⟩, 46) := ⟨⟨by decide +kernel, by decide +kernel⟩, List.mem_of_getElem? (i := 947) (by decide +kernel), List.mem_of_getElem? (i := 1330) (by decide +kernel), List.mem_of_getElem? (i := 1331) (by decide +kernel)⟩
theorem lw_p73 : lw_okq (⟨"RainOrganModel", "copies", "(II)V"⟩, 46) := ⟨⟨by decide +kernel, by decide +kernel⟩, List.mem_of_getElem? (i := 947) (by decide +kernel), List.mem_of_getElem? (i := 1365) (by decide +kernel), List.mem_of_getElem? (i := 1366) (by decide +kernel)⟩
def lw_privs_5 : List (MethodName × Nat) := [(⟨"RainOrganModel", "sumOf", "(II)I"⟩, 46), (⟨"RainOrganModel", "isShower", "(I)Z"⟩, 46), (⟨"RainOrganModel", "lengthOf", "(I)I"⟩, 46), (⟨"RainOrganModel", "plays2", "(I)V"⟩, 46), (⟨"RainOrganModel", "showers", "(I)V"⟩, 46), (⟨"RainOrganModel", "farOf", "(I)I"⟩, 46), (⟨"RainOrganModel", "layBest", "(I)V"⟩, 46), (⟨"RainOrganModel", "unlikePegs", "(II)I"⟩, 46), (⟨"RainOrganModel", "wakes", "(I)I"⟩, 46), (⟨"RainOrganModel", "copies", "(II)V"⟩, 46)]
theorem lw_r5 : ∀ q ∈ lw_privs_5, lw_okq q := List.forall_mem_cons.mpr ⟨lw_p64, List.forall_mem_cons.mpr ⟨lw_p65, List.forall_mem_cons.mpr ⟨lw_p66, List.forall_mem_cons.mpr ⟨lw_p67, List.forall_mem_cons.mpr ⟨lw_p68, List.forall_mem_cons.mpr ⟨lw_p69, List.forall_mem_cons.mpr ⟨lw_p70, List.forall_mem_cons.mpr ⟨lw_p71, List.forall_mem_cons.mpr ⟨lw_p72, List.forall_mem_cons.mpr ⟨lw_p73, fun _ h => absurd h List.not_mem_nil⟩⟩⟩⟩⟩⟩⟩⟩⟩⟩
def lw_privs : List (MethodName × Nat) := lw_privs_1 ++ (lw_privs_2 ++ (lw_privs_3 ++ (lw_privs_4 ++ (lw_privs_5))))
def lw_tbl : List Cond := k2_sels lw_privs ++ tables_1
theorem lw_privs_ok : ∀ q ∈ lw_privs, lw_okq q := by
  show ∀ q ∈ lw_privs_1 ++ (lw_privs_2 ++ (lw_privs_3 ++ (lw_privs_4 ++ (lw_privs_5)))), lw_okq q
  exact List.forall_mem_append.mpr ⟨lw_r1, List.forall_mem_append.mpr ⟨lw_r2, List.forall_mem_append.mpr ⟨lw_r3, List.forall_mem_append.mpr ⟨lw_r4, lw_r5⟩⟩⟩⟩
/-! ===== BEGIN printed: names, fields, word lists, decode rows ===== -/
def RX0 : String := "RainOrgan$Choice"
def TX0 : u_T := fun k => match k with
  | 0 => ("RainOrgan$Choice", "number", "I", false)
  | 1 => ("RainOrgan$Choice", "far", "I", false)
  | 2 => ("RainOrgan$Choice", "asNear", "I", false)
  | 3 => ("RainOrgan$Choice", "offers", "I", false)
  | 4 => ("RainOrgan$Choice", "fewestNumber", "I", false)
  | 5 => ("RainOrgan$Choice", "fewestChanges", "I", false)
  | 6 => ("RainOrgan$Choice", "now", "I", false)
  | _ => ("RainOrgan$Choice", "gutters", "I", false)
def tyX0 : Nat → FieldType := fun k => match k with
  | 0 => .int
  | 1 => .int
  | 2 => .int
  | 3 => .int
  | 4 => .int
  | 5 => .int
  | 6 => .int
  | _ => .int
abbrev wsX00 : List Cond := u_ws RX0 TX0 8
theorem nmX0 : ∀ a, a < 8 → ∀ b, b < 8 → a ≠ b → (TX0 a).2.1 ≠ (TX0 b).2.1 := by decide +kernel
theorem tyX0_ok : ∀ k, k < 8 → parseFieldDescriptor (TX0 k).2.2.1 = some (tyX0 k) := by decide +kernel
abbrev cX0_init : ByteArray := prog_2_method_1_code
def yX0_init : MethodName := ⟨RX0, "<init>", "()V"⟩
abbrev cX0_begin : ByteArray := prog_2_method_2_code
def yX0_begin : MethodName := ⟨RX0, "begin", "(II)V"⟩
abbrev cX0_offer : ByteArray := prog_2_method_3_code
def yX0_offer : MethodName := ⟨RX0, "offer", "(II)V"⟩
abbrev cX0_changedPegs : ByteArray := prog_2_method_4_code
def yX0_changedPegs : MethodName := ⟨RX0, "changedPegs", "(I)I"⟩
def RX1 : String := "RainOrgan$Concert"
def TX1 : u_T := fun k => match k with
  | 0 => ("RainOrgan$Concert", "flow", "LRainOrgan$Flow;", true)
  | 1 => ("RainOrgan$Concert", "tones", "[I", true)
  | 2 => ("RainOrgan$Concert", "sounds", "[I", true)
  | _ => ("RainOrgan$Concert", "seconds", "I", false)
def tyX1 : Nat → FieldType := fun k => match k with
  | 0 => .object "RainOrgan$Flow"
  | 1 => .array .int
  | 2 => .array .int
  | _ => .int
abbrev wsX10 : List Cond := u_ws RX1 TX1 4
theorem nmX1 : ∀ a, a < 4 → ∀ b, b < 4 → a ≠ b → (TX1 a).2.1 ≠ (TX1 b).2.1 := by decide +kernel
theorem tyX1_ok : ∀ k, k < 4 → parseFieldDescriptor (TX1 k).2.2.1 = some (tyX1 k) := by decide +kernel
abbrev cX1_init : ByteArray := prog_3_method_1_code
def yX1_init : MethodName := ⟨RX1, "<init>", "()V"⟩
abbrev cX1_perform : ByteArray := prog_3_method_2_code
def yX1_perform : MethodName := ⟨RX1, "perform", "(LRainOrgan$Plan;LRainOrgan$Setup;I)V"⟩
abbrev cX1_farFromTune : ByteArray := prog_3_method_3_code
def yX1_farFromTune : MethodName := ⟨RX1, "farFromTune", "(LRainOrgan$Setup;)I"⟩
abbrev cX1_loudestSecond : ByteArray := prog_3_method_4_code
def yX1_loudestSecond : MethodName := ⟨RX1, "loudestSecond", "()I"⟩
abbrev cX1_wokenSleepers : ByteArray := prog_3_method_5_code
def yX1_wokenSleepers : MethodName := ⟨RX1, "wokenSleepers", "(LRainOrgan$Plan;)I"⟩
def RX2 : String := "RainOrgan$Flow"
def TX2 : u_T := fun k => match k with
  | 0 => ("RainOrgan$Flow", "held", "[I", true)
  | 1 => ("RainOrgan$Flow", "counts", "[I", true)
  | 2 => ("RainOrgan$Flow", "hits", "[J", true)
  | 3 => ("RainOrgan$Flow", "onTheWay", "[I", true)
  | 4 => ("RainOrgan$Flow", "louds", "[I", true)
  | 5 => ("RainOrgan$Flow", "second", "I", false)
  | 6 => ("RainOrgan$Flow", "fallen", "I", false)
  | 7 => ("RainOrgan$Flow", "ranOff", "I", false)
  | 8 => ("RainOrgan$Flow", "sounded", "I", false)
  | 9 => ("RainOrgan$Flow", "spoutsHeard", "I", false)
  | 10 => ("RainOrgan$Flow", "inGutters", "[I", true)
  | _ => ("RainOrgan$Flow", "atSpouts", "[I", true)
def tyX2 : Nat → FieldType := fun k => match k with
  | 0 => .array .int
  | 1 => .array .int
  | 2 => .array .long
  | 3 => .array .int
  | 4 => .array .int
  | 5 => .int
  | 6 => .int
  | 7 => .int
  | 8 => .int
  | 9 => .int
  | 10 => .array .int
  | _ => .array .int
abbrev wsX20 : List Cond := u_ws RX2 TX2 12
theorem nmX2 : ∀ a, a < 12 → ∀ b, b < 12 → a ≠ b → (TX2 a).2.1 ≠ (TX2 b).2.1 := by decide +kernel
theorem tyX2_ok : ∀ k, k < 12 → parseFieldDescriptor (TX2 k).2.2.1 = some (tyX2 k) := by decide +kernel
abbrev cX2_init : ByteArray := prog_4_method_1_code
def yX2_init : MethodName := ⟨RX2, "<init>", "()V"⟩
abbrev cX2_dryUp : ByteArray := prog_4_method_2_code
def yX2_dryUp : MethodName := ⟨RX2, "dryUp", "()V"⟩
abbrev cX2_copyFrom : ByteArray := prog_4_method_3_code
def yX2_copyFrom : MethodName := ⟨RX2, "copyFrom", "(LRainOrgan$Flow;)V"⟩
abbrev cX2_passSecond : ByteArray := prog_4_method_4_code
def yX2_passSecond : MethodName := ⟨RX2, "passSecond", "(LRainOrgan$Plan;LRainOrgan$Setup;I)I"⟩
abbrev cX2_fallOnRoofs : ByteArray := prog_4_method_5_code
def yX2_fallOnRoofs : MethodName := ⟨RX2, "fallOnRoofs", "(LRainOrgan$Plan;I)V"⟩
abbrev cX2_runThroughGutters : ByteArray := prog_4_method_6_code
def yX2_runThroughGutters : MethodName := ⟨RX2, "runThroughGutters", "(LRainOrgan$Plan;LRainOrgan$Setup;)V"⟩
abbrev cX2_shareOfLeft : ByteArray := prog_4_method_7_code
def yX2_shareOfLeft : MethodName := ⟨RX2, "shareOfLeft", "(II)I"⟩
abbrev cX2_lead : ByteArray := prog_4_method_8_code
def yX2_lead : MethodName := ⟨RX2, "lead", "(II)V"⟩
abbrev cX2_fillCups : ByteArray := prog_4_method_9_code
def yX2_fillCups : MethodName := ⟨RX2, "fillCups", "(LRainOrgan$Plan;LRainOrgan$Setup;)I"⟩
abbrev cX2_fillCup : ByteArray := prog_4_method_10_code
def yX2_fillCup : MethodName := ⟨RX2, "fillCup", "(LRainOrgan$Plan;III)I"⟩
abbrev cX2_tip : ByteArray := prog_4_method_11_code
def yX2_tip : MethodName := ⟨RX2, "tip", "(IIII)I"⟩
abbrev cX2_leak : ByteArray := prog_4_method_12_code
def yX2_leak : MethodName := ⟨RX2, "leak", "(III)I"⟩
abbrev cX2_countEach : ByteArray := prog_4_method_13_code
def yX2_countEach : MethodName := ⟨RX2, "countEach", "(III)I"⟩
abbrev cX2_emptyCup : ByteArray := prog_4_method_14_code
def yX2_emptyCup : MethodName := ⟨RX2, "emptyCup", "(I)V"⟩
abbrev cX2_isBroken : ByteArray := prog_4_method_15_code
def yX2_isBroken : MethodName := ⟨RX2, "isBroken", "(LRainOrgan$Plan;I)Z"⟩
abbrev cX2_brokenSpouts : ByteArray := prog_4_method_16_code
def yX2_brokenSpouts : MethodName := ⟨RX2, "brokenSpouts", "(LRainOrgan$Plan;)I"⟩
def RX3 : String := "RainOrgan$Image"
def TX3 : u_T := fun k => match k with
  | 0 => ("RainOrgan$Image", "setup", "LRainOrgan$Setup;", true)
  | 1 => ("RainOrgan$Image", "flow", "LRainOrgan$Flow;", true)
  | _ => ("RainOrgan$Image", "taken", "Z", false)
def tyX3 : Nat → FieldType := fun k => match k with
  | 0 => .object "RainOrgan$Setup"
  | 1 => .object "RainOrgan$Flow"
  | _ => .boolean
abbrev wsX30 : List Cond := u_ws RX3 TX3 3
theorem nmX3 : ∀ a, a < 3 → ∀ b, b < 3 → a ≠ b → (TX3 a).2.1 ≠ (TX3 b).2.1 := by decide +kernel
theorem tyX3_ok : ∀ k, k < 3 → parseFieldDescriptor (TX3 k).2.2.1 = some (tyX3 k) := by decide +kernel
abbrev cX3_init : ByteArray := prog_5_method_1_code
def yX3_init : MethodName := ⟨RX3, "<init>", "()V"⟩
def RX4 : String := "RainOrgan$Plan"
def TX4 : u_T := fun k => match k with
  | 0 => ("RainOrgan$Plan", "roofs", "I", false)
  | 1 => ("RainOrgan$Plan", "areas", "[I", true)
  | 2 => ("RainOrgan$Plan", "roofGutters", "[I", true)
  | 3 => ("RainOrgan$Plan", "gutters", "I", false)
  | 4 => ("RainOrgan$Plan", "left", "[I", true)
  | 5 => ("RainOrgan$Plan", "right", "[I", true)
  | 6 => ("RainOrgan$Plan", "spouts", "I", false)
  | 7 => ("RainOrgan$Plan", "tones", "[I", true)
  | 8 => ("RainOrgan$Plan", "sizes", "[I", true)
  | 9 => ("RainOrgan$Plan", "others", "[I", true)
  | 10 => ("RainOrgan$Plan", "showers", "I", false)
  | 11 => ("RainOrgan$Plan", "sleepers", "I", false)
  | 12 => ("RainOrgan$Plan", "sleepsFrom", "[I", true)
  | 13 => ("RainOrgan$Plan", "sleepsTo", "[I", true)
  | 14 => ("RainOrgan$Plan", "wakesAt", "[I", true)
  | _ => ("RainOrgan$Plan", "wear", "I", false)
def tyX4 : Nat → FieldType := fun k => match k with
  | 0 => .int
  | 1 => .array .int
  | 2 => .array .int
  | 3 => .int
  | 4 => .array .int
  | 5 => .array .int
  | 6 => .int
  | 7 => .array .int
  | 8 => .array .int
  | 9 => .array .int
  | 10 => .int
  | 11 => .int
  | 12 => .array .int
  | 13 => .array .int
  | 14 => .array .int
  | _ => .int
abbrev wsX40 : List Cond := u_ws RX4 TX4 16
theorem nmX4 : ∀ a, a < 16 → ∀ b, b < 16 → a ≠ b → (TX4 a).2.1 ≠ (TX4 b).2.1 := by decide +kernel
theorem tyX4_ok : ∀ k, k < 16 → parseFieldDescriptor (TX4 k).2.2.1 = some (tyX4 k) := by decide +kernel
abbrev cX4_init : ByteArray := prog_6_method_1_code
def yX4_init : MethodName := ⟨RX4, "<init>", "()V"⟩
abbrev cX4_forget : ByteArray := prog_6_method_2_code
def yX4_forget : MethodName := ⟨RX4, "forget", "()V"⟩
def RX5 : String := "RainOrgan$Reader"
def TX5 : u_T := fun k => match k with
  | 0 => ("RainOrgan$Reader", "tape", "LRainOrgan$Tape;", true)
  | 1 => ("RainOrgan$Reader", "plan", "LRainOrgan$Plan;", false)
  | 2 => ("RainOrgan$Reader", "setup", "LRainOrgan$Setup;", false)
  | 3 => ("RainOrgan$Reader", "fault", "I", false)
  | 4 => ("RainOrgan$Reader", "place", "I", false)
  | 5 => ("RainOrgan$Reader", "wearTold", "Z", false)
  | 6 => ("RainOrgan$Reader", "at", "I", false)
  | 7 => ("RainOrgan$Reader", "start", "I", false)
  | 8 => ("RainOrgan$Reader", "kind", "I", false)
  | _ => ("RainOrgan$Reader", "value", "I", false)
def tyX5 : Nat → FieldType := fun k => match k with
  | 0 => .object "RainOrgan$Tape"
  | 1 => .object "RainOrgan$Plan"
  | 2 => .object "RainOrgan$Setup"
  | 3 => .int
  | 4 => .int
  | 5 => .boolean
  | 6 => .int
  | 7 => .int
  | 8 => .int
  | _ => .int
abbrev wsX50 : List Cond := u_ws RX5 TX5 10
theorem nmX5 : ∀ a, a < 10 → ∀ b, b < 10 → a ≠ b → (TX5 a).2.1 ≠ (TX5 b).2.1 := by decide +kernel
theorem tyX5_ok : ∀ k, k < 10 → parseFieldDescriptor (TX5 k).2.2.1 = some (tyX5 k) := by decide +kernel
abbrev cX5_init : ByteArray := prog_7_method_1_code
def yX5_init : MethodName := ⟨RX5, "<init>", "()V"⟩
abbrev cX5_begin : ByteArray := prog_7_method_2_code
def yX5_begin : MethodName := ⟨RX5, "begin", "()V"⟩
abbrev cX5_fail : ByteArray := prog_7_method_3_code
def yX5_fail : MethodName := ⟨RX5, "fail", "(I)Z"⟩
abbrev cX5_nextToken : ByteArray := prog_7_method_4_code
def yX5_nextToken : MethodName := ⟨RX5, "nextToken", "()Z"⟩
abbrev cX5_kindAt : ByteArray := prog_7_method_5_code
def yX5_kindAt : MethodName := ⟨RX5, "kindAt", "(I)I"⟩
abbrev cX5_numberRead : ByteArray := prog_7_method_6_code
def yX5_numberRead : MethodName := ⟨RX5, "numberRead", "()I"⟩
abbrev cX5_isNamed : ByteArray := prog_7_method_7_code
def yX5_isNamed : MethodName := ⟨RX5, "isNamed", "(Ljava/lang/String;)Z"⟩
abbrev cX5_needs : ByteArray := prog_7_method_8_code
def yX5_needs : MethodName := ⟨RX5, "needs", "(I)Z"⟩
abbrev cX5_needsNumber : ByteArray := prog_7_method_9_code
def yX5_needsNumber : MethodName := ⟨RX5, "needsNumber", "(II)Z"⟩
abbrev cX5_readLine : ByteArray := prog_7_method_10_code
def yX5_readLine : MethodName := ⟨RX5, "readLine", "()Z"⟩
abbrev cX5_readRoof : ByteArray := prog_7_method_11_code
def yX5_readRoof : MethodName := ⟨RX5, "readRoof", "()Z"⟩
abbrev cX5_readPeg : ByteArray := prog_7_method_12_code
def yX5_readPeg : MethodName := ⟨RX5, "readPeg", "()Z"⟩
abbrev cX5_readWay : ByteArray := prog_7_method_13_code
def yX5_readWay : MethodName := ⟨RX5, "readWay", "(I)Z"⟩
abbrev cX5_readSpout : ByteArray := prog_7_method_14_code
def yX5_readSpout : MethodName := ⟨RX5, "readSpout", "()Z"⟩
abbrev cX5_readCup : ByteArray := prog_7_method_15_code
def yX5_readCup : MethodName := ⟨RX5, "readCup", "(I)Z"⟩
abbrev cX5_namedKind : ByteArray := prog_7_method_16_code
def yX5_namedKind : MethodName := ⟨RX5, "namedKind", "()I"⟩
abbrev cX5_readRain : ByteArray := prog_7_method_17_code
def yX5_readRain : MethodName := ⟨RX5, "readRain", "()Z"⟩
abbrev cX5_readTune : ByteArray := prog_7_method_18_code
def yX5_readTune : MethodName := ⟨RX5, "readTune", "()Z"⟩
abbrev cX5_readSeconds : ByteArray := prog_7_method_19_code
def yX5_readSeconds : MethodName := ⟨RX5, "readSeconds", "([II)I"⟩
abbrev cX5_isSecond : ByteArray := prog_7_method_20_code
def yX5_isSecond : MethodName := ⟨RX5, "isSecond", "(II)Z"⟩
abbrev cX5_readSleep : ByteArray := prog_7_method_21_code
def yX5_readSleep : MethodName := ⟨RX5, "readSleep", "()Z"⟩
abbrev cX5_readWear : ByteArray := prog_7_method_22_code
def yX5_readWear : MethodName := ⟨RX5, "readWear", "()Z"⟩
abbrev cX5_allPartsAreThere : ByteArray := prog_7_method_23_code
def yX5_allPartsAreThere : MethodName := ⟨RX5, "allPartsAreThere", "()Z"⟩
abbrev cX5_isThere : ByteArray := prog_7_method_24_code
def yX5_isThere : MethodName := ⟨RX5, "isThere", "(I)Z"⟩
def RX6 : String := "RainOrgan$Setup"
def TX6 : u_T := fun k => match k with
  | 0 => ("RainOrgan$Setup", "pegs", "[I", true)
  | 1 => ("RainOrgan$Setup", "blocks", "[I", true)
  | 2 => ("RainOrgan$Setup", "kinds", "[I", true)
  | 3 => ("RainOrgan$Setup", "lengths", "[I", true)
  | 4 => ("RainOrgan$Setup", "rains", "[[I", true)
  | 5 => ("RainOrgan$Setup", "tune", "[I", true)
  | _ => ("RainOrgan$Setup", "tuneSeconds", "I", false)
def tyX6 : Nat → FieldType := fun k => match k with
  | 0 => .array .int
  | 1 => .array .int
  | 2 => .array .int
  | 3 => .array .int
  | 4 => .array (.array .int)
  | 5 => .array .int
  | _ => .int
abbrev wsX60 : List Cond := u_ws RX6 TX6 7
theorem nmX6 : ∀ a, a < 7 → ∀ b, b < 7 → a ≠ b → (TX6 a).2.1 ≠ (TX6 b).2.1 := by decide +kernel
theorem tyX6_ok : ∀ k, k < 7 → parseFieldDescriptor (TX6 k).2.2.1 = some (tyX6 k) := by decide +kernel
abbrev cX6_init : ByteArray := prog_8_method_1_code
def yX6_init : MethodName := ⟨RX6, "<init>", "()V"⟩
abbrev cX6_forget : ByteArray := prog_8_method_2_code
def yX6_forget : MethodName := ⟨RX6, "forget", "()V"⟩
abbrev cX6_copyFrom : ByteArray := prog_8_method_3_code
def yX6_copyFrom : MethodName := ⟨RX6, "copyFrom", "(LRainOrgan$Setup;)V"⟩
abbrev cX6_pegsAsNumber : ByteArray := prog_8_method_4_code
def yX6_pegsAsNumber : MethodName := ⟨RX6, "pegsAsNumber", "(I)I"⟩
abbrev cX6_setPegs : ByteArray := prog_8_method_5_code
def yX6_setPegs : MethodName := ⟨RX6, "setPegs", "(II)V"⟩
def RX7 : String := "RainOrgan$Sheet"
def TX7 : u_T := fun k => match k with
  | 0 => ("RainOrgan$Sheet", "cells", "[I", true)
  | 1 => ("RainOrgan$Sheet", "lane", "I", false)
  | _ => ("RainOrgan$Sheet", "size", "I", false)
def tyX7 : Nat → FieldType := fun k => match k with
  | 0 => .array .int
  | 1 => .int
  | _ => .int
abbrev wsX70 : List Cond := u_ws RX7 TX7 3
theorem nmX7 : ∀ a, a < 3 → ∀ b, b < 3 → a ≠ b → (TX7 a).2.1 ≠ (TX7 b).2.1 := by decide +kernel
theorem tyX7_ok : ∀ k, k < 3 → parseFieldDescriptor (TX7 k).2.2.1 = some (tyX7 k) := by decide +kernel
abbrev cX7_init : ByteArray := prog_9_method_1_code
def yX7_init : MethodName := ⟨RX7, "<init>", "()V"⟩
abbrev cX7_isNothing : ByteArray := prog_9_method_2_code
def yX7_isNothing : MethodName := ⟨RX7, "isNothing", "()Z"⟩
abbrev cX7_renew : ByteArray := prog_9_method_3_code
def yX7_renew : MethodName := ⟨RX7, "renew", "(II)V"⟩
abbrev cX7_faultAt : ByteArray := prog_9_method_4_code
def yX7_faultAt : MethodName := ⟨RX7, "faultAt", "(II)I"⟩
abbrev cX7_put : ByteArray := prog_9_method_5_code
def yX7_put : MethodName := ⟨RX7, "put", "(II)V"⟩
def RX8 : String := "RainOrgan$Tape"
def TX8 : u_T := fun k => match k with
  | 0 => ("RainOrgan$Tape", "bytes", "[B", true)
  | _ => ("RainOrgan$Tape", "length", "I", false)
def tyX8 : Nat → FieldType := fun k => match k with
  | 0 => .array .byte
  | _ => .int
abbrev wsX80 : List Cond := u_ws RX8 TX8 2
theorem nmX8 : ∀ a, a < 2 → ∀ b, b < 2 → a ≠ b → (TX8 a).2.1 ≠ (TX8 b).2.1 := by decide +kernel
theorem tyX8_ok : ∀ k, k < 2 → parseFieldDescriptor (TX8 k).2.2.1 = some (tyX8 k) := by decide +kernel
abbrev cX8_init : ByteArray := prog_10_method_1_code
def yX8_init : MethodName := ⟨RX8, "<init>", "()V"⟩
def RX9 : String := "RainOrgan"
def TX9 : u_T := fun k => match k with
  | 0 => ("RainOrgan", "reader", "LRainOrgan$Reader;", true)
  | 1 => ("RainOrgan", "tape", "LRainOrgan$Tape;", true)
  | 2 => ("RainOrgan", "plan", "LRainOrgan$Plan;", false)
  | 3 => ("RainOrgan", "setup", "LRainOrgan$Setup;", false)
  | 4 => ("RainOrgan", "hand", "LRainOrgan$Flow;", true)
  | 5 => ("RainOrgan", "concert", "LRainOrgan$Concert;", true)
  | 6 => ("RainOrgan", "choice", "LRainOrgan$Choice;", true)
  | 7 => ("RainOrgan", "images", "[LRainOrgan$Image;", true)
  | 8 => ("RainOrgan", "sheets", "[LRainOrgan$Sheet;", true)
  | 9 => ("RainOrgan", "textFault", "I", false)
  | _ => ("RainOrgan", "sheetFault", "I", false)
def tyX9 : Nat → FieldType := fun k => match k with
  | 0 => .object "RainOrgan$Reader"
  | 1 => .object "RainOrgan$Tape"
  | 2 => .object "RainOrgan$Plan"
  | 3 => .object "RainOrgan$Setup"
  | 4 => .object "RainOrgan$Flow"
  | 5 => .object "RainOrgan$Concert"
  | 6 => .object "RainOrgan$Choice"
  | 7 => .array (.object "RainOrgan$Image")
  | 8 => .array (.object "RainOrgan$Sheet")
  | 9 => .int
  | _ => .int
abbrev wsX90 : List Cond := u_ws RX9 TX9 11
theorem nmX9 : ∀ a, a < 11 → ∀ b, b < 11 → a ≠ b → (TX9 a).2.1 ≠ (TX9 b).2.1 := by decide +kernel
theorem tyX9_ok : ∀ k, k < 11 → parseFieldDescriptor (TX9 k).2.2.1 = some (tyX9 k) := by decide +kernel
abbrev cX9_init : ByteArray := prog_1_method_1_code
def yX9_init : MethodName := ⟨RX9, "<init>", "()V"⟩
abbrev cX9_feed : ByteArray := prog_1_method_2_code
def yX9_feed : MethodName := ⟨RX9, "feed", "(J)I"⟩
abbrev cX9_end : ByteArray := prog_1_method_3_code
def yX9_end : MethodName := ⟨RX9, "end", "(I)I"⟩
abbrev cX9_organ : ByteArray := prog_1_method_4_code
def yX9_organ : MethodName := ⟨RX9, "organ", "()I"⟩
abbrev cX9_takeWhatWasRead : ByteArray := prog_1_method_5_code
def yX9_takeWhatWasRead : MethodName := ⟨RX9, "takeWhatWasRead", "()V"⟩
abbrev cX9_fault : ByteArray := prog_1_method_6_code
def yX9_fault : MethodName := ⟨RX9, "fault", "()I"⟩
abbrev cX9_rule : ByteArray := prog_1_method_7_code
def yX9_rule : MethodName := ⟨RX9, "rule", "(I)I"⟩
abbrev cX9_gutter : ByteArray := prog_1_method_8_code
def yX9_gutter : MethodName := ⟨RX9, "gutter", "(II)I"⟩
abbrev cX9_spout : ByteArray := prog_1_method_9_code
def yX9_spout : MethodName := ⟨RX9, "spout", "(II)I"⟩
abbrev cX9_peg : ByteArray := prog_1_method_10_code
def yX9_peg : MethodName := ⟨RX9, "peg", "(II)I"⟩
abbrev cX9_block : ByteArray := prog_1_method_11_code
def yX9_block : MethodName := ⟨RX9, "block", "(IZ)I"⟩
abbrev cX9_cup : ByteArray := prog_1_method_12_code
def yX9_cup : MethodName := ⟨RX9, "cup", "(II)I"⟩
abbrev cX9_settings : ByteArray := prog_1_method_13_code
def yX9_settings : MethodName := ⟨RX9, "settings", "(I)I"⟩
abbrev cX9_rain : ByteArray := prog_1_method_14_code
def yX9_rain : MethodName := ⟨RX9, "rain", "(I)I"⟩
abbrev cX9_dry : ByteArray := prog_1_method_15_code
def yX9_dry : MethodName := ⟨RX9, "dry", "()I"⟩
abbrev cX9_water : ByteArray := prog_1_method_16_code
def yX9_water : MethodName := ⟨RX9, "water", "(I)I"⟩
abbrev cX9_loud : ByteArray := prog_1_method_17_code
def yX9_loud : MethodName := ⟨RX9, "loud", "(I)I"⟩
abbrev cX9_shower : ByteArray := prog_1_method_18_code
def yX9_shower : MethodName := ⟨RX9, "shower", "(II)I"⟩
abbrev cX9_plays : ByteArray := prog_1_method_19_code
def yX9_plays : MethodName := ⟨RX9, "plays", "(II)I"⟩
abbrev cX9_falls : ByteArray := prog_1_method_20_code
def yX9_falls : MethodName := ⟨RX9, "falls", "(II)I"⟩
abbrev cX9_tune : ByteArray := prog_1_method_21_code
def yX9_tune : MethodName := ⟨RX9, "tune", "(I)I"⟩
abbrev cX9_tells : ByteArray := prog_1_method_22_code
def yX9_tells : MethodName := ⟨RX9, "tells", "(II)I"⟩
abbrev cX9_far : ByteArray := prog_1_method_23_code
def yX9_far : MethodName := ⟨RX9, "far", "(I)I"⟩
abbrev cX9_best : ByteArray := prog_1_method_24_code
def yX9_best : MethodName := ⟨RX9, "best", "(II)I"⟩
abbrev cX9_fewest : ByteArray := prog_1_method_25_code
def yX9_fewest : MethodName := ⟨RX9, "fewest", "(II)I"⟩
abbrev cX9_all : ByteArray := prog_1_method_26_code
def yX9_all : MethodName := ⟨RX9, "all", "(I)I"⟩
abbrev cX9_quiet : ByteArray := prog_1_method_27_code
def yX9_quiet : MethodName := ⟨RX9, "quiet", "(II)I"⟩
abbrev cX9_woken : ByteArray := prog_1_method_28_code
def yX9_woken : MethodName := ⟨RX9, "woken", "(I)I"⟩
abbrev cX9_heard : ByteArray := prog_1_method_29_code
def yX9_heard : MethodName := ⟨RX9, "heard", "(I)I"⟩
abbrev cX9_blocked : ByteArray := prog_1_method_30_code
def yX9_blocked : MethodName := ⟨RX9, "blocked", "(I)I"⟩
abbrev cX9_frozen : ByteArray := prog_1_method_31_code
def yX9_frozen : MethodName := ⟨RX9, "frozen", "(I)I"⟩
abbrev cX9_lasts : ByteArray := prog_1_method_32_code
def yX9_lasts : MethodName := ⟨RX9, "lasts", "(II)I"⟩
abbrev cX9_draws : ByteArray := prog_1_method_33_code
def yX9_draws : MethodName := ⟨RX9, "draws", "(IIII)I"⟩
abbrev cX9_keep : ByteArray := prog_1_method_34_code
def yX9_keep : MethodName := ⟨RX9, "keep", "(I)I"⟩
abbrev cX9_back : ByteArray := prog_1_method_35_code
def yX9_back : MethodName := ⟨RX9, "back", "(I)I"⟩
abbrev cX9_sheet : ByteArray := prog_1_method_36_code
def yX9_sheet : MethodName := ⟨RX9, "sheet", "(III)I"⟩
abbrev cX9_lay : ByteArray := prog_1_method_37_code
def yX9_lay : MethodName := ⟨RX9, "lay", "(III)I"⟩
abbrev cX9_read : ByteArray := prog_1_method_38_code
def yX9_read : MethodName := ⟨RX9, "read", "(IIII)I"⟩
abbrev cX9_torn : ByteArray := prog_1_method_39_code
def yX9_torn : MethodName := ⟨RX9, "torn", "()I"⟩
abbrev cX9_count : ByteArray := prog_1_method_40_code
def yX9_count : MethodName := ⟨RX9, "count", "(I)I"⟩
abbrev cX9_isGutter : ByteArray := prog_1_method_41_code
def yX9_isGutter : MethodName := ⟨RX9, "isGutter", "(I)Z"⟩
abbrev cX9_isSpout : ByteArray := prog_1_method_42_code
def yX9_isSpout : MethodName := ⟨RX9, "isSpout", "(I)Z"⟩
abbrev cX9_isShower : ByteArray := prog_1_method_43_code
def yX9_isShower : MethodName := ⟨RX9, "isShower", "(I)Z"⟩
abbrev cX9_isImage : ByteArray := prog_1_method_44_code
def yX9_isImage : MethodName := ⟨RX9, "isImage", "(I)Z"⟩
abbrev cX9_isSheet : ByteArray := prog_1_method_45_code
def yX9_isSheet : MethodName := ⟨RX9, "isSheet", "(I)Z"⟩
abbrev cX9_isLane : ByteArray := prog_1_method_46_code
def yX9_isLane : MethodName := ⟨RX9, "isLane", "(I)Z"⟩
abbrev cX9_isRain : ByteArray := prog_1_method_47_code
def yX9_isRain : MethodName := ⟨RX9, "isRain", "(I)Z"⟩
abbrev cX9_hasSize : ByteArray := prog_1_method_48_code
def yX9_hasSize : MethodName := ⟨RX9, "hasSize", "(I)Z"⟩
abbrev cX9_sum : ByteArray := prog_1_method_49_code
def yX9_sum : MethodName := ⟨RX9, "sum", "([I)I"⟩
abbrev cX9_allSpouts : ByteArray := prog_1_method_50_code
def yX9_allSpouts : MethodName := ⟨RX9, "allSpouts", "()I"⟩
abbrev cX9_keptImages : ByteArray := prog_1_method_51_code
def yX9_keptImages : MethodName := ⟨RX9, "keptImages", "()I"⟩
abbrev cX9_manySettings : ByteArray := prog_1_method_52_code
def yX9_manySettings : MethodName := ⟨RX9, "manySettings", "()I"⟩
abbrev cX9_distance : ByteArray := prog_1_method_53_code
def yX9_distance : MethodName := ⟨RX9, "distance", "(I)I"⟩
abbrev cX9_chooseForShower : ByteArray := prog_1_method_54_code
def yX9_chooseForShower : MethodName := ⟨RX9, "chooseForShower", "(IZ)V"⟩
abbrev cX9_chooseForAllShowers : ByteArray := prog_1_method_55_code
def yX9_chooseForAllShowers : MethodName := ⟨RX9, "chooseForAllShowers", "()V"⟩
abbrev cX9_soundsAsTheTune : ByteArray := prog_1_method_56_code
def yX9_soundsAsTheTune : MethodName := ⟨RX9, "soundsAsTheTune", "(I)Z"⟩
def RX10 : String := "RainOrganModel"
def TX10 : u_T := fun k => match k with
  | 0 => ("RainOrganModel", "state", "[I", true)
  | 1 => ("RainOrganModel", "roofMany", "I", false)
  | 2 => ("RainOrganModel", "gutterMany", "I", false)
  | 3 => ("RainOrganModel", "spoutMany", "I", false)
  | 4 => ("RainOrganModel", "showerMany", "I", false)
  | 5 => ("RainOrganModel", "sleeperMany", "I", false)
  | 6 => ("RainOrganModel", "wear", "I", false)
  | 7 => ("RainOrganModel", "roofs", "[I", true)
  | 8 => ("RainOrganModel", "ways", "[I", true)
  | 9 => ("RainOrganModel", "tones", "[I", true)
  | 10 => ("RainOrganModel", "sleepers", "[I", true)
  | 11 => ("RainOrganModel", "readPage", "[I", true)
  | 12 => ("RainOrganModel", "readRoofs", "[I", true)
  | 13 => ("RainOrganModel", "readWays", "[I", true)
  | 14 => ("RainOrganModel", "readTones", "[I", true)
  | 15 => ("RainOrganModel", "readSleepers", "[I", true)
  | 16 => ("RainOrganModel", "readMany", "[I", true)
  | 17 => ("RainOrganModel", "readWear", "I", false)
  | 18 => ("RainOrganModel", "highGutter", "I", false)
  | 19 => ("RainOrganModel", "highSpout", "I", false)
  | 20 => ("RainOrganModel", "toldOnes", "I", false)
  | 21 => ("RainOrganModel", "tape", "[I", true)
  | 22 => ("RainOrganModel", "taped", "I", false)
  | 23 => ("RainOrganModel", "fault", "I", false)
  | 24 => ("RainOrganModel", "broken", "I", false)
  | 25 => ("RainOrganModel", "brokenAt", "I", false)
  | 26 => ("RainOrganModel", "spot", "I", false)
  | 27 => ("RainOrganModel", "here", "I", false)
  | 28 => ("RainOrganModel", "token", "I", false)
  | 29 => ("RainOrganModel", "value", "I", false)
  | 30 => ("RainOrganModel", "cuts", "[I", true)
  | 31 => ("RainOrganModel", "letters", "[I", true)
  | 32 => ("RainOrganModel", "come", "[I", true)
  | 33 => ("RainOrganModel", "fall", "[I", true)
  | 34 => ("RainOrganModel", "dropped", "I", false)
  | 35 => ("RainOrganModel", "played", "[I", true)
  | 36 => ("RainOrganModel", "loudAt", "[I", true)
  | 37 => ("RainOrganModel", "everLoud", "I", false)
  | 38 => ("RainOrganModel", "bestSet", "I", false)
  | 39 => ("RainOrganModel", "bestFar", "I", false)
  | 40 => ("RainOrganModel", "bestMany", "I", false)
  | 41 => ("RainOrganModel", "isKept", "[Z", true)
  | 42 => ("RainOrganModel", "lanes", "[I", true)
  | 43 => ("RainOrganModel", "lengths", "[I", true)
  | 44 => ("RainOrganModel", "cells", "[I", true)
  | _ => ("RainOrganModel", "torn", "I", false)
def tyX10 : Nat → FieldType := fun k => match k with
  | 0 => .array .int
  | 1 => .int
  | 2 => .int
  | 3 => .int
  | 4 => .int
  | 5 => .int
  | 6 => .int
  | 7 => .array .int
  | 8 => .array .int
  | 9 => .array .int
  | 10 => .array .int
  | 11 => .array .int
  | 12 => .array .int
  | 13 => .array .int
  | 14 => .array .int
  | 15 => .array .int
  | 16 => .array .int
  | 17 => .int
  | 18 => .int
  | 19 => .int
  | 20 => .int
  | 21 => .array .int
  | 22 => .int
  | 23 => .int
  | 24 => .int
  | 25 => .int
  | 26 => .int
  | 27 => .int
  | 28 => .int
  | 29 => .int
  | 30 => .array .int
  | 31 => .array .int
  | 32 => .array .int
  | 33 => .array .int
  | 34 => .int
  | 35 => .array .int
  | 36 => .array .int
  | 37 => .int
  | 38 => .int
  | 39 => .int
  | 40 => .int
  | 41 => .array .boolean
  | 42 => .array .int
  | 43 => .array .int
  | 44 => .array .int
  | _ => .int
abbrev wsX100 : List Cond := u_ws RX10 TX10 46
theorem nmX10 : ∀ a, a < 46 → ∀ b, b < 46 → a ≠ b → (TX10 a).2.1 ≠ (TX10 b).2.1 := by decide +kernel
theorem tyX10_ok : ∀ k, k < 46 → parseFieldDescriptor (TX10 k).2.2.1 = some (tyX10 k) := by decide +kernel
abbrev cX10_init : ByteArray := prog_12_method_1_code
def yX10_init : MethodName := ⟨RX10, "<init>", "()V"⟩
abbrev cX10_in : ByteArray := prog_12_method_3_code
def yX10_in : MethodName := ⟨RX10, "in", "(JJJ)Z"⟩
abbrev cX10_feed : ByteArray := prog_12_method_4_code
def yX10_feed : MethodName := ⟨RX10, "feed", "(J)I"⟩
abbrev cX10_end : ByteArray := prog_12_method_5_code
def yX10_end : MethodName := ⟨RX10, "end", "(I)I"⟩
abbrev cX10_byteAt : ByteArray := prog_12_method_6_code
def yX10_byteAt : MethodName := ⟨RX10, "byteAt", "(I)I"⟩
abbrev cX10_fails : ByteArray := prog_12_method_7_code
def yX10_fails : MethodName := ⟨RX10, "fails", "(I)V"⟩
abbrev cX10_nameHere : ByteArray := prog_12_method_8_code
def yX10_nameHere : MethodName := ⟨RX10, "nameHere", "()I"⟩
abbrev cX10_step : ByteArray := prog_12_method_9_code
def yX10_step : MethodName := ⟨RX10, "step", "()V"⟩
abbrev cX10_looks : ByteArray := prog_12_method_10_code
def yX10_looks : MethodName := ⟨RX10, "looks", "(II)V"⟩
abbrev cX10_number : ByteArray := prog_12_method_11_code
def yX10_number : MethodName := ⟨RX10, "number", "(II)I"⟩
abbrev cX10_readWay : ByteArray := prog_12_method_12_code
def yX10_readWay : MethodName := ⟨RX10, "readWay", "(I)I"⟩
abbrev cX10_readCup : ByteArray := prog_12_method_13_code
def yX10_readCup : MethodName := ⟨RX10, "readCup", "(I)V"⟩
abbrev cX10_readSeconds : ByteArray := prog_12_method_14_code
def yX10_readSeconds : MethodName := ⟨RX10, "readSeconds", "(II)V"⟩
abbrev cX10_readThing : ByteArray := prog_12_method_15_code
def yX10_readThing : MethodName := ⟨RX10, "readThing", "(I)V"⟩
abbrev cX10_readLine : ByteArray := prog_12_method_16_code
def yX10_readLine : MethodName := ⟨RX10, "readLine", "()V"⟩
abbrev cX10_takes : ByteArray := prog_12_method_17_code
def yX10_takes : MethodName := ⟨RX10, "takes", "()V"⟩
abbrev cX10_organ : ByteArray := prog_12_method_18_code
def yX10_organ : MethodName := ⟨RX10, "organ", "()I"⟩
abbrev cX10_fault : ByteArray := prog_12_method_19_code
def yX10_fault : MethodName := ⟨RX10, "fault", "()I"⟩
abbrev cX10_rule : ByteArray := prog_12_method_20_code
def yX10_rule : MethodName := ⟨RX10, "rule", "(I)I"⟩
abbrev cX10_isGutter : ByteArray := prog_12_method_21_code
def yX10_isGutter : MethodName := ⟨RX10, "isGutter", "(I)Z"⟩
abbrev cX10_isSpout : ByteArray := prog_12_method_22_code
def yX10_isSpout : MethodName := ⟨RX10, "isSpout", "(I)Z"⟩
abbrev cX10_isShower : ByteArray := prog_12_method_23_code
def yX10_isShower : MethodName := ⟨RX10, "isShower", "(I)Z"⟩
abbrev cX10_gutter : ByteArray := prog_12_method_24_code
def yX10_gutter : MethodName := ⟨RX10, "gutter", "(II)I"⟩
abbrev cX10_spout : ByteArray := prog_12_method_25_code
def yX10_spout : MethodName := ⟨RX10, "spout", "(II)I"⟩
abbrev cX10_peg : ByteArray := prog_12_method_26_code
def yX10_peg : MethodName := ⟨RX10, "peg", "(II)I"⟩
abbrev cX10_block : ByteArray := prog_12_method_27_code
def yX10_block : MethodName := ⟨RX10, "block", "(IZ)I"⟩
abbrev cX10_cup : ByteArray := prog_12_method_28_code
def yX10_cup : MethodName := ⟨RX10, "cup", "(II)I"⟩
abbrev cX10_settingMany : ByteArray := prog_12_method_29_code
def yX10_settingMany : MethodName := ⟨RX10, "settingMany", "()I"⟩
abbrev cX10_settingsNow : ByteArray := prog_12_method_30_code
def yX10_settingsNow : MethodName := ⟨RX10, "settingsNow", "()I"⟩
abbrev cX10_sets : ByteArray := prog_12_method_31_code
def yX10_sets : MethodName := ⟨RX10, "sets", "(I)V"⟩
abbrev cX10_settings : ByteArray := prog_12_method_32_code
def yX10_settings : MethodName := ⟨RX10, "settings", "(I)I"⟩
abbrev cX10_leads : ByteArray := prog_12_method_33_code
def yX10_leads : MethodName := ⟨RX10, "leads", "(III)V"⟩
abbrev cX10_gutters : ByteArray := prog_12_method_34_code
def yX10_gutters : MethodName := ⟨RX10, "gutters", "(II)V"⟩
abbrev cX10_sounds : ByteArray := prog_12_method_35_code
def yX10_sounds : MethodName := ⟨RX10, "sounds", "(III)I"⟩
abbrev cX10_second : ByteArray := prog_12_method_36_code
def yX10_second : MethodName := ⟨RX10, "second", "(II)I"⟩
abbrev cX10_dries : ByteArray := prog_12_method_37_code
def yX10_dries : MethodName := ⟨RX10, "dries", "(I)V"⟩
abbrev cX10_sumOf : ByteArray := prog_12_method_38_code
def yX10_sumOf : MethodName := ⟨RX10, "sumOf", "(II)I"⟩
abbrev cX10_rain : ByteArray := prog_12_method_39_code
def yX10_rain : MethodName := ⟨RX10, "rain", "(I)I"⟩
abbrev cX10_dry : ByteArray := prog_12_method_40_code
def yX10_dry : MethodName := ⟨RX10, "dry", "()I"⟩
abbrev cX10_water : ByteArray := prog_12_method_41_code
def yX10_water : MethodName := ⟨RX10, "water", "(I)I"⟩
abbrev cX10_loud : ByteArray := prog_12_method_42_code
def yX10_loud : MethodName := ⟨RX10, "loud", "(I)I"⟩
abbrev cX10_lengthOf : ByteArray := prog_12_method_43_code
def yX10_lengthOf : MethodName := ⟨RX10, "lengthOf", "(I)I"⟩
abbrev cX10_showers : ByteArray := prog_12_method_44_code
def yX10_showers : MethodName := ⟨RX10, "showers", "(I)V"⟩
abbrev cX10_plays2 : ByteArray := prog_12_method_45_code
def yX10_plays2 : MethodName := ⟨RX10, "plays2", "(I)V"⟩
abbrev cX10_shower : ByteArray := prog_12_method_46_code
def yX10_shower : MethodName := ⟨RX10, "shower", "(II)I"⟩
abbrev cX10_plays : ByteArray := prog_12_method_47_code
def yX10_plays : MethodName := ⟨RX10, "plays", "(II)I"⟩
abbrev cX10_falls : ByteArray := prog_12_method_48_code
def yX10_falls : MethodName := ⟨RX10, "falls", "(II)I"⟩
abbrev cX10_tune : ByteArray := prog_12_method_49_code
def yX10_tune : MethodName := ⟨RX10, "tune", "(I)I"⟩
abbrev cX10_tells : ByteArray := prog_12_method_50_code
def yX10_tells : MethodName := ⟨RX10, "tells", "(II)I"⟩
abbrev cX10_bitsOf : ByteArray := prog_12_method_51_code
def yX10_bitsOf : MethodName := ⟨RX10, "bitsOf", "(I)I"⟩
abbrev cX10_farOf : ByteArray := prog_12_method_52_code
def yX10_farOf : MethodName := ⟨RX10, "farOf", "(I)I"⟩
abbrev cX10_far : ByteArray := prog_12_method_53_code
def yX10_far : MethodName := ⟨RX10, "far", "(I)I"⟩
abbrev cX10_layBest : ByteArray := prog_12_method_54_code
def yX10_layBest : MethodName := ⟨RX10, "layBest", "(I)V"⟩
abbrev cX10_best : ByteArray := prog_12_method_55_code
def yX10_best : MethodName := ⟨RX10, "best", "(II)I"⟩
abbrev cX10_unlikePegs : ByteArray := prog_12_method_56_code
def yX10_unlikePegs : MethodName := ⟨RX10, "unlikePegs", "(II)I"⟩
abbrev cX10_fewest : ByteArray := prog_12_method_57_code
def yX10_fewest : MethodName := ⟨RX10, "fewest", "(II)I"⟩
abbrev cX10_all : ByteArray := prog_12_method_58_code
def yX10_all : MethodName := ⟨RX10, "all", "(I)I"⟩
abbrev cX10_wakes : ByteArray := prog_12_method_59_code
def yX10_wakes : MethodName := ⟨RX10, "wakes", "(I)I"⟩
abbrev cX10_quiet : ByteArray := prog_12_method_60_code
def yX10_quiet : MethodName := ⟨RX10, "quiet", "(II)I"⟩
abbrev cX10_woken : ByteArray := prog_12_method_61_code
def yX10_woken : MethodName := ⟨RX10, "woken", "(I)I"⟩
abbrev cX10_heard : ByteArray := prog_12_method_62_code
def yX10_heard : MethodName := ⟨RX10, "heard", "(I)I"⟩
abbrev cX10_blocked : ByteArray := prog_12_method_63_code
def yX10_blocked : MethodName := ⟨RX10, "blocked", "(I)I"⟩
abbrev cX10_frozen : ByteArray := prog_12_method_64_code
def yX10_frozen : MethodName := ⟨RX10, "frozen", "(I)I"⟩
abbrev cX10_lasts : ByteArray := prog_12_method_65_code
def yX10_lasts : MethodName := ⟨RX10, "lasts", "(II)I"⟩
abbrev cX10_draws : ByteArray := prog_12_method_66_code
def yX10_draws : MethodName := ⟨RX10, "draws", "(IIII)I"⟩
abbrev cX10_copies : ByteArray := prog_12_method_67_code
def yX10_copies : MethodName := ⟨RX10, "copies", "(II)V"⟩
abbrev cX10_keep : ByteArray := prog_12_method_68_code
def yX10_keep : MethodName := ⟨RX10, "keep", "(I)I"⟩
abbrev cX10_back : ByteArray := prog_12_method_69_code
def yX10_back : MethodName := ⟨RX10, "back", "(I)I"⟩
abbrev cX10_sheet : ByteArray := prog_12_method_70_code
def yX10_sheet : MethodName := ⟨RX10, "sheet", "(III)I"⟩
abbrev cX10_lay : ByteArray := prog_12_method_71_code
def yX10_lay : MethodName := ⟨RX10, "lay", "(III)I"⟩
abbrev cX10_read : ByteArray := prog_12_method_72_code
def yX10_read : MethodName := ⟨RX10, "read", "(IIII)I"⟩
abbrev cX10_torn : ByteArray := prog_12_method_73_code
def yX10_torn : MethodName := ⟨RX10, "torn", "()I"⟩
abbrev cX10_count : ByteArray := prog_12_method_74_code
def yX10_count : MethodName := ⟨RX10, "count", "(I)I"⟩
def RJx145de : String := "java/io/Serializable"
def TJx145de : u_T := fun k => match k with
  | _ => ("", "", "", false)
def tyJx145de : Nat → FieldType := fun k => match k with
  | _ => .int
abbrev wsJx145de0 : List Cond := u_ws RJx145de TJx145de 0
theorem nmJx145de : ∀ a, a < 0 → ∀ b, b < 0 → a ≠ b → (TJx145de a).2.1 ≠ (TJx145de b).2.1 := by decide +kernel
theorem tyJx145de_ok : ∀ k, k < 0 → parseFieldDescriptor (TJx145de k).2.2.1 = some (tyJx145de k) := by decide +kernel
def RJx9f9b0 : String := "java/lang/CharSequence"
def TJx9f9b0 : u_T := fun k => match k with
  | _ => ("", "", "", false)
def tyJx9f9b0 : Nat → FieldType := fun k => match k with
  | _ => .int
abbrev wsJx9f9b00 : List Cond := u_ws RJx9f9b0 TJx9f9b0 0
theorem nmJx9f9b0 : ∀ a, a < 0 → ∀ b, b < 0 → a ≠ b → (TJx9f9b0 a).2.1 ≠ (TJx9f9b0 b).2.1 := by decide +kernel
theorem tyJx9f9b0_ok : ∀ k, k < 0 → parseFieldDescriptor (TJx9f9b0 k).2.2.1 = some (tyJx9f9b0 k) := by decide +kernel
def RJxb160c : String := "java/lang/Comparable"
def TJxb160c : u_T := fun k => match k with
  | _ => ("", "", "", false)
def tyJxb160c : Nat → FieldType := fun k => match k with
  | _ => .int
abbrev wsJxb160c0 : List Cond := u_ws RJxb160c TJxb160c 0
theorem nmJxb160c : ∀ a, a < 0 → ∀ b, b < 0 → a ≠ b → (TJxb160c a).2.1 ≠ (TJxb160c b).2.1 := by decide +kernel
theorem tyJxb160c_ok : ∀ k, k < 0 → parseFieldDescriptor (TJxb160c k).2.2.1 = some (tyJxb160c k) := by decide +kernel
def RJ6 : String := "java/lang/Integer"
def TJ6 : u_T := fun k => match k with
  | _ => ("", "", "", false)
def tyJ6 : Nat → FieldType := fun k => match k with
  | _ => .int
abbrev wsJ60 : List Cond := u_ws RJ6 TJ6 0
theorem nmJ6 : ∀ a, a < 0 → ∀ b, b < 0 → a ≠ b → (TJ6 a).2.1 ≠ (TJ6 b).2.1 := by decide +kernel
theorem tyJ6_ok : ∀ k, k < 0 → parseFieldDescriptor (TJ6 k).2.2.1 = some (tyJ6 k) := by decide +kernel
abbrev cJ6_bitCount_0f7a4 : ByteArray := prog_13_method_49_code
def yJ6_bitCount_0f7a4 : MethodName := ⟨RJ6, "bitCount", "(I)I"⟩
def RJ0 : String := "java/lang/String"
def TJ0 : u_T := fun k => match k with
  | _ => ("", "", "", false)
def tyJ0 : Nat → FieldType := fun k => match k with
  | _ => .int
abbrev wsJ00 : List Cond := u_ws RJ0 TJ0 0
theorem nmJ0 : ∀ a, a < 0 → ∀ b, b < 0 → a ≠ b → (TJ0 a).2.1 ≠ (TJ0 b).2.1 := by decide +kernel
theorem tyJ0_ok : ∀ k, k < 0 → parseFieldDescriptor (TJ0 k).2.2.1 = some (tyJ0 k) := by decide +kernel
abbrev cJ0_length_8abf5 : ByteArray := prog_14_method_54_code
def yJ0_length_8abf5 : MethodName := ⟨RJ0, "length", "()I"⟩
abbrev cJ0_charAt_5068e : ByteArray := prog_14_method_56_code
def yJ0_charAt_5068e : MethodName := ⟨RJ0, "charAt", "(I)C"⟩
abbrev cJ0_coder_7d493 : ByteArray := prog_14_method_152_code
def yJ0_coder_7d493 : MethodName := ⟨RJ0, "coder", "()B"⟩
abbrev cJ0_isLatin1_aae02 : ByteArray := prog_14_method_154_code
def yJ0_isLatin1_aae02 : MethodName := ⟨RJ0, "isLatin1", "()Z"⟩
abbrev cJ0_checkIndex_df160 : ByteArray := prog_14_method_155_code
def yJ0_checkIndex_df160 : MethodName := ⟨RJ0, "checkIndex", "(II)V"⟩
def RJ1 : String := "java/lang/StringLatin1"
def TJ1 : u_T := fun k => match k with
  | _ => ("", "", "", false)
def tyJ1 : Nat → FieldType := fun k => match k with
  | _ => .int
abbrev wsJ10 : List Cond := u_ws RJ1 TJ1 0
theorem nmJ1 : ∀ a, a < 0 → ∀ b, b < 0 → a ≠ b → (TJ1 a).2.1 ≠ (TJ1 b).2.1 := by decide +kernel
theorem tyJ1_ok : ∀ k, k < 0 → parseFieldDescriptor (TJ1 k).2.2.1 = some (tyJ1 k) := by decide +kernel
abbrev cJ1_charAt_3b067 : ByteArray := prog_15_method_2_code
def yJ1_charAt_3b067 : MethodName := ⟨RJ1, "charAt", "([BI)C"⟩
def RJ2 : String := "java/lang/StringUTF16"
def TJ2 : u_T := fun k => match k with
  | _ => ("", "", "", false)
def tyJ2 : Nat → FieldType := fun k => match k with
  | _ => .int
abbrev wsJ20 : List Cond := u_ws RJ2 TJ2 0
theorem nmJ2 : ∀ a, a < 0 → ∀ b, b < 0 → a ≠ b → (TJ2 a).2.1 ≠ (TJ2 b).2.1 := by decide +kernel
theorem tyJ2_ok : ∀ k, k < 0 → parseFieldDescriptor (TJ2 k).2.2.1 = some (tyJ2 k) := by decide +kernel
abbrev cJ2_getChar_3b067 : ByteArray := prog_16_method_5_code
def yJ2_getChar_3b067 : MethodName := ⟨RJ2, "getChar", "([BI)C"⟩
abbrev cJ2_length_9d52b : ByteArray := prog_16_method_6_code
def yJ2_length_9d52b : MethodName := ⟨RJ2, "length", "([B)I"⟩
abbrev cJ2_charAt_3b067 : ByteArray := prog_16_method_83_code
def yJ2_charAt_3b067 : MethodName := ⟨RJ2, "charAt", "([BI)C"⟩
abbrev cJ2_checkIndex_2214a : ByteArray := prog_16_method_91_code
def yJ2_checkIndex_2214a : MethodName := ⟨RJ2, "checkIndex", "(I[B)V"⟩
def RJ10 : String := "java/lang/System"
def TJ10 : u_T := fun k => match k with
  | _ => ("", "", "", false)
def tyJ10 : Nat → FieldType := fun k => match k with
  | _ => .int
abbrev wsJ100 : List Cond := u_ws RJ10 TJ10 0
theorem nmJ10 : ∀ a, a < 0 → ∀ b, b < 0 → a ≠ b → (TJ10 a).2.1 ≠ (TJ10 b).2.1 := by decide +kernel
theorem tyJ10_ok : ∀ k, k < 0 → parseFieldDescriptor (TJ10 k).2.2.1 = some (tyJ10 k) := by decide +kernel
def RJxfd54e : String := "java/lang/constant/Constable"
def TJxfd54e : u_T := fun k => match k with
  | _ => ("", "", "", false)
def tyJxfd54e : Nat → FieldType := fun k => match k with
  | _ => .int
abbrev wsJxfd54e0 : List Cond := u_ws RJxfd54e TJxfd54e 0
theorem nmJxfd54e : ∀ a, a < 0 → ∀ b, b < 0 → a ≠ b → (TJxfd54e a).2.1 ≠ (TJxfd54e b).2.1 := by decide +kernel
theorem tyJxfd54e_ok : ∀ k, k < 0 → parseFieldDescriptor (TJxfd54e k).2.2.1 = some (tyJxfd54e k) := by decide +kernel
def RJx3cf43 : String := "java/lang/constant/ConstantDesc"
def TJx3cf43 : u_T := fun k => match k with
  | _ => ("", "", "", false)
def tyJx3cf43 : Nat → FieldType := fun k => match k with
  | _ => .int
abbrev wsJx3cf430 : List Cond := u_ws RJx3cf43 TJx3cf43 0
theorem nmJx3cf43 : ∀ a, a < 0 → ∀ b, b < 0 → a ≠ b → (TJx3cf43 a).2.1 ≠ (TJx3cf43 b).2.1 := by decide +kernel
theorem tyJx3cf43_ok : ∀ k, k < 0 → parseFieldDescriptor (TJx3cf43 k).2.2.1 = some (tyJx3cf43 k) := by decide +kernel
def RJ7 : String := "java/util/Arrays"
def TJ7 : u_T := fun k => match k with
  | _ => ("", "", "", false)
def tyJ7 : Nat → FieldType := fun k => match k with
  | _ => .int
abbrev wsJ70 : List Cond := u_ws RJ7 TJ7 0
theorem nmJ7 : ∀ a, a < 0 → ∀ b, b < 0 → a ≠ b → (TJ7 a).2.1 ≠ (TJ7 b).2.1 := by decide +kernel
theorem tyJ7_ok : ∀ k, k < 0 → parseFieldDescriptor (TJ7 k).2.2.1 = some (tyJ7 k) := by decide +kernel
abbrev cJ7_fill_d0a16 : ByteArray := prog_18_method_101_code
def yJ7_fill_d0a16 : MethodName := ⟨RJ7, "fill", "([JJ)V"⟩
abbrev cJ7_fill_53178 : ByteArray := prog_18_method_103_code
def yJ7_fill_53178 : MethodName := ⟨RJ7, "fill", "([II)V"⟩
def RJ3 : String := "jdk/internal/util/Preconditions"
def TJ3 : u_T := fun k => match k with
  | _ => ("", "", "", false)
def tyJ3 : Nat → FieldType := fun k => match k with
  | _ => .int
abbrev wsJ30 : List Cond := u_ws RJ3 TJ3 0
theorem nmJ3 : ∀ a, a < 0 → ∀ b, b < 0 → a ≠ b → (TJ3 a).2.1 ≠ (TJ3 b).2.1 := by decide +kernel
theorem tyJ3_ok : ∀ k, k < 0 → parseFieldDescriptor (TJ3 k).2.2.1 = some (tyJ3 k) := by decide +kernel
abbrev cJ3_checkIndex_8e157 : ByteArray := prog_19_method_11_code
def yJ3_checkIndex_8e157 : MethodName := ⟨RJ3, "checkIndex", "(IILjava/util/function/BiFunction;)I"⟩
def RL : String := "RainOrganLaw"
abbrev cL_law : ByteArray := code
def yL_law : MethodName := ⟨RL, "law", "([I)Z"⟩
abbrev vwCl : List vw_C := [(RX0, TX0, 8), (RX1, TX1, 4), (RX2, TX2, 12), (RX3, TX3, 3), (RX4, TX4, 16), (RX5, TX5, 10), (RX6, TX6, 7), (RX7, TX7, 3), (RX8, TX8, 2), (RX9, TX9, 11), (RX10, TX10, 46)]
end
section
def mm_tb (k j : Nat) : Option Cond := match k with
  | 0 => (lw_privs[j]?).map (fun q => Cond.selects q.1.cls q.1 q.1)
  | 1 => tables_1_1[j]?
  | 2 => tables_1_2[j]?
  | 3 => tables_1_3[j]?
  | 4 => tables_1_4[j]?
  | 5 => tables_1_5[j]?
  | 6 => tables_1_6[j]?
  | _ => none
theorem mm_tb_in {k j : Nat} {w : Cond} (h : mm_tb k j = some w) : w ∈ lw_tbl := by
  unfold mm_tb at h
  unfold lw_tbl
  split at h
  · obtain ⟨q, h1, h2⟩ : ∃ q, lw_privs[j]? = some q ∧ Cond.selects q.1.cls q.1 q.1 = w := by
      cases hq : lw_privs[j]? with
      | none => rw [hq] at h; cases h
      | some q => rw [hq] at h; exact ⟨q, rfl, Option.some.inj h⟩
    exact List.mem_append_left _ (List.mem_map.mpr ⟨q, List.mem_of_getElem? h1, h2⟩)
  · exact List.mem_append_right _ (by unfold tables_1; simp only [List.mem_append]; have := List.mem_of_getElem? h; exact Or.inl this)
  · exact List.mem_append_right _ (by unfold tables_1; simp only [List.mem_append]; have := List.mem_of_getElem? h; exact Or.inr (Or.inl this))
  · exact List.mem_append_right _ (by unfold tables_1; simp only [List.mem_append]; have := List.mem_of_getElem? h; exact Or.inr (Or.inr (Or.inl this)))
  · exact List.mem_append_right _ (by unfold tables_1; simp only [List.mem_append]; have := List.mem_of_getElem? h; exact Or.inr (Or.inr (Or.inr (Or.inl this))))
  · exact List.mem_append_right _ (by unfold tables_1; simp only [List.mem_append]; have := List.mem_of_getElem? h; exact Or.inr (Or.inr (Or.inr (Or.inr (Or.inl this)))))
  · exact List.mem_append_right _ (by unfold tables_1; simp only [List.mem_append]; have := List.mem_of_getElem? h; exact Or.inr (Or.inr (Or.inr (Or.inr (Or.inr (this))))))
  · cases h
-- the methods: name, code, locals, answer, number of its arguments (the receiver aside), static?
abbrev mm_Y : Type := MethodName × ByteArray × Nat × Option FieldType × Nat × Bool × List (Nat × Nat) × (Nat × Nat)
def mm_has (ps : List (Nat × Nat)) (ws : List Cond) : Bool := decide (ps.map (fun p => mm_tb p.1 p.2) = ws.map some)
theorem mm_has_in {ps : List (Nat × Nat)} {ws : List Cond} (h : mm_has ps ws = true) : ∀ w ∈ ws, w ∈ lw_tbl := by
  intro w hw
  have h1 := of_decide_eq_true h
  have h2 : some w ∈ ws.map some := List.mem_map.mpr ⟨w, hw, rfl⟩
  rw [← h1] at h2
  obtain ⟨p, -, hp⟩ := List.mem_map.mp h2
  exact mm_tb_in hp
theorem inX0 : ∀ w ∈ wsX00, w ∈ lw_tbl := mm_has_in (ps := [(2, 94), (2, 96), (2, 98), (2, 100), (2, 102), (2, 104), (2, 106), (2, 108)]) (by decide +kernel)
theorem inX1 : ∀ w ∈ wsX10, w ∈ lw_tbl := mm_has_in (ps := [(2, 65), (2, 67), (2, 69), (2, 71)]) (by decide +kernel)
theorem inX2 : ∀ w ∈ wsX20, w ∈ lw_tbl := mm_has_in (ps := [(2, 25), (2, 27), (2, 29), (2, 31), (2, 33), (2, 35), (2, 37), (2, 39), (2, 41), (2, 43), (2, 45), (2, 47)]) (by decide +kernel)
theorem inX3 : ∀ w ∈ wsX30, w ∈ lw_tbl := mm_has_in (ps := [(2, 129), (2, 131), (2, 133)]) (by decide +kernel)
theorem inX4 : ∀ w ∈ wsX40, w ∈ lw_tbl := mm_has_in (ps := [(1, 114), (1, 116), (1, 118), (1, 120), (1, 122), (1, 124), (1, 126), (1, 128), (1, 130), (1, 132), (1, 134), (1, 136), (1, 138), (1, 140), (1, 142), (1, 144)]) (by decide +kernel)
theorem inX5 : ∀ w ∈ wsX50, w ∈ lw_tbl := mm_has_in (ps := [(1, 212), (1, 214), (1, 216), (1, 218), (1, 220), (1, 222), (1, 224), (1, 226), (1, 228), (1, 230)]) (by decide +kernel)
theorem inX6 : ∀ w ∈ wsX60, w ∈ lw_tbl := mm_has_in (ps := [(1, 182), (1, 184), (1, 186), (1, 188), (1, 190), (1, 192), (1, 194)]) (by decide +kernel)
theorem inX7 : ∀ w ∈ wsX70, w ∈ lw_tbl := mm_has_in (ps := [(2, 147), (2, 149), (2, 151)]) (by decide +kernel)
theorem inX8 : ∀ w ∈ wsX80, w ∈ lw_tbl := mm_has_in (ps := [(1, 44), (1, 46)]) (by decide +kernel)
theorem inX9 : ∀ w ∈ wsX90, w ∈ lw_tbl := mm_has_in (ps := [(2, 165), (2, 167), (2, 169), (2, 171), (2, 173), (2, 175), (2, 177), (2, 179), (2, 181), (2, 183), (2, 185)]) (by decide +kernel)
theorem inX10 : ∀ w ∈ wsX100, w ∈ lw_tbl := mm_has_in (ps := [(5, 38), (5, 40), (5, 42), (5, 44), (5, 46), (5, 48), (5, 50), (5, 52), (5, 54), (5, 56), (5, 58), (5, 60), (5, 62), (5, 64), (5, 66), (5, 68), (5, 70), (5, 72), (5, 74), (5, 76), (5, 78), (5, 80), (5, 82), (5, 84), (5, 86), (5, 88), (5, 90), (5, 92), (5, 94), (5, 96), (5, 98), (5, 100), (5, 102), (5, 104), (5, 106), (5, 108), (5, 110), (5, 112), (5, 114), (5, 116), (5, 118), (5, 120), (5, 122), (5, 124), (5, 126), (5, 128)]) (by decide +kernel)
theorem mm_ac0 : mm_has [(1, 147)] [.arrayClass .int] = true := by decide +kernel
theorem mm_ac1 : mm_has [(2, 50)] [.arrayClass .long] = true := by decide +kernel
theorem mm_ac2 : mm_has [(1, 49)] [.arrayClass .byte] = true := by decide +kernel
theorem mm_ac3 : mm_has [(5, 131)] [.arrayClass .boolean] = true := by decide +kernel
def mm_nest : List Cond := [.methodLinkNest "RainOrgan" 9 ⟨"RainOrgan$Reader", "<init>", "()V"⟩ "RainOrgan",
  .methodLinkNest "RainOrgan$Reader" 11 ⟨"RainOrgan$Tape", "<init>", "()V"⟩ "RainOrgan",
  .methodLinkNest "RainOrgan$Reader" 20 ⟨"RainOrgan$Plan", "<init>", "()V"⟩ "RainOrgan",
  .methodLinkNest "RainOrgan$Reader" 27 ⟨"RainOrgan$Setup", "<init>", "()V"⟩ "RainOrgan",
  .methodLinkNest "RainOrgan" 23 ⟨"RainOrgan$Plan", "<init>", "()V"⟩ "RainOrgan",
  .methodLinkNest "RainOrgan" 30 ⟨"RainOrgan$Setup", "<init>", "()V"⟩ "RainOrgan",
  .methodLinkNest "RainOrgan" 37 ⟨"RainOrgan$Flow", "<init>", "()V"⟩ "RainOrgan",
  .methodLinkNest "RainOrgan" 44 ⟨"RainOrgan$Concert", "<init>", "()V"⟩ "RainOrgan",
  .methodLinkNest "RainOrgan$Concert" 11 ⟨"RainOrgan$Flow", "<init>", "()V"⟩ "RainOrgan",
  .methodLinkNest "RainOrgan" 51 ⟨"RainOrgan$Choice", "<init>", "()V"⟩ "RainOrgan",
  .methodLinkNest "RainOrgan" 68 ⟨"RainOrgan$Image", "<init>", "()V"⟩ "RainOrgan",
  .methodLinkNest "RainOrgan$Image" 9 ⟨"RainOrgan$Setup", "<init>", "()V"⟩ "RainOrgan",
  .methodLinkNest "RainOrgan$Image" 18 ⟨"RainOrgan$Flow", "<init>", "()V"⟩ "RainOrgan",
  .methodLinkNest "RainOrgan" 69 ⟨"RainOrgan$Sheet", "<init>", "()V"⟩ "RainOrgan",
  .methodLinkNest "RainOrgan$Reader" 180 ⟨"RainOrgan", "hasSize", "(I)Z"⟩ "RainOrgan"]
theorem mm_nest_in : ∀ w ∈ mm_nest, w ∈ lw_tbl := mm_has_in (ps := [(1, 29), (1, 35), (1, 52), (1, 150), (1, 234), (1, 236), (1, 239), (2, 53), (2, 58), (2, 76), (2, 116), (2, 121), (2, 123), (2, 137), (3, 98)]) (by decide +kernel)
theorem mm_ao0 : mm_has [(2, 112)] [.arrayOver (.object "RainOrgan$Image")] = true := by decide +kernel
theorem mm_ao1 : mm_has [(2, 114)] [.arrayOver (.object "RainOrgan$Sheet")] = true := by decide +kernel
theorem mm_ao2 : mm_has [(1, 155)] [.arrayOver (.array .int)] = true := by decide +kernel
theorem mm_in0 : mm_has [(2, 75)] [.instantiable RX0 8] = true := by decide +kernel
theorem mm_in1 : mm_has [(2, 52)] [.instantiable RX1 4] = true := by decide +kernel
theorem mm_in2 : mm_has [(1, 238)] [.instantiable RX2 12] = true := by decide +kernel
theorem mm_in3 : mm_has [(2, 115)] [.instantiable RX3 3] = true := by decide +kernel
theorem mm_in4 : mm_has [(1, 51)] [.instantiable RX4 16] = true := by decide +kernel
theorem mm_in5 : mm_has [(1, 28)] [.instantiable RX5 10] = true := by decide +kernel
theorem mm_in6 : mm_has [(1, 149)] [.instantiable RX6 7] = true := by decide +kernel
theorem mm_in7 : mm_has [(2, 136)] [.instantiable RX7 3] = true := by decide +kernel
theorem mm_in8 : mm_has [(1, 34)] [.instantiable RX8 2] = true := by decide +kernel
theorem mm_in9 : mm_has [(1, 20)] [.instantiable RX9 11] = true := by decide +kernel
theorem mm_in10 : mm_has [(4, 227)] [.instantiable RX10 46] = true := by decide +kernel
abbrev mm_K : Type := Nat × Nat × Nat × Nat × Int × List (Nat × Nat)
def mm_tl : List (Nat × String) := [(93, "roof"), (102, "peg"), (161, "gutter"), (107, "spout"), (163, "ground"), (189, "slate"), (191, "tip"), (193, "leak"), (195, "each"), (197, "join"), (199, "frozen"), (112, "rain"), (117, "tune"), (122, "sleep"), (127, "wear")]
def mm_txt : List (List Int32) := [[114, 111, 111, 102], [112, 101, 103], [103, 117, 116, 116, 101, 114], [115, 112, 111, 117, 116], [103, 114, 111, 117, 110, 100], [115, 108, 97, 116, 101], [116, 105, 112], [108, 101, 97, 107], [101, 97, 99, 104], [106, 111, 105, 110], [102, 114, 111, 122, 101, 110], [114, 97, 105, 110], [116, 117, 110, 101], [115, 108, 101, 101, 112], [119, 101, 97, 114]]
abbrev mm_T : Type := List (List (Nat × Instr × Nat))
abbrev mm_R : Type := mm_Y × String × mm_T × List mm_K
-- 0: "RainOrgan$Choice" "<init>"
def mm_t0 : mm_T := [[(0, .aload_n 0, 1), (1, .invokespecial 3, 3), (4, .return_, 1)]]
def mm_r0 : mm_R := ((yX0_init, cX0_init, 1, none, 0, false, [(2, 77), (1, 8)], (2, 78)),
   RX0, mm_t0, [(3, 6, 0, 0, 0, [(2, 79), (1, 25), (1, 26)])])
-- 1: "RainOrgan$Choice" "begin"
def mm_t1 : mm_T := [[(0, .aload_n 0, 1), (1, .iload_n 1, 1), (2, .putfield 9, 3), (5, .aload_n 0, 1), (6, .iload_n 2, 1), (7, .putfield 15, 3), (10, .aload_n 0, 1), (11, .iconst 0, 1), (12, .putfield 18, 3), (15, .return_, 1)]]
def mm_r1 : mm_R := ((yX0_begin, cX0_begin, 3, none, 2, false, [(4, 97), (1, 8), (4, 98)], (4, 99)),
   RX0, mm_t1, [(9, 0, 0, 6, 0, [(2, 92)]),
    (15, 0, 0, 7, 0, [(2, 93)]),
    (18, 0, 0, 3, 0, [(2, 86)])])
-- 2: "RainOrgan$Choice" "offer"
def mm_t2 : mm_T := [[(0, .aload_n 0, 1), (1, .iload_n 1, 1), (2, .invokevirtual 21, 3), (5, .istore_n 3, 1), (6, .aload_n 0, 1), (7, .getfield 18, 3), (10, .ifCond .eq 11, 3), (13, .iload_n 2, 1), (14, .aload_n 0, 1), (15, .getfield 25, 3), (18, .if_icmp .ge 7, 3), (21, .iconst 1, 1), (22, .goto 4, 3), (25, .iconst 0, 1), (26, .istore 4, 2), (28, .aload_n 0, 1), (29, .dup, 1), (30, .getfield 18, 3)],
   [(33, .iconst 1, 1), (34, .iadd, 1), (35, .putfield 18, 3), (38, .iload 4, 2), (40, .ifCond .eq 18, 3), (43, .aload_n 0, 1), (44, .iload_n 1, 1), (45, .putfield 28, 3), (48, .aload_n 0, 1), (49, .iload_n 2, 1), (50, .putfield 25, 3), (53, .aload_n 0, 1), (54, .iconst 0, 1), (55, .putfield 31, 3), (58, .iload_n 2, 1), (59, .aload_n 0, 1), (60, .getfield 25, 3), (63, .if_icmp .ne 36, 3)],
   [(66, .aload_n 0, 1), (67, .dup, 1), (68, .getfield 31, 3), (71, .iconst 1, 1), (72, .iadd, 1), (73, .putfield 31, 3), (76, .iload 4, 2), (78, .ifCond .ne 11, 3), (81, .iload_n 3, 1), (82, .aload_n 0, 1), (83, .getfield 34, 3), (86, .if_icmp .ge 13, 3), (89, .aload_n 0, 1), (90, .iload_n 1, 1), (91, .putfield 37, 3), (94, .aload_n 0, 1), (95, .iload_n 3, 1)],
   [(96, .putfield 34, 3), (99, .return_, 1)]]
def mm_r2 : mm_R := ((yX0_offer, cX0_offer, 5, none, 2, false, [(4, 105), (1, 8), (4, 106)], (4, 107)),
   RX0, mm_t2, [(18, 0, 0, 3, 0, [(2, 86)]),
    (21, 1, 3, 0, 0, [(4, 108)]),
    (25, 0, 0, 1, 0, [(2, 82)]),
    (28, 0, 0, 0, 0, [(2, 80)]),
    (31, 0, 0, 2, 0, [(2, 84)]),
    (34, 0, 0, 5, 0, [(2, 90)]),
    (37, 0, 0, 4, 0, [(2, 88)])])
-- 3: "RainOrgan$Choice" "changedPegs"
def mm_t3 : mm_T := [[(0, .aload_n 0, 1), (1, .getfield 9, 3), (4, .istore_n 2, 1), (5, .iload_n 1, 1), (6, .istore_n 3, 1), (7, .iconst 0, 1), (8, .istore 4, 2), (10, .iconst 0, 1), (11, .istore 5, 2), (13, .iload 5, 2), (15, .aload_n 0, 1), (16, .getfield 15, 3), (19, .if_icmp .ge 36, 3), (22, .iload 4, 2), (24, .iload_n 2, 1), (25, .iconst 3, 1), (26, .irem, 1), (27, .iload_n 3, 1), (28, .iconst 3, 1), (29, .irem, 1), (30, .if_icmp .eq 7, 3)],
   [(33, .iconst 1, 1), (34, .goto 4, 3), (37, .iconst 0, 1), (38, .iadd, 1), (39, .istore 4, 2), (41, .iload_n 2, 1), (42, .iconst 3, 1), (43, .idiv, 1), (44, .istore_n 2, 1), (45, .iload_n 3, 1), (46, .iconst 3, 1), (47, .idiv, 1), (48, .istore_n 3, 1), (49, .iinc 5 1, 3), (52, .goto (-39), 3), (55, .iload 4, 2), (57, .ireturn, 1)]]
def mm_r3 : mm_R := ((yX0_changedPegs, cX0_changedPegs, 6, (some .int), 1, false, [(4, 110), (1, 8), (0, 38)], (4, 111)),
   RX0, mm_t3, [(9, 0, 0, 6, 0, [(2, 92)]),
    (15, 0, 0, 7, 0, [(2, 93)])])
-- 4: "RainOrgan$Concert" "<init>"
def mm_t4 : mm_T := [[(0, .aload_n 0, 1), (1, .invokespecial 3, 3), (4, .aload_n 0, 1), (5, .new 9, 3), (8, .dup, 1), (9, .invokespecial 11, 3), (12, .putfield 12, 3), (15, .aload_n 0, 1), (16, .bipush 12, 2), (18, .newarray .int, 2), (20, .putfield 18, 3), (23, .aload_n 0, 1), (24, .bipush 12, 2), (26, .newarray .int, 2), (28, .putfield 22, 3), (31, .return_, 1)]]
def mm_r4 : mm_R := ((yX1_init, cX1_init, 1, none, 0, false, [(2, 54), (1, 7)], (2, 55)),
   RX1, mm_t4, [(3, 6, 0, 0, 0, [(2, 56), (1, 25), (1, 26)]),
    (9, 7, 2, 0, 0, [(2, 57), (1, 238), (1, 6)]),
    (11, 4, 9, 0, 8, []),
    (12, 0, 1, 0, 1, [(2, 59)]),
    (18, 0, 1, 1, 1, [(2, 61)]),
    (22, 0, 1, 2, 1, [(2, 63)])])
-- 5: "RainOrgan$Concert" "perform"
def mm_t5 : mm_T := [[(0, .aload_n 0, 1), (1, .getfield 12, 3), (4, .invokevirtual 25, 3), (7, .aload_n 0, 1), (8, .aload_n 2, 1), (9, .getfield 28, 3), (12, .iload_n 3, 1), (13, .iaload, 1), (14, .putfield 33, 3), (17, .iconst 0, 1), (18, .istore 4, 2), (20, .iload 4, 2), (22, .aload_n 0, 1), (23, .getfield 33, 3), (26, .if_icmp .ge 60, 3), (29, .aload_n 0, 1), (30, .getfield 12, 3)],
   [(33, .getfield 37, 3), (36, .istore 5, 2), (38, .aload_n 0, 1), (39, .getfield 18, 3), (42, .iload 4, 2), (44, .aload_n 0, 1), (45, .getfield 12, 3), (48, .aload_n 1, 1), (49, .aload_n 2, 1), (50, .aload_n 2, 1), (51, .getfield 40, 3), (54, .iload_n 3, 1), (55, .aaload, 1), (56, .iload 4, 2), (58, .iaload, 1), (59, .invokevirtual 44, 3), (62, .iastore, 1), (63, .aload_n 0, 1)],
   [(64, .getfield 22, 3), (67, .iload 4, 2), (69, .aload_n 0, 1), (70, .getfield 12, 3), (73, .getfield 37, 3), (76, .iload 5, 2), (78, .isub, 1), (79, .iastore, 1), (80, .iinc 4 1, 3), (83, .goto (-63), 3), (86, .return_, 1)]]
def mm_r5 : mm_R := ((yX1_perform, cX1_perform, 6, none, 3, false, [(4, 41), (1, 7), (4, 42)], (4, 43)),
   RX1, mm_t5, [(12, 0, 1, 0, 2, [(2, 59)]),
    (18, 0, 1, 1, 2, [(2, 61)]),
    (22, 0, 1, 2, 2, [(2, 63)]),
    (25, 1, 10, 2, 0, [(4, 44)]),
    (28, 0, 6, 3, 2, [(1, 167)]),
    (33, 0, 1, 3, 0, [(2, 64)]),
    (37, 0, 2, 8, 0, [(2, 18)]),
    (40, 0, 6, 4, 2, [(1, 171)]),
    (44, 1, 12, 2, 0, [(4, 45)])])
-- 6: "RainOrgan$Concert" "farFromTune"
def mm_t6 : mm_T := [[(0, .iconst 0, 1), (1, .istore_n 2, 1), (2, .iconst 0, 1), (3, .istore_n 3, 1), (4, .iload_n 3, 1), (5, .bipush 12, 2), (7, .if_icmp .ge 60, 3), (10, .iload_n 3, 1), (11, .aload_n 0, 1), (12, .getfield 33, 3), (15, .if_icmp .ge 12, 3), (18, .aload_n 0, 1), (19, .getfield 18, 3), (22, .iload_n 3, 1), (23, .iaload, 1), (24, .goto 4, 3), (27, .iconst 0, 1), (28, .istore 4, 2), (30, .iload_n 3, 1), (31, .aload_n 1, 1)],
   [(32, .getfield 48, 3), (35, .if_icmp .ge 12, 3), (38, .aload_n 1, 1), (39, .getfield 51, 3), (42, .iload_n 3, 1), (43, .iaload, 1), (44, .goto 4, 3), (47, .iconst 0, 1), (48, .istore 5, 2), (50, .iload_n 2, 1), (51, .iload 4, 2), (53, .iload 5, 2), (55, .ixor, 1), (56, .invokestatic 54, 3), (59, .iadd, 1), (60, .istore_n 2, 1), (61, .iinc 3 1, 3)],
   [(64, .goto (-60), 3), (67, .iload_n 2, 1), (68, .ireturn, 1)]]
def mm_r6 : mm_R := ((yX1_farFromTune, cX1_farFromTune, 6, (some .int), 1, false, [(4, 79), (1, 7), (4, 80)], (4, 81)),
   RX1, mm_t6, [(18, 0, 1, 1, 2, [(2, 61)]),
    (33, 0, 1, 3, 0, [(2, 64)]),
    (48, 0, 6, 6, 0, [(1, 179)]),
    (51, 0, 6, 5, 2, [(1, 175)]),
    (54, 2, 192, 0, 0, [(4, 82)])])
-- 7: "RainOrgan$Concert" "loudestSecond"
def mm_t7 : mm_T := [[(0, .iconst 0, 1), (1, .istore_n 1, 1), (2, .bipush (-4), 2), (4, .istore_n 2, 1), (5, .iconst 0, 1), (6, .istore_n 3, 1), (7, .iload_n 3, 1), (8, .aload_n 0, 1), (9, .getfield 33, 3), (12, .if_icmp .ge 28, 3), (15, .aload_n 0, 1), (16, .getfield 22, 3), (19, .iload_n 3, 1), (20, .iaload, 1), (21, .iload_n 1, 1), (22, .if_icmp .le 12, 3), (25, .aload_n 0, 1), (26, .getfield 22, 3), (29, .iload_n 3, 1), (30, .iaload, 1), (31, .istore_n 1, 1)],
   [(32, .iload_n 3, 1), (33, .istore_n 2, 1), (34, .iinc 3 1, 3), (37, .goto (-30), 3), (40, .iload_n 2, 1), (41, .ireturn, 1)]]
def mm_r7 : mm_R := ((yX1_loudestSecond, cX1_loudestSecond, 4, (some .int), 0, false, [(4, 51), (1, 7), (4, 52)], (4, 53)),
   RX1, mm_t7, [(22, 0, 1, 2, 2, [(2, 63)]),
    (33, 0, 1, 3, 0, [(2, 64)])])
-- 8: "RainOrgan$Concert" "wokenSleepers"
def mm_t8 : mm_T := [[(0, .iconst 0, 1), (1, .istore_n 2, 1), (2, .iconst 0, 1), (3, .istore_n 3, 1), (4, .iload_n 3, 1), (5, .aload_n 1, 1), (6, .getfield 60, 3), (9, .if_icmp .ge 69, 3), (12, .aload_n 1, 1), (13, .getfield 65, 3), (16, .iload_n 3, 1), (17, .iaload, 1), (18, .istore 4, 2), (20, .iload 4, 2), (22, .aload_n 1, 1), (23, .getfield 68, 3), (26, .iload_n 3, 1), (27, .iaload, 1), (28, .if_icmp .gt 44, 3), (31, .iload 4, 2)],
   [(33, .aload_n 0, 1), (34, .getfield 33, 3), (37, .if_icmp .ge 35, 3), (40, .iload_n 2, 1), (41, .aload_n 0, 1), (42, .getfield 22, 3), (45, .iload 4, 2), (47, .iaload, 1), (48, .aload_n 1, 1), (49, .getfield 71, 3), (52, .iload_n 3, 1), (53, .iaload, 1), (54, .if_icmp .lt 9, 3), (57, .iconst 1, 1), (58, .iload_n 3, 1), (59, .ishl, 1), (60, .goto 4, 3), (63, .iconst 0, 1)],
   [(64, .ior, 1), (65, .istore_n 2, 1), (66, .iinc 4 1, 3), (69, .goto (-49), 3), (72, .iinc 3 1, 3), (75, .goto (-71), 3), (78, .iload_n 2, 1), (79, .ireturn, 1)]]
def mm_r8 : mm_R := ((yX1_wokenSleepers, cX1_wokenSleepers, 5, (some .int), 1, false, [(4, 101), (1, 7), (4, 102)], (4, 103)),
   RX1, mm_t8, [(22, 0, 1, 2, 2, [(2, 63)]),
    (33, 0, 1, 3, 0, [(2, 64)]),
    (60, 0, 4, 11, 0, [(1, 98)]),
    (65, 0, 4, 12, 2, [(1, 102)]),
    (68, 0, 4, 13, 2, [(1, 105)]),
    (71, 0, 4, 14, 2, [(1, 108)])])
-- 9: "RainOrgan$Flow" "<init>"
def mm_t9 : mm_T := [[(0, .aload_n 0, 1), (1, .invokespecial 3, 3), (4, .aload_n 0, 1), (5, .bipush 8, 2), (7, .newarray .int, 2), (9, .putfield 9, 3), (12, .aload_n 0, 1), (13, .bipush 8, 2), (15, .newarray .int, 2), (17, .putfield 15, 3), (20, .aload_n 0, 1), (21, .bipush 8, 2), (23, .newarray .long, 2), (25, .putfield 18, 3), (28, .aload_n 0, 1), (29, .bipush 8, 2), (31, .newarray .int, 2)],
   [(33, .putfield 22, 3), (36, .aload_n 0, 1), (37, .bipush 8, 2), (39, .newarray .int, 2), (41, .putfield 25, 3), (44, .aload_n 0, 1), (45, .iconst 5, 1), (46, .newarray .int, 2), (48, .putfield 28, 3), (51, .aload_n 0, 1), (52, .bipush 8, 2), (54, .newarray .int, 2), (56, .putfield 31, 3), (59, .return_, 1)]]
def mm_r9 : mm_R := ((yX2_init, cX2_init, 1, none, 0, false, [(2, 0), (1, 6)], (2, 1)),
   RX2, mm_t9, [(3, 6, 0, 0, 0, [(2, 2), (1, 25), (1, 26)]),
    (9, 0, 2, 0, 1, [(2, 3)]),
    (15, 0, 2, 1, 1, [(2, 5)]),
    (18, 0, 2, 2, 1, [(2, 6)]),
    (22, 0, 2, 3, 1, [(2, 8)]),
    (25, 0, 2, 4, 1, [(2, 10)]),
    (28, 0, 2, 10, 1, [(2, 23)]),
    (31, 0, 2, 11, 1, [(2, 24)])])
-- 10: "RainOrgan$Flow" "dryUp"
def mm_t10 : mm_T := [[(0, .aload_n 0, 1), (1, .getfield 9, 3), (4, .iconst 0, 1), (5, .invokestatic 34, 3), (8, .aload_n 0, 1), (9, .getfield 15, 3), (12, .iconst 0, 1), (13, .invokestatic 34, 3), (16, .aload_n 0, 1), (17, .getfield 18, 3), (20, .lconst 0, 1), (21, .invokestatic 40, 3), (24, .aload_n 0, 1), (25, .getfield 22, 3), (28, .iconst 0, 1), (29, .invokestatic 34, 3)],
   [(32, .aload_n 0, 1), (33, .getfield 25, 3), (36, .iconst 0, 1), (37, .invokestatic 34, 3), (40, .aload_n 0, 1), (41, .iconst 0, 1), (42, .putfield 43, 3), (45, .aload_n 0, 1), (46, .iconst 0, 1), (47, .putfield 47, 3), (50, .aload_n 0, 1), (51, .iconst 0, 1), (52, .putfield 50, 3), (55, .aload_n 0, 1), (56, .iconst 0, 1), (57, .putfield 53, 3), (60, .aload_n 0, 1), (61, .iconst 0, 1), (62, .putfield 56, 3)],
   [(65, .return_, 1)]]
def mm_r10 : mm_R := ((yX2_dryUp, cX2_dryUp, 1, none, 0, false, [(3, 134), (1, 6), (3, 135)], (3, 136)),
   RX2, mm_t10, [(9, 0, 2, 0, 2, [(2, 3)]),
    (15, 0, 2, 1, 2, [(2, 5)]),
    (18, 0, 2, 2, 2, [(2, 6)]),
    (22, 0, 2, 3, 2, [(2, 8)]),
    (25, 0, 2, 4, 2, [(2, 10)]),
    (34, 2, 200, 0, 0, [(3, 137)]),
    (40, 2, 199, 0, 0, [(3, 138)]),
    (43, 0, 2, 5, 0, [(2, 12)]),
    (47, 0, 2, 6, 0, [(2, 14)]),
    (50, 0, 2, 7, 0, [(2, 16)]),
    (53, 0, 2, 8, 0, [(2, 19)]),
    (56, 0, 2, 9, 0, [(2, 21)])])
-- 11: "RainOrgan$Flow" "copyFrom"
def mm_t11 : mm_T := [[(0, .aload_n 1, 1), (1, .getfield 9, 3), (4, .iconst 0, 1), (5, .aload_n 0, 1), (6, .getfield 9, 3), (9, .iconst 0, 1), (10, .bipush 8, 2), (12, .invokestatic 59, 3), (15, .aload_n 1, 1), (16, .getfield 15, 3), (19, .iconst 0, 1), (20, .aload_n 0, 1), (21, .getfield 15, 3), (24, .iconst 0, 1), (25, .bipush 8, 2), (27, .invokestatic 59, 3), (30, .aload_n 1, 1), (31, .getfield 18, 3)],
   [(34, .iconst 0, 1), (35, .aload_n 0, 1), (36, .getfield 18, 3), (39, .iconst 0, 1), (40, .bipush 8, 2), (42, .invokestatic 59, 3), (45, .aload_n 1, 1), (46, .getfield 22, 3), (49, .iconst 0, 1), (50, .aload_n 0, 1), (51, .getfield 22, 3), (54, .iconst 0, 1), (55, .bipush 8, 2), (57, .invokestatic 59, 3), (60, .aload_n 1, 1), (61, .getfield 25, 3)],
   [(64, .iconst 0, 1), (65, .aload_n 0, 1), (66, .getfield 25, 3), (69, .iconst 0, 1), (70, .bipush 8, 2), (72, .invokestatic 59, 3), (75, .aload_n 0, 1), (76, .aload_n 1, 1), (77, .getfield 43, 3), (80, .putfield 43, 3), (83, .aload_n 0, 1), (84, .aload_n 1, 1), (85, .getfield 47, 3), (88, .putfield 47, 3), (91, .aload_n 0, 1), (92, .aload_n 1, 1), (93, .getfield 50, 3)],
   [(96, .putfield 50, 3), (99, .aload_n 0, 1), (100, .aload_n 1, 1), (101, .getfield 53, 3), (104, .putfield 53, 3), (107, .aload_n 0, 1), (108, .aload_n 1, 1), (109, .getfield 56, 3), (112, .putfield 56, 3), (115, .return_, 1)]]
def mm_r11 : mm_R := ((yX2_copyFrom, cX2_copyFrom, 2, none, 1, false, [(4, 170), (1, 6), (4, 171)], (4, 172)),
   RX2, mm_t11, [(9, 0, 2, 0, 2, [(2, 3)]),
    (15, 0, 2, 1, 2, [(2, 5)]),
    (18, 0, 2, 2, 2, [(2, 6)]),
    (22, 0, 2, 3, 2, [(2, 8)]),
    (25, 0, 2, 4, 2, [(2, 10)]),
    (43, 0, 2, 5, 0, [(2, 12)]),
    (47, 0, 2, 6, 0, [(2, 14)]),
    (50, 0, 2, 7, 0, [(2, 16)]),
    (53, 0, 2, 8, 0, [(2, 19)]),
    (56, 0, 2, 9, 0, [(2, 21)]),
    (59, 12, 0, 0, 0, [(3, 213), (3, 215), (3, 214), (1, 17)])])
-- 12: "RainOrgan$Flow" "passSecond"
def mm_t12 : mm_T := [[(0, .aload_n 0, 1), (1, .getfield 22, 3), (4, .iconst 0, 1), (5, .aload_n 0, 1), (6, .getfield 31, 3), (9, .iconst 0, 1), (10, .bipush 8, 2), (12, .invokestatic 59, 3), (15, .aload_n 0, 1), (16, .getfield 22, 3), (19, .iconst 0, 1), (20, .invokestatic 34, 3), (23, .aload_n 0, 1), (24, .getfield 28, 3), (27, .iconst 0, 1), (28, .invokestatic 34, 3), (31, .aload_n 0, 1)],
   [(32, .aload_n 1, 1), (33, .iload_n 3, 1), (34, .invokevirtual 65, 3), (37, .aload_n 0, 1), (38, .aload_n 1, 1), (39, .aload_n 2, 1), (40, .invokevirtual 69, 3), (43, .aload_n 0, 1), (44, .aload_n 1, 1), (45, .aload_n 2, 1), (46, .invokevirtual 73, 3), (49, .istore 4, 2), (51, .aload_n 0, 1), (52, .dup, 1), (53, .getfield 43, 3), (56, .iconst 1, 1), (57, .iadd, 1), (58, .putfield 43, 3), (61, .iload 4, 2), (63, .ireturn, 1)]]
def mm_r12 : mm_R := ((yX2_passSecond, cX2_passSecond, 5, (some .int), 3, false, [(3, 210), (1, 6), (3, 211)], (3, 212)),
   RX2, mm_t12, [(22, 0, 2, 3, 2, [(2, 8)]),
    (28, 0, 2, 10, 2, [(2, 23)]),
    (31, 0, 2, 11, 2, [(2, 24)]),
    (34, 2, 200, 0, 0, [(3, 137)]),
    (43, 0, 2, 5, 0, [(2, 12)]),
    (59, 12, 0, 0, 0, [(3, 213), (3, 215), (3, 214), (1, 17)]),
    (65, 1, 13, 2, 0, [(3, 216)]),
    (69, 1, 14, 2, 0, [(3, 224)]),
    (73, 1, 17, 2, 0, [(3, 232)])])
-- 13: "RainOrgan$Flow" "fallOnRoofs"
def mm_t13 : mm_T := [[(0, .iconst 0, 1), (1, .istore_n 3, 1), (2, .iload_n 3, 1), (3, .aload_n 1, 1), (4, .getfield 77, 3), (7, .if_icmp .ge 42, 3), (10, .aload_n 1, 1), (11, .getfield 82, 3), (14, .iload_n 3, 1), (15, .iaload, 1), (16, .iload_n 2, 1), (17, .imul, 1), (18, .istore 4, 2), (20, .aload_n 0, 1), (21, .dup, 1), (22, .getfield 47, 3), (25, .iload 4, 2), (27, .iadd, 1), (28, .putfield 47, 3), (31, .aload_n 0, 1)],
   [(32, .aload_n 1, 1), (33, .getfield 85, 3), (36, .iload_n 3, 1), (37, .iaload, 1), (38, .iload 4, 2), (40, .invokevirtual 88, 3), (43, .iinc 3 1, 3), (46, .goto (-44), 3), (49, .return_, 1)]]
def mm_r13 : mm_R := ((yX2_fallOnRoofs, cX2_fallOnRoofs, 5, none, 2, false, [(3, 218), (1, 6), (0, 25)], (3, 219)),
   RX2, mm_t13, [(47, 0, 2, 6, 0, [(2, 14)]),
    (77, 0, 4, 0, 0, [(1, 57)]),
    (82, 0, 4, 1, 2, [(1, 61)]),
    (85, 0, 4, 2, 2, [(1, 64)]),
    (88, 1, 16, 2, 0, [(3, 220)])])
-- 14: "RainOrgan$Flow" "runThroughGutters"
def mm_t14 : mm_T := [[(0, .iconst 0, 1), (1, .istore_n 3, 1), (2, .iload_n 3, 1), (3, .aload_n 1, 1), (4, .getfield 92, 3), (7, .if_icmp .ge 81, 3), (10, .aload_n 0, 1), (11, .getfield 28, 3), (14, .iload_n 3, 1), (15, .iaload, 1), (16, .istore 4, 2), (18, .aload_n 2, 1), (19, .getfield 95, 3), (22, .iload_n 3, 1), (23, .iaload, 1), (24, .ifCond .eq 17, 3), (27, .aload_n 0, 1), (28, .dup, 1), (29, .getfield 50, 3)],
   [(32, .iload 4, 2), (34, .iadd, 1), (35, .putfield 50, 3), (38, .goto 44, 3), (41, .aload_n 0, 1), (42, .aload_n 2, 1), (43, .getfield 100, 3), (46, .iload_n 3, 1), (47, .iaload, 1), (48, .iload 4, 2), (50, .invokevirtual 103, 3), (53, .istore 5, 2), (55, .aload_n 0, 1), (56, .aload_n 1, 1), (57, .getfield 107, 3), (60, .iload_n 3, 1), (61, .iaload, 1), (62, .iload 5, 2)],
   [(64, .invokevirtual 88, 3), (67, .aload_n 0, 1), (68, .aload_n 1, 1), (69, .getfield 110, 3), (72, .iload_n 3, 1), (73, .iaload, 1), (74, .iload 4, 2), (76, .iload 5, 2), (78, .isub, 1), (79, .invokevirtual 88, 3), (82, .iinc 3 1, 3), (85, .goto (-83), 3), (88, .return_, 1)]]
def mm_r14 : mm_R := ((yX2_runThroughGutters, cX2_runThroughGutters, 6, none, 2, false, [(3, 226), (1, 6), (0, 27)], (3, 227)),
   RX2, mm_t14, [(28, 0, 2, 10, 2, [(2, 23)]),
    (50, 0, 2, 7, 0, [(2, 16)]),
    (88, 1, 16, 2, 0, [(3, 220)]),
    (92, 0, 4, 3, 0, [(1, 67)]),
    (95, 0, 6, 1, 2, [(1, 160)]),
    (100, 0, 6, 0, 2, [(1, 157)]),
    (103, 1, 15, 2, 0, [(3, 228)]),
    (107, 0, 4, 4, 2, [(1, 71)]),
    (110, 0, 4, 5, 2, [(1, 75)])])
-- 15: "RainOrgan$Flow" "shareOfLeft"
def mm_t15 : mm_T := [[(0, .iload_n 1, 1), (1, .ifCond .ne 5, 3), (4, .iload_n 2, 1), (5, .ireturn, 1), (6, .iload_n 1, 1), (7, .iconst 1, 1), (8, .if_icmp .ne 5, 3), (11, .iconst 0, 1), (12, .ireturn, 1), (13, .aload_n 0, 1), (14, .getfield 43, 3), (17, .iconst 2, 1), (18, .irem, 1), (19, .ifCond .ne 7, 3), (22, .iconst 1, 1), (23, .goto 4, 3), (26, .iconst 0, 1), (27, .istore_n 3, 1), (28, .iload_n 3, 1), (29, .ifCond .eq 11, 3)],
   [(32, .iload_n 2, 1), (33, .iload_n 2, 1), (34, .iconst 2, 1), (35, .idiv, 1), (36, .isub, 1), (37, .goto 6, 3), (40, .iload_n 2, 1), (41, .iconst 2, 1), (42, .idiv, 1), (43, .ireturn, 1)]]
def mm_r15 : mm_R := ((yX2_shareOfLeft, cX2_shareOfLeft, 4, (some .int), 2, false, [(3, 230), (1, 6), (0, 28)], (3, 231)),
   RX2, mm_t15, [(43, 0, 2, 5, 0, [(2, 12)])])
-- 16: "RainOrgan$Flow" "lead"
def mm_t16 : mm_T := [[(0, .iload_n 1, 1), (1, .ifCond .lt 21, 3), (4, .iload_n 1, 1), (5, .iconst 5, 1), (6, .if_icmp .ge 16, 3), (9, .aload_n 0, 1), (10, .getfield 28, 3), (13, .iload_n 1, 1), (14, .dup2, 1), (15, .iaload, 1), (16, .iload_n 2, 1), (17, .iadd, 1), (18, .iastore, 1), (19, .goto 41, 3), (22, .iload_n 1, 1), (23, .bipush 10, 2), (25, .if_icmp .lt 25, 3), (28, .iload_n 1, 1), (29, .bipush 18, 2), (31, .if_icmp .ge 19, 3)],
   [(34, .aload_n 0, 1), (35, .getfield 31, 3), (38, .iload_n 1, 1), (39, .bipush 10, 2), (41, .isub, 1), (42, .dup2, 1), (43, .iaload, 1), (44, .iload_n 2, 1), (45, .iadd, 1), (46, .iastore, 1), (47, .goto 13, 3), (50, .aload_n 0, 1), (51, .dup, 1), (52, .getfield 50, 3), (55, .iload_n 2, 1), (56, .iadd, 1), (57, .putfield 50, 3), (60, .return_, 1)]]
def mm_r16 : mm_R := ((yX2_lead, cX2_lead, 3, none, 2, false, [(3, 222), (1, 6), (0, 26)], (3, 223)),
   RX2, mm_t16, [(28, 0, 2, 10, 2, [(2, 23)]),
    (31, 0, 2, 11, 2, [(2, 24)]),
    (50, 0, 2, 7, 0, [(2, 16)])])
-- 17: "RainOrgan$Flow" "fillCups"
def mm_t17 : mm_T := [[(0, .iconst 0, 1), (1, .istore_n 3, 1), (2, .iconst 0, 1), (3, .istore 4, 2), (5, .iload 4, 2), (7, .aload_n 1, 1), (8, .getfield 113, 3), (11, .if_icmp .ge 127, 3), (14, .aload_n 0, 1), (15, .aload_n 1, 1), (16, .iload 4, 2), (18, .invokevirtual 116, 3), (21, .istore 5, 2), (23, .aload_n 0, 1), (24, .getfield 31, 3), (27, .iload 4, 2), (29, .iaload, 1), (30, .istore 6, 2)],
   [(32, .aload_n 0, 1), (33, .getfield 18, 3), (36, .iload 4, 2), (38, .dup2, 1), (39, .laload, 1), (40, .iload 6, 2), (42, .i2l, 1), (43, .ladd, 1), (44, .lastore, 1), (45, .aload_n 0, 1), (46, .aload_n 1, 1), (47, .aload_n 2, 1), (48, .getfield 120, 3), (51, .iload 4, 2), (53, .iaload, 1), (54, .iload 4, 2), (56, .iload 6, 2), (58, .invokevirtual 123, 3), (61, .istore 7, 2), (63, .aload_n 0, 1)],
   [(64, .getfield 25, 3), (67, .iload 4, 2), (69, .iload 5, 2), (71, .ifCond .eq 7, 3), (74, .iconst 0, 1), (75, .goto 5, 3), (78, .iload 7, 2), (80, .iastore, 1), (81, .aload_n 0, 1), (82, .getfield 25, 3), (85, .iload 4, 2), (87, .iaload, 1), (88, .ifCond .le 44, 3), (91, .aload_n 0, 1), (92, .dup, 1), (93, .getfield 53, 3)],
   [(96, .aload_n 0, 1), (97, .getfield 25, 3), (100, .iload 4, 2), (102, .iaload, 1), (103, .iadd, 1), (104, .putfield 53, 3), (107, .aload_n 0, 1), (108, .dup, 1), (109, .getfield 56, 3), (112, .iconst 1, 1), (113, .iload 4, 2), (115, .ishl, 1), (116, .ior, 1), (117, .putfield 56, 3), (120, .iload_n 3, 1), (121, .iconst 1, 1), (122, .aload_n 1, 1), (123, .getfield 127, 3), (126, .iload 4, 2)],
   [(128, .iaload, 1), (129, .ishl, 1), (130, .ior, 1), (131, .istore_n 3, 1), (132, .iinc 4 1, 3), (135, .goto (-130), 3), (138, .iload_n 3, 1), (139, .ireturn, 1)]]
def mm_r17 : mm_R := ((yX2_fillCups, cX2_fillCups, 8, (some .int), 2, false, [(3, 234), (1, 6), (0, 29)], (3, 235)),
   RX2, mm_t17, [(18, 0, 2, 2, 2, [(2, 6)]),
    (25, 0, 2, 4, 2, [(2, 10)]),
    (31, 0, 2, 11, 2, [(2, 24)]),
    (53, 0, 2, 8, 0, [(2, 19)]),
    (56, 0, 2, 9, 0, [(2, 21)]),
    (113, 0, 4, 6, 0, [(1, 80)]),
    (116, 1, 23, 2, 0, [(3, 236)]),
    (120, 0, 6, 2, 2, [(1, 164)]),
    (123, 1, 18, 2, 0, [(3, 237)]),
    (127, 0, 4, 7, 2, [(1, 84)])])
-- 18: "RainOrgan$Flow" "fillCup"
def mm_t18 : mm_T := [[(0, .iload_n 2, 1), (1, .tableswitch 121 0 4 #[35, 57, 73, 87, 101], 35)],
   [(36, .aload_n 0, 1), (37, .dup, 1), (38, .getfield 50, 3), (41, .iload 4, 2), (43, .iadd, 1), (44, .putfield 50, 3), (47, .iload 4, 2), (49, .ifCond .le 7, 3), (52, .iconst 1, 1), (53, .goto 4, 3), (56, .iconst 0, 1), (57, .ireturn, 1), (58, .aload_n 0, 1), (59, .iload_n 3, 1), (60, .aload_n 1, 1), (61, .getfield 130, 3)],
   [(64, .iload_n 3, 1), (65, .iaload, 1), (66, .iload 4, 2), (68, .bipush 20, 2), (70, .invokevirtual 133, 3), (73, .ireturn, 1), (74, .aload_n 0, 1), (75, .iload_n 3, 1), (76, .aload_n 1, 1), (77, .getfield 130, 3), (80, .iload_n 3, 1), (81, .iaload, 1), (82, .iload 4, 2), (84, .invokevirtual 137, 3), (87, .ireturn, 1), (88, .aload_n 0, 1), (89, .iload_n 3, 1), (90, .aload_n 1, 1), (91, .getfield 130, 3), (94, .iload_n 3, 1), (95, .iaload, 1)],
   [(96, .iload 4, 2), (98, .invokevirtual 141, 3), (101, .ireturn, 1), (102, .aload_n 0, 1), (103, .iload_n 3, 1), (104, .aload_n 1, 1), (105, .getfield 130, 3), (108, .iload_n 3, 1), (109, .iaload, 1), (110, .iload 4, 2), (112, .aload_n 1, 1), (113, .getfield 144, 3), (116, .iload_n 3, 1), (117, .iaload, 1), (118, .invokevirtual 133, 3), (121, .ireturn, 1), (122, .aload_n 0, 1), (123, .dup, 1), (124, .getfield 50, 3), (127, .iload 4, 2)],
   [(129, .iadd, 1), (130, .putfield 50, 3), (133, .iconst 0, 1), (134, .ireturn, 1)]]
def mm_r18 : mm_R := ((yX2_fillCup, cX2_fillCup, 5, (some .int), 4, false, [(3, 239), (1, 6), (0, 30)], (4, 0)),
   RX2, mm_t18, [(50, 0, 2, 7, 0, [(2, 16)]),
    (130, 0, 4, 8, 2, [(1, 88)]),
    (133, 1, 19, 2, 0, [(4, 1)]),
    (137, 1, 20, 2, 0, [(4, 5)]),
    (141, 1, 21, 2, 0, [(4, 9)]),
    (144, 0, 4, 9, 2, [(1, 92)])])
-- 19: "RainOrgan$Flow" "tip"
def mm_t19 : mm_T := [[(0, .aload_n 0, 1), (1, .getfield 9, 3), (4, .iload_n 1, 1), (5, .dup2, 1), (6, .iaload, 1), (7, .iload_n 3, 1), (8, .iadd, 1), (9, .iastore, 1), (10, .iload_n 2, 1), (11, .ifCond .le 14, 3), (14, .aload_n 0, 1), (15, .getfield 9, 3), (18, .iload_n 1, 1), (19, .iaload, 1), (20, .iload_n 2, 1), (21, .idiv, 1), (22, .goto 4, 3), (25, .iconst 0, 1), (26, .istore 5, 2), (28, .iload 5, 2), (30, .iload_n 2, 1), (31, .imul, 1)],
   [(32, .istore 6, 2), (34, .aload_n 0, 1), (35, .getfield 9, 3), (38, .iload_n 1, 1), (39, .dup2, 1), (40, .iaload, 1), (41, .iload 6, 2), (43, .isub, 1), (44, .iastore, 1), (45, .iload 4, 2), (47, .ifCond .lt 25, 3), (50, .iload 4, 2), (52, .bipush 8, 2), (54, .if_icmp .ge 18, 3), (57, .aload_n 0, 1), (58, .getfield 22, 3), (61, .iload 4, 2), (63, .dup2, 1)],
   [(64, .iaload, 1), (65, .iload 6, 2), (67, .iadd, 1), (68, .iastore, 1), (69, .goto 14, 3), (72, .aload_n 0, 1), (73, .dup, 1), (74, .getfield 50, 3), (77, .iload 6, 2), (79, .iadd, 1), (80, .putfield 50, 3), (83, .iload 5, 2), (85, .ireturn, 1)]]
def mm_r19 : mm_R := ((yX2_tip, cX2_tip, 7, (some .int), 4, false, [(4, 3), (1, 6), (0, 31)], (4, 4)),
   RX2, mm_t19, [(9, 0, 2, 0, 2, [(2, 3)]),
    (22, 0, 2, 3, 2, [(2, 8)]),
    (50, 0, 2, 7, 0, [(2, 16)])])
-- 20: "RainOrgan$Flow" "leak"
def mm_t20 : mm_T := [[(0, .aload_n 0, 1), (1, .getfield 9, 3), (4, .iload_n 1, 1), (5, .dup2, 1), (6, .iaload, 1), (7, .iload_n 3, 1), (8, .iadd, 1), (9, .iastore, 1), (10, .aload_n 0, 1), (11, .getfield 9, 3), (14, .iload_n 1, 1), (15, .iaload, 1), (16, .iload_n 2, 1), (17, .if_icmp .lt 27, 3), (20, .aload_n 0, 1), (21, .dup, 1), (22, .getfield 50, 3), (25, .aload_n 0, 1), (26, .getfield 9, 3), (29, .iload_n 1, 1), (30, .iaload, 1), (31, .iadd, 1)],
   [(32, .putfield 50, 3), (35, .aload_n 0, 1), (36, .getfield 9, 3), (39, .iload_n 1, 1), (40, .iconst 0, 1), (41, .iastore, 1), (42, .iconst 1, 1), (43, .ireturn, 1), (44, .aload_n 0, 1), (45, .getfield 9, 3), (48, .iload_n 1, 1), (49, .iaload, 1), (50, .ifCond .le 23, 3), (53, .aload_n 0, 1), (54, .dup, 1), (55, .getfield 50, 3), (58, .iconst 1, 1), (59, .iadd, 1), (60, .putfield 50, 3), (63, .aload_n 0, 1)],
   [(64, .getfield 9, 3), (67, .iload_n 1, 1), (68, .dup2, 1), (69, .iaload, 1), (70, .iconst 1, 1), (71, .isub, 1), (72, .iastore, 1), (73, .iconst 0, 1), (74, .ireturn, 1)]]
def mm_r20 : mm_R := ((yX2_leak, cX2_leak, 4, (some .int), 3, false, [(4, 7), (1, 6), (0, 32)], (4, 8)),
   RX2, mm_t20, [(9, 0, 2, 0, 2, [(2, 3)]),
    (50, 0, 2, 7, 0, [(2, 16)])])
-- 21: "RainOrgan$Flow" "countEach"
def mm_t21 : mm_T := [[(0, .aload_n 0, 1), (1, .dup, 1), (2, .getfield 50, 3), (5, .iload_n 3, 1), (6, .iadd, 1), (7, .putfield 50, 3), (10, .aload_n 0, 1), (11, .getfield 15, 3), (14, .iload_n 1, 1), (15, .dup2, 1), (16, .iaload, 1), (17, .iload_n 3, 1), (18, .iadd, 1), (19, .iastore, 1), (20, .iload_n 2, 1), (21, .ifCond .le 14, 3), (24, .aload_n 0, 1), (25, .getfield 15, 3), (28, .iload_n 1, 1), (29, .iaload, 1), (30, .iload_n 2, 1), (31, .idiv, 1)],
   [(32, .goto 4, 3), (35, .iconst 0, 1), (36, .istore 4, 2), (38, .aload_n 0, 1), (39, .getfield 15, 3), (42, .iload_n 1, 1), (43, .dup2, 1), (44, .iaload, 1), (45, .iload 4, 2), (47, .iload_n 2, 1), (48, .imul, 1), (49, .isub, 1), (50, .iastore, 1), (51, .iload 4, 2), (53, .ireturn, 1)]]
def mm_r21 : mm_R := ((yX2_countEach, cX2_countEach, 5, (some .int), 3, false, [(4, 11), (1, 6), (0, 33)], (4, 12)),
   RX2, mm_t21, [(15, 0, 2, 1, 2, [(2, 5)]),
    (50, 0, 2, 7, 0, [(2, 16)])])
-- 22: "RainOrgan$Flow" "emptyCup"
def mm_t22 : mm_T := [[(0, .aload_n 0, 1), (1, .dup, 1), (2, .getfield 50, 3), (5, .aload_n 0, 1), (6, .getfield 9, 3), (9, .iload_n 1, 1), (10, .iaload, 1), (11, .iadd, 1), (12, .putfield 50, 3), (15, .aload_n 0, 1), (16, .getfield 9, 3), (19, .iload_n 1, 1), (20, .iconst 0, 1), (21, .iastore, 1), (22, .aload_n 0, 1), (23, .getfield 15, 3), (26, .iload_n 1, 1), (27, .iconst 0, 1), (28, .iastore, 1), (29, .return_, 1)]]
def mm_r22 : mm_R := ((yX2_emptyCup, cX2_emptyCup, 2, none, 1, false, [(3, 183), (1, 6), (3, 184)], (3, 185)),
   RX2, mm_t22, [(9, 0, 2, 0, 2, [(2, 3)]),
    (15, 0, 2, 1, 2, [(2, 5)]),
    (50, 0, 2, 7, 0, [(2, 16)])])
-- 23: "RainOrgan$Flow" "isBroken"
def mm_t23 : mm_T := [[(0, .aload_n 1, 1), (1, .getfield 147, 3), (4, .ifCond .le 22, 3), (7, .aload_n 0, 1), (8, .getfield 18, 3), (11, .iload_n 2, 1), (12, .laload, 1), (13, .aload_n 1, 1), (14, .getfield 147, 3), (17, .i2l, 1), (18, .lcmp, 1), (19, .ifCond .lt 7, 3), (22, .iconst 1, 1), (23, .goto 4, 3), (26, .iconst 0, 1), (27, .ireturn, 1)]]
def mm_r23 : mm_R := ((yX2_isBroken, cX2_isBroken, 3, (some .boolean), 2, false, [(3, 167), (1, 6), (3, 168)], (3, 169)),
   RX2, mm_t23, [(18, 0, 2, 2, 2, [(2, 6)]),
    (147, 0, 4, 15, 0, [(1, 112)])])
-- 24: "RainOrgan$Flow" "brokenSpouts"
def mm_t24 : mm_T := [[(0, .iconst 0, 1), (1, .istore_n 2, 1), (2, .iconst 0, 1), (3, .istore_n 3, 1), (4, .iload_n 3, 1), (5, .aload_n 1, 1), (6, .getfield 113, 3), (9, .if_icmp .ge 28, 3), (12, .iload_n 2, 1), (13, .aload_n 0, 1), (14, .aload_n 1, 1), (15, .iload_n 3, 1), (16, .invokevirtual 116, 3), (19, .ifCond .eq 9, 3), (22, .iconst 1, 1), (23, .iload_n 3, 1), (24, .ishl, 1), (25, .goto 4, 3), (28, .iconst 0, 1), (29, .ior, 1), (30, .istore_n 2, 1), (31, .iinc 3 1, 3)],
   [(34, .goto (-30), 3), (37, .iload_n 2, 1), (38, .ireturn, 1)]]
def mm_r24 : mm_R := ((yX2_brokenSpouts, cX2_brokenSpouts, 4, (some .int), 1, false, [(4, 55), (1, 6), (4, 56)], (4, 57)),
   RX2, mm_t24, [(113, 0, 4, 6, 0, [(1, 80)]),
    (116, 1, 23, 2, 0, [(3, 236)])])
-- 25: "RainOrgan$Image" "<init>"
def mm_t25 : mm_T := [[(0, .aload_n 0, 1), (1, .invokespecial 1, 3), (4, .aload_n 0, 1), (5, .new 7, 3), (8, .dup, 1), (9, .invokespecial 9, 3), (12, .putfield 10, 3), (15, .aload_n 0, 1), (16, .new 16, 3), (19, .dup, 1), (20, .invokespecial 18, 3), (23, .putfield 19, 3), (26, .return_, 1)]]
def mm_r25 : mm_R := ((yX3_init, cX3_init, 1, none, 0, false, [(2, 117), (1, 9)], (2, 118)),
   RX3, mm_t25, [(1, 6, 0, 0, 0, [(2, 119), (1, 25), (1, 26)]),
    (7, 7, 6, 0, 0, [(2, 120), (1, 149), (1, 5)]),
    (9, 4, 52, 0, 11, []),
    (10, 0, 3, 0, 1, [(2, 124)]),
    (16, 7, 2, 0, 0, [(2, 122), (1, 238), (1, 6)]),
    (18, 4, 9, 0, 12, []),
    (19, 0, 3, 1, 1, [(2, 126)])])
-- 26: "RainOrgan$Plan" "<init>"
def mm_t26 : mm_T := [[(0, .aload_n 0, 1), (1, .invokespecial 3, 3), (4, .aload_n 0, 1), (5, .iconst 4, 1), (6, .newarray .int, 2), (8, .putfield 9, 3), (11, .aload_n 0, 1), (12, .iconst 4, 1), (13, .newarray .int, 2), (15, .putfield 15, 3), (18, .aload_n 0, 1), (19, .iconst 5, 1), (20, .newarray .int, 2), (22, .putfield 18, 3), (25, .aload_n 0, 1), (26, .iconst 5, 1), (27, .newarray .int, 2), (29, .putfield 21, 3)],
   [(32, .aload_n 0, 1), (33, .bipush 8, 2), (35, .newarray .int, 2), (37, .putfield 24, 3), (40, .aload_n 0, 1), (41, .bipush 8, 2), (43, .newarray .int, 2), (45, .putfield 27, 3), (48, .aload_n 0, 1), (49, .bipush 8, 2), (51, .newarray .int, 2), (53, .putfield 30, 3), (56, .aload_n 0, 1), (57, .iconst 4, 1), (58, .newarray .int, 2), (60, .putfield 33, 3), (63, .aload_n 0, 1)],
   [(64, .iconst 4, 1), (65, .newarray .int, 2), (67, .putfield 36, 3), (70, .aload_n 0, 1), (71, .iconst 4, 1), (72, .newarray .int, 2), (74, .putfield 39, 3), (77, .return_, 1)]]
def mm_r26 : mm_R := ((yX4_init, cX4_init, 1, none, 0, false, [(1, 53), (1, 4)], (1, 54)),
   RX4, mm_t26, [(3, 6, 0, 0, 0, [(1, 55), (1, 25), (1, 26)]),
    (9, 0, 4, 1, 1, [(1, 60)]),
    (15, 0, 4, 2, 1, [(1, 63)]),
    (18, 0, 4, 4, 1, [(1, 70)]),
    (21, 0, 4, 5, 1, [(1, 74)]),
    (24, 0, 4, 7, 1, [(1, 82)]),
    (27, 0, 4, 8, 1, [(1, 86)]),
    (30, 0, 4, 9, 1, [(1, 90)]),
    (33, 0, 4, 12, 1, [(1, 101)]),
    (36, 0, 4, 13, 1, [(1, 104)]),
    (39, 0, 4, 14, 1, [(1, 107)])])
-- 27: "RainOrgan$Plan" "forget"
def mm_t27 : mm_T := [[(0, .aload_n 0, 1), (1, .iconst 0, 1), (2, .putfield 42, 3), (5, .aload_n 0, 1), (6, .iconst 0, 1), (7, .putfield 46, 3), (10, .aload_n 0, 1), (11, .iconst 0, 1), (12, .putfield 49, 3), (15, .aload_n 0, 1), (16, .iconst 0, 1), (17, .putfield 52, 3), (20, .aload_n 0, 1), (21, .iconst 0, 1), (22, .putfield 55, 3), (25, .aload_n 0, 1), (26, .iconst 0, 1), (27, .putfield 58, 3), (30, .return_, 1)]]
def mm_r27 : mm_R := ((yX4_forget, cX4_forget, 1, none, 0, false, [(2, 205), (1, 4), (2, 206)], (2, 207)),
   RX4, mm_t27, [(42, 0, 4, 0, 0, [(1, 56)]),
    (46, 0, 4, 3, 0, [(1, 66)]),
    (49, 0, 4, 6, 0, [(1, 78)]),
    (52, 0, 4, 10, 0, [(1, 94)]),
    (55, 0, 4, 11, 0, [(1, 97)]),
    (58, 0, 4, 15, 0, [(1, 110)])])
-- 28: "RainOrgan$Reader" "<init>"
def mm_t28 : mm_T := [[(0, .aload_n 0, 1), (1, .invokespecial 3, 3), (4, .aload_n 0, 1), (5, .new 9, 3), (8, .dup, 1), (9, .invokespecial 11, 3), (12, .putfield 12, 3), (15, .aload_n 0, 1), (16, .new 18, 3), (19, .dup, 1), (20, .invokespecial 20, 3), (23, .putfield 21, 3), (26, .aload_n 0, 1), (27, .new 25, 3), (30, .dup, 1), (31, .invokespecial 27, 3)],
   [(34, .putfield 28, 3), (37, .return_, 1)]]
def mm_r28 : mm_R := ((yX5_init, cX5_init, 1, none, 0, false, [(1, 30), (1, 2)], (1, 31)),
   RX5, mm_t28, [(3, 6, 0, 0, 0, [(1, 32), (1, 25), (1, 26)]),
    (9, 7, 8, 0, 0, [(1, 33), (1, 34), (1, 3)]),
    (11, 4, 62, 0, 1, []),
    (12, 0, 5, 0, 1, [(1, 197)]),
    (18, 7, 4, 0, 0, [(1, 50), (1, 51), (1, 4)]),
    (20, 4, 26, 0, 2, []),
    (21, 0, 5, 1, 0, [(1, 199)]),
    (25, 7, 6, 0, 0, [(1, 148), (1, 149), (1, 5)]),
    (27, 4, 52, 0, 3, []),
    (28, 0, 5, 2, 0, [(1, 201)])])
-- 29: "RainOrgan$Reader" "begin"
def mm_t29 : mm_T := [[(0, .aload_n 0, 1), (1, .getfield 21, 3), (4, .invokevirtual 32, 3), (7, .aload_n 0, 1), (8, .getfield 28, 3), (11, .invokevirtual 35, 3), (14, .aload_n 0, 1), (15, .iconst 0, 1), (16, .putfield 36, 3), (19, .aload_n 0, 1), (20, .iconst 0, 1), (21, .putfield 40, 3), (24, .aload_n 0, 1), (25, .iconst 0, 1), (26, .putfield 44, 3), (29, .aload_n 0, 1), (30, .iconst 0, 1), (31, .putfield 47, 3)],
   [(34, .return_, 1)]]
def mm_r29 : mm_R := ((yX5_begin, cX5_begin, 1, none, 0, false, [(2, 201), (1, 2), (2, 202)], (2, 203)),
   RX5, mm_t29, [(21, 0, 5, 1, 0, [(1, 199)]),
    (28, 0, 5, 2, 0, [(1, 201)]),
    (32, 1, 27, 4, 0, [(2, 204)]),
    (35, 1, 53, 6, 0, [(2, 208)]),
    (36, 0, 5, 5, 0, [(1, 207)]),
    (40, 0, 5, 3, 0, [(1, 203)]),
    (44, 0, 5, 4, 0, [(1, 205)]),
    (47, 0, 5, 6, 0, [(1, 208)])])
-- 30: "RainOrgan$Reader" "fail"
def mm_t30 : mm_T := [[(0, .aload_n 0, 1), (1, .iload_n 1, 1), (2, .putfield 40, 3), (5, .aload_n 0, 1), (6, .aload_n 0, 1), (7, .getfield 50, 3), (10, .putfield 44, 3), (13, .iconst 0, 1), (14, .ireturn, 1)]]
def mm_r30 : mm_R := ((yX5_fail, cX5_fail, 2, (some .boolean), 1, false, [(2, 229), (1, 2), (0, 2)], (2, 230)),
   RX5, mm_t30, [(40, 0, 5, 3, 0, [(1, 203)]),
    (44, 0, 5, 4, 0, [(1, 205)]),
    (50, 0, 5, 7, 0, [(1, 209)])])
-- 31: "RainOrgan$Reader" "nextToken"
def mm_t31 : mm_T := [[(0, .aload_n 0, 1), (1, .getfield 47, 3), (4, .aload_n 0, 1), (5, .getfield 12, 3), (8, .getfield 53, 3), (11, .if_icmp .ge 33, 3), (14, .aload_n 0, 1), (15, .getfield 12, 3), (18, .getfield 56, 3), (21, .aload_n 0, 1), (22, .getfield 47, 3), (25, .baload, 1), (26, .bipush 32, 2), (28, .if_icmp .ne 16, 3), (31, .aload_n 0, 1)],
   [(32, .dup, 1), (33, .getfield 47, 3), (36, .iconst 1, 1), (37, .iadd, 1), (38, .putfield 47, 3), (41, .goto (-41), 3), (44, .aload_n 0, 1), (45, .aload_n 0, 1), (46, .getfield 47, 3), (49, .putfield 50, 3), (52, .aload_n 0, 1), (53, .aload_n 0, 1), (54, .aload_n 0, 1), (55, .getfield 47, 3), (58, .invokevirtual 60, 3), (61, .putfield 64, 3)],
   [(64, .aload_n 0, 1), (65, .getfield 64, 3), (68, .iconst 2, 1), (69, .if_icmp .eq 11, 3), (72, .aload_n 0, 1), (73, .getfield 64, 3), (76, .iconst 3, 1), (77, .if_icmp .ne 45, 3), (80, .aload_n 0, 1), (81, .getfield 47, 3), (84, .aload_n 0, 1), (85, .getfield 12, 3), (88, .getfield 53, 3), (91, .if_icmp .ge 49, 3), (94, .aload_n 0, 1), (95, .aload_n 0, 1)],
   [(96, .getfield 47, 3), (99, .invokevirtual 60, 3), (102, .aload_n 0, 1), (103, .getfield 64, 3), (106, .if_icmp .ne 34, 3), (109, .aload_n 0, 1), (110, .dup, 1), (111, .getfield 47, 3), (114, .iconst 1, 1), (115, .iadd, 1), (116, .putfield 47, 3), (119, .goto (-39), 3), (122, .aload_n 0, 1), (123, .getfield 64, 3), (126, .iconst 4, 1), (127, .if_icmp .ne 13, 3)],
   [(130, .aload_n 0, 1), (131, .dup, 1), (132, .getfield 47, 3), (135, .iconst 1, 1), (136, .iadd, 1), (137, .putfield 47, 3), (140, .aload_n 0, 1), (141, .getfield 64, 3), (144, .iconst 3, 1), (145, .if_icmp .ne 20, 3), (148, .aload_n 0, 1), (149, .getfield 47, 3), (152, .aload_n 0, 1), (153, .getfield 50, 3), (156, .isub, 1), (157, .iconst 3, 1), (158, .if_icmp .le 7, 3)],
   [(161, .iconst 1, 1), (162, .goto 4, 3), (165, .iconst 0, 1), (166, .istore_n 1, 1), (167, .aload_n 0, 1), (168, .getfield 64, 3), (171, .ifCond .eq 7, 3), (174, .iload_n 1, 1), (175, .ifCond .eq 11, 3), (178, .aload_n 0, 1), (179, .iconst 1, 1), (180, .invokevirtual 67, 3), (183, .ifCond .eq 7, 3), (186, .iconst 1, 1), (187, .goto 4, 3), (190, .iconst 0, 1), (191, .ireturn, 1)]]
def mm_r31 : mm_R := ((yX5_nextToken, cX5_nextToken, 2, (some .boolean), 0, false, [(2, 221), (1, 2), (0, 0)], (2, 222)),
   RX5, mm_t31, [(12, 0, 5, 0, 2, [(1, 197)]),
    (47, 0, 5, 6, 0, [(1, 208)]),
    (50, 0, 5, 7, 0, [(1, 209)]),
    (53, 0, 8, 1, 0, [(1, 43)]),
    (56, 0, 8, 0, 2, [(1, 41)]),
    (60, 1, 32, 5, 0, [(2, 223)]),
    (64, 0, 5, 8, 0, [(1, 210)]),
    (67, 1, 30, 5, 0, [(2, 227)])])
-- 32: "RainOrgan$Reader" "kindAt"
def mm_t32 : mm_T := [[(0, .iload_n 1, 1), (1, .aload_n 0, 1), (2, .getfield 12, 3), (5, .getfield 53, 3), (8, .if_icmp .lt 5, 3), (11, .iconst 1, 1), (12, .ireturn, 1), (13, .aload_n 0, 1), (14, .getfield 12, 3), (17, .getfield 56, 3), (20, .iload_n 1, 1), (21, .baload, 1), (22, .istore_n 2, 1), (23, .iload_n 2, 1), (24, .bipush 97, 2), (26, .if_icmp .lt 11, 3), (29, .iload_n 2, 1), (30, .bipush 122, 2)],
   [(32, .if_icmp .gt 5, 3), (35, .iconst 2, 1), (36, .ireturn, 1), (37, .iload_n 2, 1), (38, .bipush 48, 2), (40, .if_icmp .lt 11, 3), (43, .iload_n 2, 1), (44, .bipush 57, 2), (46, .if_icmp .gt 5, 3), (49, .iconst 3, 1), (50, .ireturn, 1), (51, .iload_n 2, 1), (52, .bipush 59, 2), (54, .if_icmp .ne 7, 3), (57, .iconst 4, 1), (58, .goto 4, 3), (61, .iconst 0, 1), (62, .ireturn, 1)]]
def mm_r32 : mm_R := ((yX5_kindAt, cX5_kindAt, 3, (some .int), 1, false, [(2, 225), (1, 2), (0, 1)], (2, 226)),
   RX5, mm_t32, [(12, 0, 5, 0, 2, [(1, 197)]),
    (53, 0, 8, 1, 0, [(1, 43)]),
    (56, 0, 8, 0, 2, [(1, 41)])])
-- 33: "RainOrgan$Reader" "numberRead"
def mm_t33 : mm_T := [[(0, .iconst 0, 1), (1, .istore_n 1, 1), (2, .aload_n 0, 1), (3, .getfield 50, 3), (6, .istore_n 2, 1), (7, .iload_n 2, 1), (8, .aload_n 0, 1), (9, .getfield 47, 3), (12, .if_icmp .ge 27, 3), (15, .iload_n 1, 1), (16, .bipush 10, 2), (18, .imul, 1), (19, .aload_n 0, 1), (20, .getfield 12, 3), (23, .getfield 56, 3), (26, .iload_n 2, 1), (27, .baload, 1), (28, .iadd, 1), (29, .bipush 48, 2), (31, .isub, 1)],
   [(32, .istore_n 1, 1), (33, .iinc 2 1, 3), (36, .goto (-29), 3), (39, .iload_n 1, 1), (40, .ireturn, 1)]]
def mm_r33 : mm_R := ((yX5_numberRead, cX5_numberRead, 3, (some .int), 0, false, [(3, 62), (1, 2), (0, 8)], (3, 63)),
   RX5, mm_t33, [(12, 0, 5, 0, 2, [(1, 197)]),
    (47, 0, 5, 6, 0, [(1, 208)]),
    (50, 0, 5, 7, 0, [(1, 209)]),
    (56, 0, 8, 0, 2, [(1, 41)])])
-- 34: "RainOrgan$Reader" "isNamed"
def mm_t34 : mm_T := [[(0, .aload_n 0, 1), (1, .getfield 47, 3), (4, .aload_n 0, 1), (5, .getfield 50, 3), (8, .isub, 1), (9, .aload_n 1, 1), (10, .invokevirtual 71, 3), (13, .if_icmp .eq 5, 3), (16, .iconst 0, 1), (17, .ireturn, 1), (18, .iconst 0, 1), (19, .istore_n 2, 1), (20, .iload_n 2, 1), (21, .aload_n 1, 1), (22, .invokevirtual 71, 3), (25, .if_icmp .ge 33, 3), (28, .aload_n 0, 1), (29, .getfield 12, 3)],
   [(32, .getfield 56, 3), (35, .aload_n 0, 1), (36, .getfield 50, 3), (39, .iload_n 2, 1), (40, .iadd, 1), (41, .baload, 1), (42, .aload_n 1, 1), (43, .iload_n 2, 1), (44, .invokevirtual 76, 3), (47, .if_icmp .eq 5, 3), (50, .iconst 0, 1), (51, .ireturn, 1), (52, .iinc 2 1, 3), (55, .goto (-35), 3), (58, .iconst 1, 1), (59, .ireturn, 1)]]
def mm_r34 : mm_R := ((yX5_isNamed, cX5_isNamed, 3, (some .boolean), 1, false, [(3, 2), (1, 2), (0, 5)], (3, 3)),
   RX5, mm_t34, [(12, 0, 5, 0, 2, [(1, 197)]),
    (47, 0, 5, 6, 0, [(1, 208)]),
    (50, 0, 5, 7, 0, [(1, 209)]),
    (56, 0, 8, 0, 2, [(1, 41)]),
    (71, 1, 193, 1000, 0, [(3, 4)]),
    (76, 1, 194, 1000, 0, [(3, 14)])])
-- 35: "RainOrgan$Reader" "needs"
def mm_t35 : mm_T := [[(0, .aload_n 0, 1), (1, .invokevirtual 80, 3), (4, .ifCond .eq 23, 3), (7, .aload_n 0, 1), (8, .getfield 64, 3), (11, .iload_n 1, 1), (12, .if_icmp .eq 11, 3), (15, .aload_n 0, 1), (16, .iconst 2, 1), (17, .invokevirtual 67, 3), (20, .ifCond .eq 7, 3), (23, .iconst 1, 1), (24, .goto 4, 3), (27, .iconst 0, 1), (28, .ireturn, 1)]]
def mm_r35 : mm_R := ((yX5_needs, cX5_needs, 2, (some .boolean), 1, false, [(3, 66), (1, 2), (0, 9)], (3, 67)),
   RX5, mm_t35, [(64, 0, 5, 8, 0, [(1, 210)]),
    (67, 1, 30, 5, 0, [(2, 227)]),
    (80, 1, 31, 5, 0, [(2, 219)])])
-- 36: "RainOrgan$Reader" "needsNumber"
def mm_t36 : mm_T := [[(0, .aload_n 0, 1), (1, .invokevirtual 80, 3), (4, .ifCond .ne 5, 3), (7, .iconst 0, 1), (8, .ireturn, 1), (9, .aload_n 0, 1), (10, .getfield 64, 3), (13, .iconst 3, 1), (14, .if_icmp .eq 9, 3), (17, .aload_n 0, 1), (18, .iconst 2, 1), (19, .invokevirtual 67, 3), (22, .ireturn, 1), (23, .aload_n 0, 1), (24, .aload_n 0, 1), (25, .invokevirtual 84, 3), (28, .putfield 87, 3), (31, .aload_n 0, 1)],
   [(32, .getfield 87, 3), (35, .iload_n 1, 1), (36, .if_icmp .lt 11, 3), (39, .aload_n 0, 1), (40, .getfield 87, 3), (43, .iload_n 2, 1), (44, .if_icmp .le 11, 3), (47, .aload_n 0, 1), (48, .iconst 3, 1), (49, .invokevirtual 67, 3), (52, .ifCond .eq 7, 3), (55, .iconst 1, 1), (56, .goto 4, 3), (59, .iconst 0, 1), (60, .ireturn, 1)]]
def mm_r36 : mm_R := ((yX5_needsNumber, cX5_needsNumber, 3, (some .boolean), 2, false, [(3, 58), (1, 2), (0, 7)], (3, 59)),
   RX5, mm_t36, [(64, 0, 5, 8, 0, [(1, 210)]),
    (67, 1, 30, 5, 0, [(2, 227)]),
    (80, 1, 31, 5, 0, [(2, 219)]),
    (84, 1, 33, 5, 0, [(3, 60)]),
    (87, 0, 5, 9, 0, [(1, 211)])])
-- 37: "RainOrgan$Reader" "readLine"
def mm_t37 : mm_T := [[(0, .aload_n 0, 1), (1, .invokevirtual 80, 3), (4, .ifCond .ne 5, 3), (7, .iconst 0, 1), (8, .ireturn, 1), (9, .aload_n 0, 1), (10, .getfield 64, 3), (13, .iconst 1, 1), (14, .if_icmp .ne 19, 3), (17, .aload_n 0, 1), (18, .invokevirtual 90, 3), (21, .ifCond .ne 10, 3), (24, .aload_n 0, 1), (25, .bipush 6, 2), (27, .invokevirtual 67, 3), (30, .pop, 1), (31, .iconst 0, 1)],
   [(32, .ireturn, 1), (33, .aload_n 0, 1), (34, .getfield 64, 3), (37, .iconst 2, 1), (38, .if_icmp .eq 9, 3), (41, .aload_n 0, 1), (42, .iconst 2, 1), (43, .invokevirtual 67, 3), (46, .ireturn, 1), (47, .aload_n 0, 1), (48, .ldc 93, 2), (50, .invokevirtual 95, 3), (53, .ifCond .eq 8, 3), (56, .aload_n 0, 1), (57, .invokevirtual 99, 3), (60, .ireturn, 1), (61, .aload_n 0, 1), (62, .ldc 102, 2)],
   [(64, .invokevirtual 95, 3), (67, .ifCond .eq 8, 3), (70, .aload_n 0, 1), (71, .invokevirtual 104, 3), (74, .ireturn, 1), (75, .aload_n 0, 1), (76, .ldc 107, 2), (78, .invokevirtual 95, 3), (81, .ifCond .eq 8, 3), (84, .aload_n 0, 1), (85, .invokevirtual 109, 3), (88, .ireturn, 1), (89, .aload_n 0, 1), (90, .ldc 112, 2), (92, .invokevirtual 95, 3), (95, .ifCond .eq 8, 3)],
   [(98, .aload_n 0, 1), (99, .invokevirtual 114, 3), (102, .ireturn, 1), (103, .aload_n 0, 1), (104, .ldc 117, 2), (106, .invokevirtual 95, 3), (109, .ifCond .eq 8, 3), (112, .aload_n 0, 1), (113, .invokevirtual 119, 3), (116, .ireturn, 1), (117, .aload_n 0, 1), (118, .ldc 122, 2), (120, .invokevirtual 95, 3), (123, .ifCond .eq 8, 3), (126, .aload_n 0, 1), (127, .invokevirtual 124, 3)],
   [(130, .ireturn, 1), (131, .aload_n 0, 1), (132, .ldc 127, 2), (134, .invokevirtual 95, 3), (137, .ifCond .eq 8, 3), (140, .aload_n 0, 1), (141, .invokevirtual 129, 3), (144, .ireturn, 1), (145, .aload_n 0, 1), (146, .iconst 2, 1), (147, .invokevirtual 67, 3), (150, .ireturn, 1)]]
def mm_r37 : mm_R := ((yX5_readLine, cX5_readLine, 1, (some .boolean), 0, false, [(2, 216), (1, 2), (2, 217)], (2, 218)),
   RX5, mm_t37, [(64, 0, 5, 8, 0, [(1, 210)]),
    (67, 1, 30, 5, 0, [(2, 227)]),
    (80, 1, 31, 5, 0, [(2, 219)]),
    (90, 1, 50, 5, 0, [(2, 231)]),
    (93, 13, 0, 0, 0, []),
    (95, 1, 34, 5, 0, [(3, 0)]),
    (99, 1, 38, 5, 0, [(3, 52)]),
    (102, 13, 1, 0, 0, []),
    (104, 1, 39, 5, 0, [(3, 69)]),
    (107, 13, 3, 0, 0, []),
    (109, 1, 41, 5, 0, [(3, 80)]),
    (112, 13, 11, 0, 0, []),
    (114, 1, 44, 5, 0, [(3, 102)]),
    (117, 13, 12, 0, 0, []),
    (119, 1, 45, 5, 0, [(3, 115)]),
    (122, 13, 13, 0, 0, []),
    (124, 1, 48, 5, 0, [(3, 120)]),
    (127, 13, 14, 0, 0, []),
    (129, 1, 49, 5, 0, [(3, 125)])])
-- 38: "RainOrgan$Reader" "readRoof"
def mm_t38 : mm_T := [[(0, .aload_n 0, 1), (1, .getfield 21, 3), (4, .getfield 132, 3), (7, .istore_n 1, 1), (8, .iload_n 1, 1), (9, .iconst 4, 1), (10, .if_icmp .lt 9, 3), (13, .aload_n 0, 1), (14, .iconst 5, 1), (15, .invokevirtual 67, 3), (18, .ireturn, 1), (19, .aload_n 0, 1), (20, .iconst 1, 1), (21, .bipush 9, 2), (23, .invokevirtual 135, 3), (26, .ifCond .ne 5, 3), (29, .iconst 0, 1), (30, .ireturn, 1), (31, .aload_n 0, 1)],
   [(32, .getfield 21, 3), (35, .getfield 139, 3), (38, .iload_n 1, 1), (39, .aload_n 0, 1), (40, .getfield 87, 3), (43, .iastore, 1), (44, .aload_n 0, 1), (45, .iconst 0, 1), (46, .iconst 4, 1), (47, .invokevirtual 135, 3), (50, .ifCond .ne 5, 3), (53, .iconst 0, 1), (54, .ireturn, 1), (55, .aload_n 0, 1), (56, .getfield 21, 3), (59, .getfield 143, 3), (62, .iload_n 1, 1), (63, .aload_n 0, 1)],
   [(64, .getfield 87, 3), (67, .iastore, 1), (68, .aload_n 0, 1), (69, .getfield 21, 3), (72, .dup, 1), (73, .getfield 132, 3), (76, .iconst 1, 1), (77, .iadd, 1), (78, .putfield 132, 3), (81, .aload_n 0, 1), (82, .iconst 4, 1), (83, .invokevirtual 146, 3), (86, .ireturn, 1)]]
def mm_r38 : mm_R := ((yX5_readRoof, cX5_readRoof, 2, (some .boolean), 0, false, [(3, 54), (1, 2), (0, 6)], (3, 55)),
   RX5, mm_t38, [(21, 0, 5, 1, 0, [(1, 199)]),
    (67, 1, 30, 5, 0, [(2, 227)]),
    (87, 0, 5, 9, 0, [(1, 211)]),
    (132, 0, 4, 0, 0, [(1, 59)]),
    (135, 1, 36, 5, 0, [(3, 56)]),
    (139, 0, 4, 1, 2, [(1, 62)]),
    (143, 0, 4, 2, 2, [(1, 65)]),
    (146, 1, 35, 5, 0, [(3, 64)])])
-- 39: "RainOrgan$Reader" "readPeg"
def mm_t39 : mm_T := [[(0, .aload_n 0, 1), (1, .getfield 21, 3), (4, .getfield 149, 3), (7, .istore_n 1, 1), (8, .iload_n 1, 1), (9, .iconst 5, 1), (10, .if_icmp .lt 9, 3), (13, .aload_n 0, 1), (14, .iconst 5, 1), (15, .invokevirtual 67, 3), (18, .ireturn, 1), (19, .aload_n 0, 1), (20, .iload_n 1, 1), (21, .invokevirtual 152, 3), (24, .ifCond .ne 5, 3), (27, .iconst 0, 1), (28, .ireturn, 1), (29, .aload_n 0, 1), (30, .getfield 21, 3)],
   [(33, .getfield 155, 3), (36, .iload_n 1, 1), (37, .aload_n 0, 1), (38, .getfield 87, 3), (41, .iastore, 1), (42, .aload_n 0, 1), (43, .iload_n 1, 1), (44, .invokevirtual 152, 3), (47, .ifCond .ne 5, 3), (50, .iconst 0, 1), (51, .ireturn, 1), (52, .aload_n 0, 1), (53, .getfield 21, 3), (56, .getfield 158, 3), (59, .iload_n 1, 1), (60, .aload_n 0, 1), (61, .getfield 87, 3)],
   [(64, .iastore, 1), (65, .aload_n 0, 1), (66, .getfield 21, 3), (69, .dup, 1), (70, .getfield 149, 3), (73, .iconst 1, 1), (74, .iadd, 1), (75, .putfield 149, 3), (78, .aload_n 0, 1), (79, .iconst 4, 1), (80, .invokevirtual 146, 3), (83, .ireturn, 1)]]
def mm_r39 : mm_R := ((yX5_readPeg, cX5_readPeg, 2, (some .boolean), 0, false, [(3, 71), (1, 2), (0, 10)], (3, 72)),
   RX5, mm_t39, [(21, 0, 5, 1, 0, [(1, 199)]),
    (67, 1, 30, 5, 0, [(2, 227)]),
    (87, 0, 5, 9, 0, [(1, 211)]),
    (146, 1, 35, 5, 0, [(3, 64)]),
    (149, 0, 4, 3, 0, [(1, 69)]),
    (152, 1, 40, 5, 0, [(3, 73)]),
    (155, 0, 4, 4, 2, [(1, 73)]),
    (158, 0, 4, 5, 2, [(1, 77)])])
-- 40: "RainOrgan$Reader" "readWay"
def mm_t40 : mm_T := [[(0, .aload_n 0, 1), (1, .iconst 2, 1), (2, .invokevirtual 146, 3), (5, .ifCond .ne 5, 3), (8, .iconst 0, 1), (9, .ireturn, 1), (10, .aload_n 0, 1), (11, .ldc 161, 2), (13, .invokevirtual 95, 3), (16, .ifCond .eq 12, 3), (19, .aload_n 0, 1), (20, .iload_n 1, 1), (21, .iconst 1, 1), (22, .iadd, 1), (23, .iconst 4, 1), (24, .invokevirtual 135, 3), (27, .ireturn, 1), (28, .aload_n 0, 1), (29, .ldc 107, 2), (31, .invokevirtual 95, 3)],
   [(34, .ifCond .eq 24, 3), (37, .aload_n 0, 1), (38, .iconst 0, 1), (39, .bipush 7, 2), (41, .invokevirtual 135, 3), (44, .istore_n 2, 1), (45, .aload_n 0, 1), (46, .dup, 1), (47, .getfield 87, 3), (50, .bipush 10, 2), (52, .iadd, 1), (53, .putfield 87, 3), (56, .iload_n 2, 1), (57, .ireturn, 1), (58, .aload_n 0, 1), (59, .ldc 163, 2), (61, .invokevirtual 95, 3)],
   [(64, .ifCond .eq 11, 3), (67, .aload_n 0, 1), (68, .bipush 20, 2), (70, .putfield 87, 3), (73, .iconst 1, 1), (74, .ireturn, 1), (75, .aload_n 0, 1), (76, .iconst 2, 1), (77, .invokevirtual 67, 3), (80, .ireturn, 1)]]
def mm_r40 : mm_R := ((yX5_readWay, cX5_readWay, 3, (some .boolean), 1, false, [(3, 75), (1, 2), (0, 11)], (3, 76)),
   RX5, mm_t40, [(67, 1, 30, 5, 0, [(2, 227)]),
    (87, 0, 5, 9, 0, [(1, 211)]),
    (95, 1, 34, 5, 0, [(3, 0)]),
    (107, 13, 3, 0, 0, []),
    (135, 1, 36, 5, 0, [(3, 56)]),
    (146, 1, 35, 5, 0, [(3, 64)]),
    (161, 13, 2, 0, 0, []),
    (163, 13, 4, 0, 0, [])])
-- 41: "RainOrgan$Reader" "readSpout"
def mm_t41 : mm_T := [[(0, .aload_n 0, 1), (1, .getfield 21, 3), (4, .getfield 165, 3), (7, .istore_n 1, 1), (8, .iload_n 1, 1), (9, .bipush 8, 2), (11, .if_icmp .lt 9, 3), (14, .aload_n 0, 1), (15, .iconst 5, 1), (16, .invokevirtual 67, 3), (19, .ireturn, 1), (20, .aload_n 0, 1), (21, .iconst 0, 1), (22, .bipush 7, 2), (24, .invokevirtual 135, 3), (27, .ifCond .ne 5, 3), (30, .iconst 0, 1), (31, .ireturn, 1)],
   [(32, .aload_n 0, 1), (33, .getfield 21, 3), (36, .getfield 168, 3), (39, .iload_n 1, 1), (40, .aload_n 0, 1), (41, .getfield 87, 3), (44, .iastore, 1), (45, .aload_n 0, 1), (46, .iload_n 1, 1), (47, .invokevirtual 171, 3), (50, .ifCond .ne 5, 3), (53, .iconst 0, 1), (54, .ireturn, 1), (55, .aload_n 0, 1), (56, .getfield 21, 3), (59, .dup, 1), (60, .getfield 165, 3), (63, .iconst 1, 1)],
   [(64, .iadd, 1), (65, .putfield 165, 3), (68, .aload_n 0, 1), (69, .iconst 4, 1), (70, .invokevirtual 146, 3), (73, .ireturn, 1)]]
def mm_r41 : mm_R := ((yX5_readSpout, cX5_readSpout, 2, (some .boolean), 0, false, [(3, 82), (1, 2), (0, 12)], (3, 83)),
   RX5, mm_t41, [(21, 0, 5, 1, 0, [(1, 199)]),
    (67, 1, 30, 5, 0, [(2, 227)]),
    (87, 0, 5, 9, 0, [(1, 211)]),
    (135, 1, 36, 5, 0, [(3, 56)]),
    (146, 1, 35, 5, 0, [(3, 64)]),
    (165, 0, 4, 6, 0, [(1, 81)]),
    (168, 0, 4, 7, 2, [(1, 85)]),
    (171, 1, 42, 5, 0, [(3, 84)])])
-- 42: "RainOrgan$Reader" "readCup"
def mm_t42 : mm_T := [[(0, .aload_n 0, 1), (1, .iconst 2, 1), (2, .invokevirtual 146, 3), (5, .ifCond .ne 5, 3), (8, .iconst 0, 1), (9, .ireturn, 1), (10, .aload_n 0, 1), (11, .invokevirtual 174, 3), (14, .istore_n 2, 1), (15, .iload_n 2, 1), (16, .bipush (-4), 2), (18, .if_icmp .ne 9, 3), (21, .aload_n 0, 1), (22, .iconst 2, 1), (23, .invokevirtual 67, 3), (26, .ireturn, 1), (27, .aload_n 0, 1), (28, .getfield 28, 3), (31, .getfield 177, 3)],
   [(34, .iload_n 1, 1), (35, .iload_n 2, 1), (36, .iastore, 1), (37, .iload_n 2, 1), (38, .invokestatic 180, 3), (41, .ifCond .ne 5, 3), (44, .iconst 1, 1), (45, .ireturn, 1), (46, .aload_n 0, 1), (47, .iconst 1, 1), (48, .bipush 30, 2), (50, .invokevirtual 135, 3), (53, .ifCond .ne 5, 3), (56, .iconst 0, 1), (57, .ireturn, 1), (58, .aload_n 0, 1), (59, .getfield 21, 3), (62, .getfield 183, 3)],
   [(65, .iload_n 1, 1), (66, .aload_n 0, 1), (67, .getfield 87, 3), (70, .iastore, 1), (71, .iload_n 2, 1), (72, .iconst 4, 1), (73, .if_icmp .eq 5, 3), (76, .iconst 1, 1), (77, .ireturn, 1), (78, .aload_n 0, 1), (79, .iconst 0, 1), (80, .bipush 7, 2), (82, .invokevirtual 135, 3), (85, .ifCond .ne 5, 3), (88, .iconst 0, 1), (89, .ireturn, 1), (90, .aload_n 0, 1), (91, .getfield 21, 3), (94, .getfield 186, 3)],
   [(97, .iload_n 1, 1), (98, .aload_n 0, 1), (99, .getfield 87, 3), (102, .iastore, 1), (103, .aload_n 0, 1), (104, .getfield 87, 3), (107, .iload_n 1, 1), (108, .if_icmp .ne 11, 3), (111, .aload_n 0, 1), (112, .iconst 3, 1), (113, .invokevirtual 67, 3), (116, .ifCond .eq 7, 3), (119, .iconst 1, 1), (120, .goto 4, 3), (123, .iconst 0, 1), (124, .ireturn, 1)]]
def mm_r42 : mm_R := ((yX5_readCup, cX5_readCup, 3, (some .boolean), 1, false, [(3, 86), (1, 2), (0, 13)], (3, 87)),
   RX5, mm_t42, [(21, 0, 5, 1, 0, [(1, 199)]),
    (28, 0, 5, 2, 0, [(1, 201)]),
    (67, 1, 30, 5, 0, [(2, 227)]),
    (87, 0, 5, 9, 0, [(1, 211)]),
    (135, 1, 36, 5, 0, [(3, 56)]),
    (146, 1, 35, 5, 0, [(3, 64)]),
    (174, 1, 43, 5, 0, [(3, 88)]),
    (177, 0, 6, 2, 2, [(1, 165)]),
    (180, 5, 110, 0, 14, []),
    (183, 0, 4, 8, 2, [(1, 89)]),
    (186, 0, 4, 9, 2, [(1, 93)])])
-- 43: "RainOrgan$Reader" "namedKind"
def mm_t43 : mm_T := [[(0, .aload_n 0, 1), (1, .ldc 189, 2), (3, .invokevirtual 95, 3), (6, .ifCond .eq 5, 3), (9, .iconst 0, 1), (10, .ireturn, 1), (11, .aload_n 0, 1), (12, .ldc 191, 2), (14, .invokevirtual 95, 3), (17, .ifCond .eq 5, 3), (20, .iconst 1, 1), (21, .ireturn, 1), (22, .aload_n 0, 1), (23, .ldc 193, 2), (25, .invokevirtual 95, 3), (28, .ifCond .eq 5, 3), (31, .iconst 2, 1)],
   [(32, .ireturn, 1), (33, .aload_n 0, 1), (34, .ldc 195, 2), (36, .invokevirtual 95, 3), (39, .ifCond .eq 5, 3), (42, .iconst 3, 1), (43, .ireturn, 1), (44, .aload_n 0, 1), (45, .ldc 197, 2), (47, .invokevirtual 95, 3), (50, .ifCond .eq 5, 3), (53, .iconst 4, 1), (54, .ireturn, 1), (55, .aload_n 0, 1), (56, .ldc 199, 2), (58, .invokevirtual 95, 3), (61, .ifCond .eq 7, 3)],
   [(64, .iconst 5, 1), (65, .goto 5, 3), (68, .bipush (-4), 2), (70, .ireturn, 1)]]
def mm_r43 : mm_R := ((yX5_namedKind, cX5_namedKind, 1, (some .int), 0, false, [(3, 90), (1, 2), (0, 14)], (3, 91)),
   RX5, mm_t43, [(95, 1, 34, 5, 0, [(3, 0)]),
    (189, 13, 5, 0, 0, []),
    (191, 13, 6, 0, 0, []),
    (193, 13, 7, 0, 0, []),
    (195, 13, 8, 0, 0, []),
    (197, 13, 9, 0, 0, []),
    (199, 13, 10, 0, 0, [])])
-- 44: "RainOrgan$Reader" "readRain"
def mm_t44 : mm_T := [[(0, .aload_n 0, 1), (1, .getfield 21, 3), (4, .getfield 201, 3), (7, .istore_n 1, 1), (8, .iload_n 1, 1), (9, .iconst 3, 1), (10, .if_icmp .lt 9, 3), (13, .aload_n 0, 1), (14, .iconst 5, 1), (15, .invokevirtual 67, 3), (18, .ireturn, 1), (19, .aload_n 0, 1), (20, .aload_n 0, 1), (21, .getfield 28, 3), (24, .getfield 204, 3), (27, .iload_n 1, 1), (28, .aaload, 1), (29, .bipush 9, 2), (31, .invokevirtual 208, 3)],
   [(34, .istore_n 2, 1), (35, .aload_n 0, 1), (36, .getfield 28, 3), (39, .getfield 212, 3), (42, .iload_n 1, 1), (43, .iload_n 2, 1), (44, .iastore, 1), (45, .aload_n 0, 1), (46, .getfield 21, 3), (49, .dup, 1), (50, .getfield 201, 3), (53, .iconst 1, 1), (54, .iadd, 1), (55, .putfield 201, 3), (58, .iload_n 2, 1), (59, .ifCond .le 7, 3), (62, .iconst 1, 1), (63, .goto 4, 3)],
   [(66, .iconst 0, 1), (67, .ireturn, 1)]]
def mm_r44 : mm_R := ((yX5_readRain, cX5_readRain, 3, (some .boolean), 0, false, [(3, 104), (1, 2), (0, 15)], (3, 105)),
   RX5, mm_t44, [(21, 0, 5, 1, 0, [(1, 199)]),
    (28, 0, 5, 2, 0, [(1, 201)]),
    (67, 1, 30, 5, 0, [(2, 227)]),
    (201, 0, 4, 10, 0, [(1, 96)]),
    (204, 0, 6, 4, 2, [(1, 172)]),
    (208, 1, 46, 5, 0, [(3, 106)]),
    (212, 0, 6, 3, 2, [(1, 168)])])
-- 45: "RainOrgan$Reader" "readTune"
def mm_t45 : mm_T := [[(0, .aload_n 0, 1), (1, .getfield 28, 3), (4, .getfield 215, 3), (7, .ifCond .le 9, 3), (10, .aload_n 0, 1), (11, .iconst 4, 1), (12, .invokevirtual 67, 3), (15, .ireturn, 1), (16, .aload_n 0, 1), (17, .getfield 28, 3), (20, .aload_n 0, 1), (21, .aload_n 0, 1), (22, .getfield 28, 3), (25, .getfield 218, 3), (28, .sipush 255, 3), (31, .invokevirtual 208, 3)],
   [(34, .putfield 215, 3), (37, .aload_n 0, 1), (38, .getfield 28, 3), (41, .getfield 215, 3), (44, .ifCond .le 7, 3), (47, .iconst 1, 1), (48, .goto 4, 3), (51, .iconst 0, 1), (52, .ireturn, 1)]]
def mm_r45 : mm_R := ((yX5_readTune, cX5_readTune, 1, (some .boolean), 0, false, [(3, 117), (1, 2), (0, 18)], (3, 118)),
   RX5, mm_t45, [(28, 0, 5, 2, 0, [(1, 201)]),
    (67, 1, 30, 5, 0, [(2, 227)]),
    (208, 1, 46, 5, 0, [(3, 106)]),
    (215, 0, 6, 6, 0, [(1, 181)]),
    (218, 0, 6, 5, 2, [(1, 176)])])
-- 46: "RainOrgan$Reader" "readSeconds"
def mm_t46 : mm_T := [[(0, .aload_n 0, 1), (1, .iconst 0, 1), (2, .iload_n 2, 1), (3, .invokevirtual 135, 3), (6, .ifCond .ne 5, 3), (9, .iconst 0, 1), (10, .ireturn, 1), (11, .aload_n 1, 1), (12, .iconst 0, 1), (13, .aload_n 0, 1), (14, .getfield 87, 3), (17, .iastore, 1), (18, .iconst 1, 1), (19, .istore_n 3, 1), (20, .iload_n 3, 1), (21, .bipush 12, 2), (23, .if_icmp .gt 46, 3), (26, .aload_n 0, 1), (27, .invokevirtual 80, 3), (30, .ifCond .ne 5, 3)],
   [(33, .iconst 0, 1), (34, .ireturn, 1), (35, .aload_n 0, 1), (36, .getfield 64, 3), (39, .iconst 4, 1), (40, .if_icmp .ne 5, 3), (43, .iload_n 3, 1), (44, .ireturn, 1), (45, .aload_n 0, 1), (46, .iload_n 3, 1), (47, .iload_n 2, 1), (48, .invokevirtual 220, 3), (51, .ifCond .ne 5, 3), (54, .iconst 0, 1), (55, .ireturn, 1), (56, .aload_n 1, 1), (57, .iload_n 3, 1), (58, .aload_n 0, 1), (59, .getfield 87, 3), (62, .iastore, 1), (63, .iinc 3 1, 3)],
   [(66, .goto (-46), 3), (69, .iconst 0, 1), (70, .ireturn, 1)]]
def mm_r46 : mm_R := ((yX5_readSeconds, cX5_readSeconds, 4, (some .int), 2, false, [(3, 108), (1, 2), (0, 16)], (3, 109)),
   RX5, mm_t46, [(64, 0, 5, 8, 0, [(1, 210)]),
    (80, 1, 31, 5, 0, [(2, 219)]),
    (87, 0, 5, 9, 0, [(1, 211)]),
    (135, 1, 36, 5, 0, [(3, 56)]),
    (220, 1, 47, 5, 0, [(3, 110)])])
-- 47: "RainOrgan$Reader" "isSecond"
def mm_t47 : mm_T := [[(0, .aload_n 0, 1), (1, .getfield 64, 3), (4, .iconst 3, 1), (5, .if_icmp .eq 9, 3), (8, .aload_n 0, 1), (9, .iconst 2, 1), (10, .invokevirtual 67, 3), (13, .ireturn, 1), (14, .aload_n 0, 1), (15, .aload_n 0, 1), (16, .invokevirtual 84, 3), (19, .putfield 87, 3), (22, .aload_n 0, 1), (23, .getfield 87, 3), (26, .iload_n 2, 1), (27, .if_icmp .le 9, 3), (30, .aload_n 0, 1), (31, .iconst 3, 1)],
   [(32, .invokevirtual 67, 3), (35, .ireturn, 1), (36, .iload_n 1, 1), (37, .bipush 12, 2), (39, .if_icmp .lt 11, 3), (42, .aload_n 0, 1), (43, .iconst 5, 1), (44, .invokevirtual 67, 3), (47, .ifCond .eq 7, 3), (50, .iconst 1, 1), (51, .goto 4, 3), (54, .iconst 0, 1), (55, .ireturn, 1)]]
def mm_r47 : mm_R := ((yX5_isSecond, cX5_isSecond, 3, (some .boolean), 2, false, [(3, 112), (1, 2), (0, 17)], (3, 113)),
   RX5, mm_t47, [(64, 0, 5, 8, 0, [(1, 210)]),
    (67, 1, 30, 5, 0, [(2, 227)]),
    (84, 1, 33, 5, 0, [(3, 60)]),
    (87, 0, 5, 9, 0, [(1, 211)])])
-- 48: "RainOrgan$Reader" "readSleep"
def mm_t48 : mm_T := [[(0, .aload_n 0, 1), (1, .getfield 21, 3), (4, .getfield 223, 3), (7, .istore_n 1, 1), (8, .iload_n 1, 1), (9, .iconst 4, 1), (10, .if_icmp .lt 9, 3), (13, .aload_n 0, 1), (14, .iconst 5, 1), (15, .invokevirtual 67, 3), (18, .ireturn, 1), (19, .aload_n 0, 1), (20, .iconst 0, 1), (21, .bipush 11, 2), (23, .invokevirtual 135, 3), (26, .ifCond .ne 5, 3), (29, .iconst 0, 1), (30, .ireturn, 1), (31, .aload_n 0, 1)],
   [(32, .getfield 21, 3), (35, .getfield 226, 3), (38, .iload_n 1, 1), (39, .aload_n 0, 1), (40, .getfield 87, 3), (43, .iastore, 1), (44, .aload_n 0, 1), (45, .aload_n 0, 1), (46, .getfield 87, 3), (49, .bipush 11, 2), (51, .invokevirtual 135, 3), (54, .ifCond .ne 5, 3), (57, .iconst 0, 1), (58, .ireturn, 1), (59, .aload_n 0, 1), (60, .getfield 21, 3), (63, .getfield 229, 3)],
   [(66, .iload_n 1, 1), (67, .aload_n 0, 1), (68, .getfield 87, 3), (71, .iastore, 1), (72, .aload_n 0, 1), (73, .iconst 1, 1), (74, .bipush 99, 2), (76, .invokevirtual 135, 3), (79, .ifCond .ne 5, 3), (82, .iconst 0, 1), (83, .ireturn, 1), (84, .aload_n 0, 1), (85, .getfield 21, 3), (88, .getfield 232, 3), (91, .iload_n 1, 1), (92, .aload_n 0, 1), (93, .getfield 87, 3)],
   [(96, .iastore, 1), (97, .aload_n 0, 1), (98, .getfield 21, 3), (101, .dup, 1), (102, .getfield 223, 3), (105, .iconst 1, 1), (106, .iadd, 1), (107, .putfield 223, 3), (110, .aload_n 0, 1), (111, .iconst 4, 1), (112, .invokevirtual 146, 3), (115, .ireturn, 1)]]
def mm_r48 : mm_R := ((yX5_readSleep, cX5_readSleep, 2, (some .boolean), 0, false, [(3, 122), (1, 2), (0, 19)], (3, 123)),
   RX5, mm_t48, [(21, 0, 5, 1, 0, [(1, 199)]),
    (67, 1, 30, 5, 0, [(2, 227)]),
    (87, 0, 5, 9, 0, [(1, 211)]),
    (135, 1, 36, 5, 0, [(3, 56)]),
    (146, 1, 35, 5, 0, [(3, 64)]),
    (223, 0, 4, 11, 0, [(1, 100)]),
    (226, 0, 4, 12, 2, [(1, 103)]),
    (229, 0, 4, 13, 2, [(1, 106)]),
    (232, 0, 4, 14, 2, [(1, 109)])])
-- 49: "RainOrgan$Reader" "readWear"
def mm_t49 : mm_T := [[(0, .aload_n 0, 1), (1, .getfield 36, 3), (4, .ifCond .eq 9, 3), (7, .aload_n 0, 1), (8, .iconst 4, 1), (9, .invokevirtual 67, 3), (12, .ireturn, 1), (13, .aload_n 0, 1), (14, .iconst 1, 1), (15, .putfield 36, 3), (18, .aload_n 0, 1), (19, .iconst 0, 1), (20, .sipush 999, 3), (23, .invokevirtual 135, 3), (26, .ifCond .ne 5, 3), (29, .iconst 0, 1), (30, .ireturn, 1), (31, .aload_n 0, 1)],
   [(32, .getfield 21, 3), (35, .aload_n 0, 1), (36, .getfield 87, 3), (39, .putfield 235, 3), (42, .aload_n 0, 1), (43, .iconst 4, 1), (44, .invokevirtual 146, 3), (47, .ireturn, 1)]]
def mm_r49 : mm_R := ((yX5_readWear, cX5_readWear, 1, (some .boolean), 0, false, [(3, 127), (1, 2), (0, 20)], (3, 128)),
   RX5, mm_t49, [(21, 0, 5, 1, 0, [(1, 199)]),
    (36, 0, 5, 5, 0, [(1, 207)]),
    (67, 1, 30, 5, 0, [(2, 227)]),
    (87, 0, 5, 9, 0, [(1, 211)]),
    (135, 1, 36, 5, 0, [(3, 56)]),
    (146, 1, 35, 5, 0, [(3, 64)]),
    (235, 0, 4, 15, 0, [(1, 113)])])
-- 50: "RainOrgan$Reader" "allPartsAreThere"
def mm_t50 : mm_T := [[(0, .iconst 0, 1), (1, .istore_n 1, 1), (2, .iload_n 1, 1), (3, .aload_n 0, 1), (4, .getfield 21, 3), (7, .getfield 132, 3), (10, .if_icmp .ge 30, 3), (13, .aload_n 0, 1), (14, .getfield 21, 3), (17, .getfield 143, 3), (20, .iload_n 1, 1), (21, .iaload, 1), (22, .aload_n 0, 1), (23, .getfield 21, 3), (26, .getfield 149, 3), (29, .if_icmp .lt 5, 3)],
   [(32, .iconst 0, 1), (33, .ireturn, 1), (34, .iinc 1 1, 3), (37, .goto (-35), 3), (40, .iconst 0, 1), (41, .istore_n 1, 1), (42, .iload_n 1, 1), (43, .aload_n 0, 1), (44, .getfield 21, 3), (47, .getfield 149, 3), (50, .if_icmp .ge 43, 3), (53, .aload_n 0, 1), (54, .aload_n 0, 1), (55, .getfield 21, 3), (58, .getfield 155, 3), (61, .iload_n 1, 1), (62, .iaload, 1), (63, .invokevirtual 237, 3)],
   [(66, .ifCond .eq 19, 3), (69, .aload_n 0, 1), (70, .aload_n 0, 1), (71, .getfield 21, 3), (74, .getfield 158, 3), (77, .iload_n 1, 1), (78, .iaload, 1), (79, .invokevirtual 237, 3), (82, .ifCond .ne 5, 3), (85, .iconst 0, 1), (86, .ireturn, 1), (87, .iinc 1 1, 3), (90, .goto (-48), 3), (93, .iconst 0, 1), (94, .istore_n 1, 1), (95, .iload_n 1, 1)],
   [(96, .aload_n 0, 1), (97, .getfield 21, 3), (100, .getfield 165, 3), (103, .if_icmp .ge 43, 3), (106, .aload_n 0, 1), (107, .getfield 28, 3), (110, .getfield 177, 3), (113, .iload_n 1, 1), (114, .iaload, 1), (115, .iconst 4, 1), (116, .if_icmp .ne 24, 3), (119, .aload_n 0, 1), (120, .getfield 21, 3), (123, .getfield 186, 3), (126, .iload_n 1, 1), (127, .iaload, 1)],
   [(128, .aload_n 0, 1), (129, .getfield 21, 3), (132, .getfield 165, 3), (135, .if_icmp .lt 5, 3), (138, .iconst 0, 1), (139, .ireturn, 1), (140, .iinc 1 1, 3), (143, .goto (-48), 3), (146, .iconst 1, 1), (147, .ireturn, 1)]]
def mm_r50 : mm_R := ((yX5_allPartsAreThere, cX5_allPartsAreThere, 2, (some .boolean), 0, false, [(2, 233), (1, 2), (0, 3)], (2, 234)),
   RX5, mm_t50, [(21, 0, 5, 1, 0, [(1, 199)]),
    (28, 0, 5, 2, 0, [(1, 201)]),
    (132, 0, 4, 0, 0, [(1, 59)]),
    (143, 0, 4, 2, 2, [(1, 65)]),
    (149, 0, 4, 3, 0, [(1, 69)]),
    (155, 0, 4, 4, 2, [(1, 73)]),
    (158, 0, 4, 5, 2, [(1, 77)]),
    (165, 0, 4, 6, 0, [(1, 81)]),
    (177, 0, 6, 2, 2, [(1, 165)]),
    (186, 0, 4, 9, 2, [(1, 93)]),
    (237, 1, 51, 5, 0, [(2, 235)])])
-- 51: "RainOrgan$Reader" "isThere"
def mm_t51 : mm_T := [[(0, .iload_n 1, 1), (1, .iconst 5, 1), (2, .if_icmp .ge 20, 3), (5, .iload_n 1, 1), (6, .aload_n 0, 1), (7, .getfield 21, 3), (10, .getfield 149, 3), (13, .if_icmp .ge 7, 3), (16, .iconst 1, 1), (17, .goto 4, 3), (20, .iconst 0, 1), (21, .ireturn, 1), (22, .iload_n 1, 1), (23, .bipush 20, 2), (25, .if_icmp .eq 17, 3), (28, .iload_n 1, 1), (29, .bipush 10, 2), (31, .isub, 1)],
   [(32, .aload_n 0, 1), (33, .getfield 21, 3), (36, .getfield 165, 3), (39, .if_icmp .ge 7, 3), (42, .iconst 1, 1), (43, .goto 4, 3), (46, .iconst 0, 1), (47, .ireturn, 1)]]
def mm_r51 : mm_R := ((yX5_isThere, cX5_isThere, 2, (some .boolean), 1, false, [(2, 237), (1, 2), (0, 4)], (2, 238)),
   RX5, mm_t51, [(21, 0, 5, 1, 0, [(1, 199)]),
    (149, 0, 4, 3, 0, [(1, 69)]),
    (165, 0, 4, 6, 0, [(1, 81)])])
-- 52: "RainOrgan$Setup" "<init>"
def mm_t52 : mm_T := [[(0, .aload_n 0, 1), (1, .invokespecial 3, 3), (4, .aload_n 0, 1), (5, .iconst 5, 1), (6, .newarray .int, 2), (8, .putfield 9, 3), (11, .aload_n 0, 1), (12, .iconst 5, 1), (13, .newarray .int, 2), (15, .putfield 15, 3), (18, .aload_n 0, 1), (19, .bipush 8, 2), (21, .newarray .int, 2), (23, .putfield 18, 3), (26, .aload_n 0, 1), (27, .iconst 3, 1), (28, .newarray .int, 2), (30, .putfield 21, 3)],
   [(33, .aload_n 0, 1), (34, .iconst 3, 1), (35, .bipush 12, 2), (37, .multianewarray 24 2, 4), (41, .putfield 26, 3), (44, .aload_n 0, 1), (45, .bipush 12, 2), (47, .newarray .int, 2), (49, .putfield 29, 3), (52, .return_, 1)]]
def mm_r52 : mm_R := ((yX6_init, cX6_init, 1, none, 0, false, [(1, 151), (1, 5)], (1, 152)),
   RX6, mm_t52, [(3, 6, 0, 0, 0, [(1, 153), (1, 25), (1, 26)]),
    (9, 0, 6, 0, 1, [(1, 156)]),
    (15, 0, 6, 1, 1, [(1, 159)]),
    (18, 0, 6, 2, 1, [(1, 162)]),
    (21, 0, 6, 3, 1, [(1, 166)]),
    (24, 9, 4, 0, 0, [(1, 154), (1, 147)]),
    (26, 0, 6, 4, 1, [(1, 170)]),
    (29, 0, 6, 5, 1, [(1, 174)])])
-- 53: "RainOrgan$Setup" "forget"
def mm_t53 : mm_T := [[(0, .aload_n 0, 1), (1, .getfield 9, 3), (4, .iconst 2, 1), (5, .invokestatic 32, 3), (8, .aload_n 0, 1), (9, .getfield 15, 3), (12, .iconst 0, 1), (13, .invokestatic 32, 3), (16, .aload_n 0, 1), (17, .iconst 0, 1), (18, .putfield 38, 3), (21, .return_, 1)]]
def mm_r53 : mm_R := ((yX6_forget, cX6_forget, 1, none, 0, false, [(2, 209), (1, 5), (2, 210)], (2, 211)),
   RX6, mm_t53, [(9, 0, 6, 0, 2, [(1, 156)]),
    (15, 0, 6, 1, 2, [(1, 159)]),
    (32, 2, 200, 0, 0, [(2, 212)]),
    (38, 0, 6, 6, 0, [(1, 178)])])
-- 54: "RainOrgan$Setup" "copyFrom"
def mm_t54 : mm_T := [[(0, .aload_n 1, 1), (1, .getfield 9, 3), (4, .iconst 0, 1), (5, .aload_n 0, 1), (6, .getfield 9, 3), (9, .iconst 0, 1), (10, .iconst 5, 1), (11, .invokestatic 42, 3), (14, .aload_n 1, 1), (15, .getfield 15, 3), (18, .iconst 0, 1), (19, .aload_n 0, 1), (20, .getfield 15, 3), (23, .iconst 0, 1), (24, .iconst 5, 1), (25, .invokestatic 42, 3), (28, .aload_n 1, 1), (29, .getfield 18, 3)],
   [(32, .iconst 0, 1), (33, .aload_n 0, 1), (34, .getfield 18, 3), (37, .iconst 0, 1), (38, .bipush 8, 2), (40, .invokestatic 42, 3), (43, .aload_n 1, 1), (44, .getfield 21, 3), (47, .iconst 0, 1), (48, .aload_n 0, 1), (49, .getfield 21, 3), (52, .iconst 0, 1), (53, .iconst 3, 1), (54, .invokestatic 42, 3), (57, .iconst 0, 1), (58, .istore_n 2, 1), (59, .iload_n 2, 1), (60, .iconst 3, 1), (61, .if_icmp .ge 28, 3)],
   [(64, .aload_n 1, 1), (65, .getfield 26, 3), (68, .iload_n 2, 1), (69, .aaload, 1), (70, .iconst 0, 1), (71, .aload_n 0, 1), (72, .getfield 26, 3), (75, .iload_n 2, 1), (76, .aaload, 1), (77, .iconst 0, 1), (78, .bipush 12, 2), (80, .invokestatic 42, 3), (83, .iinc 2 1, 3), (86, .goto (-27), 3), (89, .aload_n 1, 1), (90, .getfield 29, 3), (93, .iconst 0, 1), (94, .aload_n 0, 1), (95, .getfield 29, 3)],
   [(98, .iconst 0, 1), (99, .bipush 12, 2), (101, .invokestatic 42, 3), (104, .aload_n 0, 1), (105, .aload_n 1, 1), (106, .getfield 38, 3), (109, .putfield 38, 3), (112, .return_, 1)]]
def mm_r54 : mm_R := ((yX6_copyFrom, cX6_copyFrom, 3, none, 1, false, [(4, 165), (1, 5), (4, 166)], (4, 167)),
   RX6, mm_t54, [(9, 0, 6, 0, 2, [(1, 156)]),
    (15, 0, 6, 1, 2, [(1, 159)]),
    (18, 0, 6, 2, 2, [(1, 162)]),
    (21, 0, 6, 3, 2, [(1, 166)]),
    (26, 0, 6, 4, 2, [(1, 170)]),
    (29, 0, 6, 5, 2, [(1, 174)]),
    (38, 0, 6, 6, 0, [(1, 178)]),
    (42, 12, 0, 0, 0, [(4, 168), (3, 215), (3, 214), (1, 17)])])
-- 55: "RainOrgan$Setup" "pegsAsNumber"
def mm_t55 : mm_T := [[(0, .iconst 0, 1), (1, .istore_n 2, 1), (2, .iload_n 1, 1), (3, .iconst 1, 1), (4, .isub, 1), (5, .istore_n 3, 1), (6, .iload_n 3, 1), (7, .ifCond .lt 20, 3), (10, .iload_n 2, 1), (11, .iconst 3, 1), (12, .imul, 1), (13, .aload_n 0, 1), (14, .getfield 9, 3), (17, .iload_n 3, 1), (18, .iaload, 1), (19, .iadd, 1), (20, .istore_n 2, 1), (21, .iinc 3 (-1), 3), (24, .goto (-18), 3), (27, .iload_n 2, 1), (28, .ireturn, 1)]]
def mm_r55 : mm_R := ((yX6_pegsAsNumber, cX6_pegsAsNumber, 4, (some .int), 1, false, [(3, 195), (1, 5), (3, 196)], (3, 197)),
   RX6, mm_t55, [(9, 0, 6, 0, 2, [(1, 156)])])
-- 56: "RainOrgan$Setup" "setPegs"
def mm_t56 : mm_T := [[(0, .iload_n 2, 1), (1, .istore_n 3, 1), (2, .iconst 0, 1), (3, .istore 4, 2), (5, .iload 4, 2), (7, .iload_n 1, 1), (8, .if_icmp .ge 23, 3), (11, .aload_n 0, 1), (12, .getfield 9, 3), (15, .iload 4, 2), (17, .iload_n 3, 1), (18, .iconst 3, 1), (19, .irem, 1), (20, .iastore, 1), (21, .iload_n 3, 1), (22, .iconst 3, 1), (23, .idiv, 1), (24, .istore_n 3, 1), (25, .iinc 4 1, 3), (28, .goto (-23), 3), (31, .return_, 1)]]
def mm_r56 : mm_R := ((yX6_setPegs, cX6_setPegs, 5, none, 2, false, [(3, 199), (1, 5), (3, 200)], (3, 201)),
   RX6, mm_t56, [(9, 0, 6, 0, 2, [(1, 156)])])
-- 57: "RainOrgan$Sheet" "<init>"
def mm_t57 : mm_T := [[(0, .aload_n 0, 1), (1, .invokespecial 3, 3), (4, .aload_n 0, 1), (5, .bipush 40, 2), (7, .newarray .int, 2), (9, .putfield 9, 3), (12, .aload_n 0, 1), (13, .iconst (-1), 1), (14, .putfield 15, 3), (17, .return_, 1)]]
def mm_r57 : mm_R := ((yX7_init, cX7_init, 1, none, 0, false, [(2, 138), (1, 10)], (2, 139)),
   RX7, mm_t57, [(3, 6, 0, 0, 0, [(2, 140), (1, 25), (1, 26)]),
    (9, 0, 7, 0, 1, [(2, 141)]),
    (15, 0, 7, 2, 0, [(2, 145)])])
-- 58: "RainOrgan$Sheet" "isNothing"
def mm_t58 : mm_T := [[(0, .aload_n 0, 1), (1, .getfield 15, 3), (4, .iconst (-1), 1), (5, .if_icmp .ne 7, 3), (8, .iconst 1, 1), (9, .goto 4, 3), (12, .iconst 0, 1), (13, .ireturn, 1)]]
def mm_r58 : mm_R := ((yX7_isNothing, cX7_isNothing, 1, (some .boolean), 0, false, [(4, 201), (1, 10), (4, 202)], (4, 203)),
   RX7, mm_t58, [(15, 0, 7, 2, 0, [(2, 145)])])
-- 59: "RainOrgan$Sheet" "renew"
def mm_t59 : mm_T := [[(0, .aload_n 0, 1), (1, .getfield 9, 3), (4, .iconst 0, 1), (5, .invokestatic 19, 3), (8, .aload_n 0, 1), (9, .iload_n 1, 1), (10, .putfield 25, 3), (13, .aload_n 0, 1), (14, .iload_n 2, 1), (15, .putfield 15, 3), (18, .return_, 1)]]
def mm_r59 : mm_R := ((yX7_renew, cX7_renew, 3, none, 2, false, [(4, 188), (1, 10), (4, 189)], (4, 190)),
   RX7, mm_t59, [(9, 0, 7, 0, 2, [(2, 141)]),
    (15, 0, 7, 2, 0, [(2, 145)]),
    (19, 2, 200, 0, 0, [(4, 191)]),
    (25, 0, 7, 1, 0, [(2, 143)])])
-- 60: "RainOrgan$Sheet" "faultAt"
def mm_t60 : mm_T := [[(0, .aload_n 0, 1), (1, .invokevirtual 28, 3), (4, .ifCond .eq 5, 3), (7, .iconst 1, 1), (8, .ireturn, 1), (9, .iload_n 1, 1), (10, .aload_n 0, 1), (11, .getfield 25, 3), (14, .if_icmp .eq 5, 3), (17, .iconst 3, 1), (18, .ireturn, 1), (19, .iload_n 2, 1), (20, .ifCond .lt 11, 3), (23, .iload_n 2, 1), (24, .aload_n 0, 1), (25, .getfield 15, 3), (28, .if_icmp .lt 7, 3), (31, .iconst 2, 1)],
   [(32, .goto 4, 3), (35, .iconst 0, 1), (36, .ireturn, 1)]]
def mm_r60 : mm_R := ((yX7_faultAt, cX7_faultAt, 3, (some .int), 2, false, [(4, 197), (1, 10), (4, 198)], (4, 199)),
   RX7, mm_t60, [(15, 0, 7, 2, 0, [(2, 145)]),
    (25, 0, 7, 1, 0, [(2, 143)]),
    (28, 1, 58, 7, 0, [(4, 200)])])
-- 61: "RainOrgan$Sheet" "put"
def mm_t61 : mm_T := [[(0, .aload_n 0, 1), (1, .getfield 25, 3), (4, .ifCond .ne 14, 3), (7, .aload_n 0, 1), (8, .getfield 9, 3), (11, .iload_n 1, 1), (12, .iload_n 2, 1), (13, .i2b, 1), (14, .iastore, 1), (15, .goto 29, 3), (18, .aload_n 0, 1), (19, .getfield 25, 3), (22, .iconst 1, 1), (23, .if_icmp .ne 14, 3), (26, .aload_n 0, 1), (27, .getfield 9, 3), (30, .iload_n 1, 1), (31, .iload_n 2, 1)],
   [(32, .i2s, 1), (33, .iastore, 1), (34, .goto 10, 3), (37, .aload_n 0, 1), (38, .getfield 9, 3), (41, .iload_n 1, 1), (42, .iload_n 2, 1), (43, .iastore, 1), (44, .return_, 1)]]
def mm_r61 : mm_R := ((yX7_put, cX7_put, 3, none, 2, false, [(4, 205), (1, 10), (4, 206)], (4, 207)),
   RX7, mm_t61, [(9, 0, 7, 0, 2, [(2, 141)]),
    (25, 0, 7, 1, 0, [(2, 143)])])
-- 62: "RainOrgan$Tape" "<init>"
def mm_t62 : mm_T := [[(0, .aload_n 0, 1), (1, .invokespecial 3, 3), (4, .aload_n 0, 1), (5, .sipush 320, 3), (8, .newarray .byte, 2), (10, .putfield 9, 3), (13, .return_, 1)]]
def mm_r62 : mm_R := ((yX8_init, cX8_init, 1, none, 0, false, [(1, 36), (1, 3)], (1, 37)),
   RX8, mm_t62, [(3, 6, 0, 0, 0, [(1, 38), (1, 25), (1, 26)]),
    (9, 0, 8, 0, 1, [(1, 39)])])
-- 63: "RainOrgan" "<init>"
def mm_t63 : mm_T := [[(0, .aload_n 0, 1), (1, .invokespecial 1, 3), (4, .aload_n 0, 1), (5, .new 7, 3), (8, .dup, 1), (9, .invokespecial 9, 3), (12, .putfield 10, 3), (15, .aload_n 0, 1), (16, .aload_n 0, 1), (17, .getfield 10, 3), (20, .getfield 16, 3), (23, .putfield 20, 3), (26, .aload_n 0, 1), (27, .new 21, 3), (30, .dup, 1), (31, .invokespecial 23, 3)],
   [(34, .putfield 24, 3), (37, .aload_n 0, 1), (38, .new 28, 3), (41, .dup, 1), (42, .invokespecial 30, 3), (45, .putfield 31, 3), (48, .aload_n 0, 1), (49, .new 35, 3), (52, .dup, 1), (53, .invokespecial 37, 3), (56, .putfield 38, 3), (59, .aload_n 0, 1), (60, .new 42, 3), (63, .dup, 1)],
   [(64, .invokespecial 44, 3), (67, .putfield 45, 3), (70, .aload_n 0, 1), (71, .new 49, 3), (74, .dup, 1), (75, .invokespecial 51, 3), (78, .putfield 52, 3), (81, .aload_n 0, 1), (82, .iconst 2, 1), (83, .anewarray 56, 3), (86, .putfield 58, 3), (89, .aload_n 0, 1), (90, .iconst 4, 1), (91, .anewarray 62, 3), (94, .putfield 64, 3)],
   [(97, .iconst 0, 1), (98, .istore_n 1, 1), (99, .iload_n 1, 1), (100, .iconst 2, 1), (101, .if_icmp .ge 22, 3), (104, .aload_n 0, 1), (105, .getfield 58, 3), (108, .iload_n 1, 1), (109, .new 56, 3), (112, .dup, 1), (113, .invokespecial 68, 3), (116, .aastore, 1), (117, .iinc 1 1, 3), (120, .goto (-21), 3), (123, .iconst 0, 1), (124, .istore_n 1, 1), (125, .iload_n 1, 1), (126, .iconst 4, 1), (127, .if_icmp .ge 22, 3)],
   [(130, .aload_n 0, 1), (131, .getfield 64, 3), (134, .iload_n 1, 1), (135, .new 62, 3), (138, .dup, 1), (139, .invokespecial 69, 3), (142, .aastore, 1), (143, .iinc 1 1, 3), (146, .goto (-21), 3), (149, .return_, 1)]]
def mm_r63 : mm_R := ((yX9_init, cX9_init, 2, none, 0, false, [(1, 22), (1, 1)], (1, 23)),
   RX9, mm_t63, [(1, 6, 0, 0, 0, [(1, 24), (1, 25), (1, 26)]),
    (7, 7, 5, 0, 0, [(1, 27), (1, 28), (1, 2)]),
    (9, 4, 28, 0, 0, []),
    (10, 0, 9, 0, 1, [(2, 154)]),
    (16, 0, 5, 0, 2, [(1, 198)]),
    (20, 0, 9, 1, 1, [(2, 155)]),
    (21, 7, 4, 0, 0, [(1, 233), (1, 51), (1, 4)]),
    (23, 4, 26, 0, 4, []),
    (24, 0, 9, 2, 0, [(2, 156)]),
    (28, 7, 6, 0, 0, [(1, 235), (1, 149), (1, 5)]),
    (30, 4, 52, 0, 5, []),
    (31, 0, 9, 3, 0, [(2, 157)]),
    (35, 7, 2, 0, 0, [(1, 237), (1, 238), (1, 6)]),
    (37, 4, 9, 0, 6, []),
    (38, 0, 9, 4, 1, [(2, 158)]),
    (42, 7, 1, 0, 0, [(2, 51), (2, 52), (1, 7)]),
    (44, 4, 4, 0, 7, []),
    (45, 0, 9, 5, 1, [(2, 159)]),
    (49, 7, 0, 0, 0, [(2, 74), (2, 75), (1, 8)]),
    (51, 4, 0, 0, 9, []),
    (52, 0, 9, 6, 1, [(2, 160)]),
    (56, 7, 3, 0, 0, [(2, 111), (2, 115), (1, 9)]),
    (58, 0, 9, 7, 1, [(2, 161)]),
    (62, 7, 7, 0, 0, [(2, 113), (2, 136), (1, 10)]),
    (64, 0, 9, 8, 1, [(2, 162)]),
    (68, 4, 25, 0, 10, []),
    (69, 4, 57, 0, 13, [])])
-- 64: "RainOrgan" "feed"
def mm_t64 : mm_T := [[(0, .aload_n 0, 1), (1, .getfield 20, 3), (4, .getfield 70, 3), (7, .bipush 8, 2), (9, .iadd, 1), (10, .sipush 320, 3), (13, .if_icmp .le 6, 3), (16, .bipush (-3), 2), (18, .ireturn, 1), (19, .bipush 56, 2), (21, .istore_n 3, 1), (22, .iload_n 3, 1), (23, .ifCond .lt 42, 3), (26, .aload_n 0, 1), (27, .getfield 20, 3), (30, .getfield 76, 3)],
   [(33, .aload_n 0, 1), (34, .getfield 20, 3), (37, .getfield 70, 3), (40, .lload_n 1, 1), (41, .iload_n 3, 1), (42, .lushr, 1), (43, .l2i, 1), (44, .i2b, 1), (45, .bastore, 1), (46, .aload_n 0, 1), (47, .getfield 20, 3), (50, .dup, 1), (51, .getfield 70, 3), (54, .iconst 1, 1), (55, .iadd, 1), (56, .putfield 70, 3), (59, .iinc 3 (-8), 3), (62, .goto (-40), 3)],
   [(65, .aload_n 0, 1), (66, .getfield 20, 3), (69, .getfield 70, 3), (72, .ireturn, 1)]]
def mm_r64 : mm_R := ((yX9_feed, cX9_feed, 4, (some .int), 1, false, [(2, 189), (1, 1), (2, 190)], (2, 191)),
   RX9, mm_t64, [(20, 0, 9, 1, 2, [(2, 155)]),
    (70, 0, 8, 1, 0, [(1, 42)]),
    (76, 0, 8, 0, 2, [(1, 40)])])
-- 65: "RainOrgan" "end"
def mm_t65 : mm_T := [[(0, .iload_n 1, 1), (1, .ifCond .lt 14, 3), (4, .iload_n 1, 1), (5, .aload_n 0, 1), (6, .getfield 20, 3), (9, .getfield 70, 3), (12, .if_icmp .le 5, 3), (15, .iconst (-1), 1), (16, .ireturn, 1), (17, .aload_n 0, 1), (18, .getfield 20, 3), (21, .getfield 70, 3), (24, .istore_n 2, 1), (25, .aload_n 0, 1), (26, .getfield 20, 3), (29, .iload_n 1, 1), (30, .putfield 70, 3)],
   [(33, .iload_n 2, 1), (34, .ireturn, 1)]]
def mm_r65 : mm_R := ((yX9_end, cX9_end, 3, (some .int), 1, false, [(2, 193), (1, 1), (2, 194)], (2, 195)),
   RX9, mm_t65, [(20, 0, 9, 1, 2, [(2, 155)]),
    (70, 0, 8, 1, 0, [(1, 42)])])
-- 66: "RainOrgan" "organ"
def mm_t66 : mm_T := [[(0, .iconst 0, 1), (1, .istore_n 1, 1), (2, .aload_n 0, 1), (3, .getfield 10, 3), (6, .invokevirtual 80, 3), (9, .iload_n 1, 1), (10, .sipush 320, 3), (13, .if_icmp .ge 19, 3), (16, .aload_n 0, 1), (17, .getfield 10, 3), (20, .invokevirtual 83, 3), (23, .ifCond .eq 9, 3), (26, .iinc 1 1, 3), (29, .goto (-20), 3)],
   [(32, .aload_n 0, 1), (33, .getfield 20, 3), (36, .iconst 0, 1), (37, .putfield 70, 3), (40, .aload_n 0, 1), (41, .aload_n 0, 1), (42, .getfield 10, 3), (45, .getfield 87, 3), (48, .putfield 90, 3), (51, .aload_n 0, 1), (52, .getfield 90, 3), (55, .ifCond .eq 14, 3), (58, .bipush (-10), 2), (60, .aload_n 0, 1), (61, .getfield 10, 3)],
   [(64, .getfield 93, 3), (67, .isub, 1), (68, .ireturn, 1), (69, .aload_n 0, 1), (70, .invokevirtual 96, 3), (73, .iload_n 1, 1), (74, .ireturn, 1)]]
def mm_r66 : mm_R := ((yX9_organ, cX9_organ, 2, (some .int), 0, false, [(2, 197), (1, 1), (2, 198)], (2, 199)),
   RX9, mm_t66, [(10, 0, 9, 0, 2, [(2, 154)]),
    (20, 0, 9, 1, 2, [(2, 155)]),
    (70, 0, 8, 1, 0, [(1, 42)]),
    (80, 1, 29, 5, 0, [(2, 200)]),
    (83, 1, 37, 5, 0, [(2, 215)]),
    (87, 0, 5, 3, 0, [(1, 204)]),
    (90, 0, 9, 9, 0, [(2, 163)]),
    (93, 0, 5, 4, 0, [(1, 206)]),
    (96, 1, 67, 9, 0, [(3, 129)])])
-- 67: "RainOrgan" "takeWhatWasRead"
def mm_t67 : mm_T := [[(0, .aload_n 0, 1), (1, .getfield 24, 3), (4, .astore_n 1, 1), (5, .aload_n 0, 1), (6, .getfield 31, 3), (9, .astore_n 2, 1), (10, .aload_n 0, 1), (11, .aload_n 0, 1), (12, .getfield 10, 3), (15, .getfield 99, 3), (18, .putfield 24, 3), (21, .aload_n 0, 1), (22, .aload_n 0, 1), (23, .getfield 10, 3), (26, .getfield 100, 3), (29, .putfield 31, 3)],
   [(32, .aload_n 0, 1), (33, .getfield 10, 3), (36, .aload_n 1, 1), (37, .putfield 99, 3), (40, .aload_n 0, 1), (41, .getfield 10, 3), (44, .aload_n 2, 1), (45, .putfield 100, 3), (48, .aload_n 0, 1), (49, .getfield 38, 3), (52, .invokevirtual 101, 3), (55, .iconst 0, 1), (56, .istore_n 3, 1), (57, .iload_n 3, 1), (58, .iconst 2, 1), (59, .if_icmp .ge 19, 3), (62, .aload_n 0, 1), (63, .getfield 58, 3)],
   [(66, .iload_n 3, 1), (67, .aaload, 1), (68, .iconst 0, 1), (69, .putfield 104, 3), (72, .iinc 3 1, 3), (75, .goto (-18), 3), (78, .return_, 1)]]
def mm_r67 : mm_R := ((yX9_takeWhatWasRead, cX9_takeWhatWasRead, 4, none, 0, false, [(3, 131), (1, 1), (0, 21)], (3, 132)),
   RX9, mm_t67, [(10, 0, 9, 0, 2, [(2, 154)]),
    (24, 0, 9, 2, 0, [(2, 156)]),
    (31, 0, 9, 3, 0, [(2, 157)]),
    (38, 0, 9, 4, 2, [(2, 158)]),
    (58, 0, 9, 7, 2, [(2, 161)]),
    (99, 0, 5, 1, 0, [(1, 200)]),
    (100, 0, 5, 2, 0, [(1, 202)]),
    (101, 1, 10, 2, 0, [(3, 133)]),
    (104, 0, 3, 2, 0, [(2, 128)])])
-- 68: "RainOrgan" "fault"
def mm_t68 : mm_T := [[(0, .aload_n 0, 1), (1, .getfield 90, 3), (4, .ireturn, 1)]]
def mm_r68 : mm_R := ((yX9_fault, cX9_fault, 1, (some .int), 0, false, [(3, 142), (1, 1), (3, 143)], (3, 144)),
   RX9, mm_t68, [(90, 0, 9, 9, 0, [(2, 163)])])
-- 69: "RainOrgan" "rule"
def mm_t69 : mm_T := [[(0, .iload_n 1, 1), (1, .tableswitch 99 0 6 #[43, 51, 59, 67, 75, 83, 91], 43)],
   [(44, .aload_n 0, 1), (45, .getfield 24, 3), (48, .getfield 108, 3), (51, .ireturn, 1), (52, .aload_n 0, 1), (53, .getfield 24, 3), (56, .getfield 111, 3), (59, .ireturn, 1), (60, .aload_n 0, 1), (61, .getfield 24, 3)],
   [(64, .getfield 114, 3), (67, .ireturn, 1), (68, .aload_n 0, 1), (69, .getfield 24, 3), (72, .getfield 117, 3), (75, .ireturn, 1), (76, .aload_n 0, 1), (77, .getfield 31, 3), (80, .getfield 120, 3), (83, .ireturn, 1), (84, .aload_n 0, 1), (85, .getfield 24, 3), (88, .getfield 123, 3), (91, .ireturn, 1), (92, .aload_n 0, 1), (93, .getfield 24, 3)],
   [(96, .getfield 126, 3), (99, .ireturn, 1), (100, .iconst (-1), 1), (101, .ireturn, 1)]]
def mm_r69 : mm_R := ((yX9_rule, cX9_rule, 2, (some .int), 1, false, [(3, 146), (1, 1), (3, 147)], (3, 148)),
   RX9, mm_t69, [(24, 0, 9, 2, 0, [(2, 156)]),
    (31, 0, 9, 3, 0, [(2, 157)]),
    (108, 0, 4, 0, 0, [(1, 58)]),
    (111, 0, 4, 3, 0, [(1, 68)]),
    (114, 0, 4, 6, 0, [(1, 79)]),
    (117, 0, 4, 10, 0, [(1, 95)]),
    (120, 0, 6, 6, 0, [(1, 180)]),
    (123, 0, 4, 11, 0, [(1, 99)]),
    (126, 0, 4, 15, 0, [(1, 111)])])
-- 70: "RainOrgan" "gutter"
def mm_t70 : mm_T := [[(0, .aload_n 0, 1), (1, .iload_n 1, 1), (2, .invokevirtual 129, 3), (5, .ifCond .ne 5, 3), (8, .iconst (-1), 1), (9, .ireturn, 1), (10, .iload_n 2, 1), (11, .tableswitch 69 0 3 #[29, 39, 49, 59], 29)],
   [(40, .aload_n 0, 1), (41, .getfield 24, 3), (44, .getfield 133, 3), (47, .iload_n 1, 1), (48, .iaload, 1), (49, .ireturn, 1), (50, .aload_n 0, 1), (51, .getfield 24, 3), (54, .getfield 137, 3), (57, .iload_n 1, 1), (58, .iaload, 1), (59, .ireturn, 1), (60, .aload_n 0, 1), (61, .getfield 31, 3)],
   [(64, .getfield 140, 3), (67, .iload_n 1, 1), (68, .iaload, 1), (69, .ireturn, 1), (70, .aload_n 0, 1), (71, .getfield 31, 3), (74, .getfield 143, 3), (77, .iload_n 1, 1), (78, .iaload, 1), (79, .ireturn, 1), (80, .iconst (-1), 1), (81, .ireturn, 1)]]
def mm_r70 : mm_R := ((yX9_gutter, cX9_gutter, 3, (some .int), 2, false, [(3, 150), (1, 1), (3, 151)], (3, 152)),
   RX9, mm_t70, [(24, 0, 9, 2, 0, [(2, 156)]),
    (31, 0, 9, 3, 0, [(2, 157)]),
    (129, 1, 103, 9, 0, [(3, 153)]),
    (133, 0, 4, 4, 2, [(1, 72)]),
    (137, 0, 4, 5, 2, [(1, 76)]),
    (140, 0, 6, 0, 2, [(1, 158)]),
    (143, 0, 6, 1, 2, [(1, 161)])])
-- 71: "RainOrgan" "spout"
def mm_t71 : mm_T := [[(0, .aload_n 0, 1), (1, .iload_n 1, 1), (2, .invokevirtual 146, 3), (5, .ifCond .ne 5, 3), (8, .iconst (-1), 1), (9, .ireturn, 1), (10, .aload_n 0, 1), (11, .getfield 31, 3), (14, .getfield 149, 3), (17, .iload_n 1, 1), (18, .iaload, 1), (19, .istore_n 3, 1), (20, .iload_n 2, 1), (21, .tableswitch 152 0 7 #[47, 57, 59, 80, 100, 110, 121, 142], 47)],
   [],
   [(68, .aload_n 0, 1), (69, .getfield 24, 3), (72, .getfield 152, 3), (75, .iload_n 1, 1), (76, .iaload, 1), (77, .ireturn, 1), (78, .iload_n 3, 1), (79, .ireturn, 1), (80, .iload_n 3, 1), (81, .invokestatic 155, 3), (84, .ifCond .eq 15, 3), (87, .aload_n 0, 1), (88, .getfield 24, 3), (91, .getfield 158, 3), (94, .iload_n 1, 1), (95, .iaload, 1)],
   [(96, .goto 4, 3), (99, .iconst 0, 1), (100, .ireturn, 1), (101, .iload_n 3, 1), (102, .iconst 4, 1), (103, .if_icmp .ne 15, 3), (106, .aload_n 0, 1), (107, .getfield 24, 3), (110, .getfield 161, 3), (113, .iload_n 1, 1), (114, .iaload, 1), (115, .goto 5, 3), (118, .bipush (-4), 2), (120, .ireturn, 1), (121, .aload_n 0, 1), (122, .getfield 38, 3), (125, .getfield 164, 3)],
   [(128, .iload_n 1, 1), (129, .iaload, 1), (130, .ireturn, 1), (131, .aload_n 0, 1), (132, .getfield 38, 3), (135, .getfield 167, 3), (138, .iload_n 1, 1), (139, .laload, 1), (140, .l2i, 1), (141, .ireturn, 1), (142, .aload_n 0, 1), (143, .getfield 38, 3), (146, .aload_n 0, 1), (147, .getfield 24, 3), (150, .iload_n 1, 1), (151, .invokevirtual 171, 3), (154, .ifCond .eq 7, 3), (157, .iconst 1, 1), (158, .goto 4, 3)],
   [(161, .iconst 0, 1), (162, .ireturn, 1), (163, .aload_n 0, 1), (164, .getfield 38, 3), (167, .getfield 175, 3), (170, .iload_n 1, 1), (171, .iaload, 1), (172, .ireturn, 1), (173, .iconst (-1), 1), (174, .ireturn, 1)]]
def mm_r71 : mm_R := ((yX9_spout, cX9_spout, 4, (some .int), 2, false, [(3, 158), (1, 1), (3, 159)], (3, 160)),
   RX9, mm_t71, [(24, 0, 9, 2, 0, [(2, 156)]),
    (31, 0, 9, 3, 0, [(2, 157)]),
    (38, 0, 9, 4, 2, [(2, 158)]),
    (146, 1, 104, 9, 0, [(3, 161)]),
    (149, 0, 6, 2, 2, [(1, 163)]),
    (152, 0, 4, 7, 2, [(1, 83)]),
    (155, 2, 110, 9, 0, [(3, 165)]),
    (158, 0, 4, 8, 2, [(1, 87)]),
    (161, 0, 4, 9, 2, [(1, 91)]),
    (164, 0, 2, 0, 2, [(2, 4)]),
    (167, 0, 2, 2, 2, [(2, 7)]),
    (171, 1, 23, 2, 0, [(3, 166)]),
    (175, 0, 2, 3, 2, [(2, 9)])])
-- 72: "RainOrgan" "peg"
def mm_t72 : mm_T := [[(0, .aload_n 0, 1), (1, .iload_n 1, 1), (2, .invokevirtual 129, 3), (5, .ifCond .eq 12, 3), (8, .iload_n 2, 1), (9, .ifCond .lt 8, 3), (12, .iload_n 2, 1), (13, .iconst 2, 1), (14, .if_icmp .le 5, 3), (17, .iconst (-1), 1), (18, .ireturn, 1), (19, .aload_n 0, 1), (20, .getfield 31, 3), (23, .getfield 140, 3), (26, .iload_n 1, 1), (27, .iaload, 1), (28, .istore_n 3, 1), (29, .aload_n 0, 1), (30, .getfield 31, 3)],
   [(33, .getfield 140, 3), (36, .iload_n 1, 1), (37, .iload_n 2, 1), (38, .iastore, 1), (39, .iload_n 3, 1), (40, .ireturn, 1)]]
def mm_r72 : mm_R := ((yX9_peg, cX9_peg, 4, (some .int), 2, false, [(3, 171), (1, 1), (3, 172)], (3, 173)),
   RX9, mm_t72, [(31, 0, 9, 3, 0, [(2, 157)]),
    (129, 1, 103, 9, 0, [(3, 153)]),
    (140, 0, 6, 0, 2, [(1, 158)])])
-- 73: "RainOrgan" "block"
def mm_t73 : mm_T := [[(0, .aload_n 0, 1), (1, .iload_n 1, 1), (2, .invokevirtual 129, 3), (5, .ifCond .ne 5, 3), (8, .iconst (-1), 1), (9, .ireturn, 1), (10, .aload_n 0, 1), (11, .getfield 31, 3), (14, .getfield 143, 3), (17, .iload_n 1, 1), (18, .iaload, 1), (19, .istore_n 3, 1), (20, .aload_n 0, 1), (21, .getfield 31, 3), (24, .getfield 143, 3), (27, .iload_n 1, 1), (28, .iload_n 2, 1), (29, .ifCond .eq 7, 3)],
   [(32, .iconst 1, 1), (33, .goto 4, 3), (36, .iconst 0, 1), (37, .iastore, 1), (38, .iload_n 3, 1), (39, .ireturn, 1)]]
def mm_r73 : mm_R := ((yX9_block, cX9_block, 4, (some .int), 2, false, [(3, 175), (1, 1), (3, 176)], (3, 177)),
   RX9, mm_t73, [(31, 0, 9, 3, 0, [(2, 157)]),
    (129, 1, 103, 9, 0, [(3, 153)]),
    (143, 0, 6, 1, 2, [(1, 161)])])
-- 74: "RainOrgan" "cup"
def mm_t74 : mm_T := [[(0, .aload_n 0, 1), (1, .iload_n 1, 1), (2, .invokevirtual 146, 3), (5, .ifCond .eq 12, 3), (8, .iload_n 2, 1), (9, .ifCond .eq 10, 3), (12, .iload_n 2, 1), (13, .iconst 5, 1), (14, .if_icmp .eq 5, 3), (17, .iconst (-1), 1), (18, .ireturn, 1), (19, .aload_n 0, 1), (20, .getfield 31, 3), (23, .getfield 149, 3), (26, .iload_n 1, 1), (27, .iaload, 1), (28, .istore_n 3, 1), (29, .aload_n 0, 1), (30, .getfield 31, 3)],
   [(33, .getfield 149, 3), (36, .iload_n 1, 1), (37, .iload_n 2, 1), (38, .iastore, 1), (39, .aload_n 0, 1), (40, .getfield 38, 3), (43, .iload_n 1, 1), (44, .invokevirtual 178, 3), (47, .iload_n 3, 1), (48, .ireturn, 1)]]
def mm_r74 : mm_R := ((yX9_cup, cX9_cup, 4, (some .int), 2, false, [(3, 179), (1, 1), (3, 180)], (3, 181)),
   RX9, mm_t74, [(31, 0, 9, 3, 0, [(2, 157)]),
    (38, 0, 9, 4, 2, [(2, 158)]),
    (146, 1, 104, 9, 0, [(3, 161)]),
    (149, 0, 6, 2, 2, [(1, 163)]),
    (178, 1, 22, 2, 0, [(3, 182)])])
-- 75: "RainOrgan" "settings"
def mm_t75 : mm_T := [[(0, .iload_n 1, 1), (1, .ifCond .lt 11, 3), (4, .iload_n 1, 1), (5, .aload_n 0, 1), (6, .invokevirtual 182, 3), (9, .if_icmp .lt 5, 3), (12, .iconst (-1), 1), (13, .ireturn, 1), (14, .aload_n 0, 1), (15, .getfield 31, 3), (18, .aload_n 0, 1), (19, .getfield 24, 3), (22, .getfield 111, 3), (25, .invokevirtual 186, 3), (28, .istore_n 2, 1), (29, .aload_n 0, 1), (30, .getfield 31, 3)],
   [(33, .aload_n 0, 1), (34, .getfield 24, 3), (37, .getfield 111, 3), (40, .iload_n 1, 1), (41, .invokevirtual 190, 3), (44, .iload_n 2, 1), (45, .ireturn, 1)]]
def mm_r75 : mm_R := ((yX9_settings, cX9_settings, 3, (some .int), 1, false, [(3, 187), (1, 1), (3, 188)], (3, 189)),
   RX9, mm_t75, [(24, 0, 9, 2, 0, [(2, 156)]),
    (31, 0, 9, 3, 0, [(2, 157)]),
    (111, 0, 4, 3, 0, [(1, 68)]),
    (182, 1, 114, 9, 0, [(3, 190)]),
    (186, 1, 55, 6, 0, [(3, 194)]),
    (190, 1, 56, 6, 0, [(3, 198)])])
-- 76: "RainOrgan" "rain"
def mm_t76 : mm_T := [[(0, .iload_n 1, 1), (1, .invokestatic 194, 3), (4, .ifCond .ne 5, 3), (7, .iconst (-1), 1), (8, .ireturn, 1), (9, .aload_n 0, 1), (10, .getfield 38, 3), (13, .aload_n 0, 1), (14, .getfield 24, 3), (17, .aload_n 0, 1), (18, .getfield 31, 3), (21, .iload_n 1, 1), (22, .invokevirtual 197, 3), (25, .ireturn, 1)]]
def mm_r76 : mm_R := ((yX9_rain, cX9_rain, 2, (some .int), 1, false, [(3, 203), (1, 1), (3, 204)], (3, 205)),
   RX9, mm_t76, [(24, 0, 9, 2, 0, [(2, 156)]),
    (31, 0, 9, 3, 0, [(2, 157)]),
    (38, 0, 9, 4, 2, [(2, 158)]),
    (194, 2, 109, 9, 0, [(3, 206)]),
    (197, 1, 12, 2, 0, [(3, 209)])])
-- 77: "RainOrgan" "dry"
def mm_t77 : mm_T := [[(0, .aload_n 0, 1), (1, .getfield 38, 3), (4, .getfield 201, 3), (7, .istore_n 1, 1), (8, .aload_n 0, 1), (9, .getfield 38, 3), (12, .invokevirtual 101, 3), (15, .iload_n 1, 1), (16, .ireturn, 1)]]
def mm_r77 : mm_R := ((yX9_dry, cX9_dry, 2, (some .int), 0, false, [(4, 14), (1, 1), (4, 15)], (4, 16)),
   RX9, mm_t77, [(38, 0, 9, 4, 2, [(2, 158)]),
    (101, 1, 10, 2, 0, [(3, 133)]),
    (201, 0, 2, 5, 0, [(2, 13)])])
-- 78: "RainOrgan" "water"
def mm_t78 : mm_T := [[(0, .iload_n 1, 1), (1, .tableswitch 93 0 5 #[39, 47, 55, 63, 74, 85], 39)],
   [(40, .aload_n 0, 1), (41, .getfield 38, 3), (44, .getfield 201, 3), (47, .ireturn, 1), (48, .aload_n 0, 1), (49, .getfield 38, 3), (52, .getfield 204, 3), (55, .ireturn, 1), (56, .aload_n 0, 1), (57, .getfield 38, 3), (60, .getfield 207, 3), (63, .ireturn, 1)],
   [(64, .aload_n 0, 1), (65, .getfield 38, 3), (68, .getfield 164, 3), (71, .invokestatic 210, 3), (74, .ireturn, 1), (75, .aload_n 0, 1), (76, .getfield 38, 3), (79, .getfield 175, 3), (82, .invokestatic 210, 3), (85, .ireturn, 1), (86, .aload_n 0, 1), (87, .getfield 38, 3), (90, .getfield 214, 3), (93, .ireturn, 1), (94, .iconst (-1), 1), (95, .ireturn, 1)]]
def mm_r78 : mm_R := ((yX9_water, cX9_water, 2, (some .int), 1, false, [(4, 18), (1, 1), (4, 19)], (4, 20)),
   RX9, mm_t78, [(38, 0, 9, 4, 2, [(2, 158)]),
    (164, 0, 2, 0, 2, [(2, 4)]),
    (175, 0, 2, 3, 2, [(2, 9)]),
    (201, 0, 2, 5, 0, [(2, 13)]),
    (204, 0, 2, 6, 0, [(2, 15)]),
    (207, 0, 2, 7, 0, [(2, 17)]),
    (210, 2, 111, 9, 0, [(4, 21)]),
    (214, 0, 2, 8, 0, [(2, 20)])])
-- 79: "RainOrgan" "loud"
def mm_t79 : mm_T := [[(0, .aload_n 0, 1), (1, .iload_n 1, 1), (2, .invokevirtual 146, 3), (5, .ifCond .eq 15, 3), (8, .aload_n 0, 1), (9, .getfield 38, 3), (12, .getfield 217, 3), (15, .iload_n 1, 1), (16, .iaload, 1), (17, .goto 4, 3), (20, .iconst (-1), 1), (21, .ireturn, 1)]]
def mm_r79 : mm_R := ((yX9_loud, cX9_loud, 2, (some .int), 1, false, [(4, 25), (1, 1), (4, 26)], (4, 27)),
   RX9, mm_t79, [(38, 0, 9, 4, 2, [(2, 158)]),
    (146, 1, 104, 9, 0, [(3, 161)]),
    (217, 0, 2, 4, 2, [(2, 11)])])
-- 80: "RainOrgan" "shower"
def mm_t80 : mm_T := [[(0, .aload_n 0, 1), (1, .iload_n 1, 1), (2, .invokevirtual 220, 3), (5, .ifCond .eq 21, 3), (8, .iload_n 2, 1), (9, .iconst (-1), 1), (10, .if_icmp .lt 16, 3), (13, .iload_n 2, 1), (14, .aload_n 0, 1), (15, .getfield 31, 3), (18, .getfield 223, 3), (21, .iload_n 1, 1), (22, .iaload, 1), (23, .if_icmp .lt 5, 3), (26, .iconst (-1), 1), (27, .ireturn, 1), (28, .iload_n 2, 1), (29, .iconst (-1), 1), (30, .if_icmp .ne 15, 3)],
   [(33, .aload_n 0, 1), (34, .getfield 31, 3), (37, .getfield 223, 3), (40, .iload_n 1, 1), (41, .iaload, 1), (42, .goto 14, 3), (45, .aload_n 0, 1), (46, .getfield 31, 3), (49, .getfield 226, 3), (52, .iload_n 1, 1), (53, .aaload, 1), (54, .iload_n 2, 1), (55, .iaload, 1), (56, .ireturn, 1)]]
def mm_r80 : mm_R := ((yX9_shower, cX9_shower, 3, (some .int), 2, false, [(4, 29), (1, 1), (4, 30)], (4, 31)),
   RX9, mm_t80, [(31, 0, 9, 3, 0, [(2, 157)]),
    (220, 1, 105, 9, 0, [(4, 32)]),
    (223, 0, 6, 3, 2, [(1, 169)]),
    (226, 0, 6, 4, 2, [(1, 173)])])
-- 81: "RainOrgan" "plays"
def mm_t81 : mm_T := [[(0, .aload_n 0, 1), (1, .iload_n 1, 1), (2, .invokevirtual 220, 3), (5, .ifCond .eq 20, 3), (8, .iload_n 2, 1), (9, .ifCond .lt 16, 3), (12, .iload_n 2, 1), (13, .aload_n 0, 1), (14, .getfield 31, 3), (17, .getfield 223, 3), (20, .iload_n 1, 1), (21, .iaload, 1), (22, .if_icmp .lt 5, 3), (25, .iconst (-1), 1), (26, .ireturn, 1), (27, .aload_n 0, 1), (28, .getfield 45, 3), (31, .aload_n 0, 1)],
   [(32, .getfield 24, 3), (35, .aload_n 0, 1), (36, .getfield 31, 3), (39, .iload_n 1, 1), (40, .invokevirtual 230, 3), (43, .aload_n 0, 1), (44, .getfield 45, 3), (47, .getfield 234, 3), (50, .iload_n 2, 1), (51, .iaload, 1), (52, .ireturn, 1)]]
def mm_r81 : mm_R := ((yX9_plays, cX9_plays, 3, (some .int), 2, false, [(4, 37), (1, 1), (4, 38)], (4, 39)),
   RX9, mm_t81, [(24, 0, 9, 2, 0, [(2, 156)]),
    (31, 0, 9, 3, 0, [(2, 157)]),
    (45, 0, 9, 5, 2, [(2, 159)]),
    (220, 1, 105, 9, 0, [(4, 32)]),
    (223, 0, 6, 3, 2, [(1, 169)]),
    (230, 1, 5, 1, 0, [(4, 40)]),
    (234, 0, 1, 1, 2, [(2, 62)])])
-- 82: "RainOrgan" "falls"
def mm_t82 : mm_T := [[(0, .aload_n 0, 1), (1, .iload_n 1, 1), (2, .invokevirtual 220, 3), (5, .ifCond .eq 13, 3), (8, .iload_n 2, 1), (9, .ifCond .lt 9, 3), (12, .iload_n 2, 1), (13, .bipush 7, 2), (15, .if_icmp .le 5, 3), (18, .iconst (-1), 1), (19, .ireturn, 1), (20, .aload_n 0, 1), (21, .getfield 45, 3), (24, .aload_n 0, 1), (25, .getfield 24, 3), (28, .aload_n 0, 1), (29, .getfield 31, 3)],
   [(32, .iload_n 1, 1), (33, .invokevirtual 230, 3), (36, .aload_n 0, 1), (37, .getfield 45, 3), (40, .getfield 235, 3), (43, .astore_n 3, 1), (44, .iload_n 2, 1), (45, .tableswitch 91 0 6 #[43, 48, 53, 61, 69, 74, 82], 43)],
   [(88, .aload_n 3, 1), (89, .getfield 204, 3), (92, .ireturn, 1), (93, .aload_n 3, 1), (94, .getfield 207, 3)],
   [(97, .ireturn, 1), (98, .aload_n 3, 1), (99, .getfield 164, 3), (102, .invokestatic 210, 3), (105, .ireturn, 1), (106, .aload_n 3, 1), (107, .getfield 175, 3), (110, .invokestatic 210, 3), (113, .ireturn, 1), (114, .aload_n 3, 1), (115, .getfield 214, 3), (118, .ireturn, 1), (119, .aload_n 0, 1), (120, .getfield 45, 3), (123, .invokevirtual 238, 3), (126, .ireturn, 1), (127, .aload_n 3, 1)],
   [(128, .aload_n 0, 1), (129, .getfield 24, 3), (132, .invokevirtual 241, 3), (135, .ireturn, 1), (136, .aload_n 0, 1), (137, .invokevirtual 245, 3), (140, .aload_n 3, 1), (141, .getfield 248, 3), (144, .iconst (-1), 1), (145, .ixor, 1), (146, .iand, 1), (147, .ireturn, 1)]]
def mm_r82 : mm_R := ((yX9_falls, cX9_falls, 4, (some .int), 2, false, [(4, 47), (1, 1), (4, 48)], (4, 49)),
   RX9, mm_t82, [(24, 0, 9, 2, 0, [(2, 156)]),
    (31, 0, 9, 3, 0, [(2, 157)]),
    (45, 0, 9, 5, 2, [(2, 159)]),
    (164, 0, 2, 0, 2, [(2, 4)]),
    (175, 0, 2, 3, 2, [(2, 9)]),
    (204, 0, 2, 6, 0, [(2, 15)]),
    (207, 0, 2, 7, 0, [(2, 17)]),
    (210, 2, 111, 9, 0, [(4, 21)]),
    (214, 0, 2, 8, 0, [(2, 20)]),
    (220, 1, 105, 9, 0, [(4, 32)]),
    (230, 1, 5, 1, 0, [(4, 40)]),
    (235, 0, 1, 0, 2, [(2, 60)]),
    (238, 1, 7, 1, 0, [(4, 50)]),
    (241, 1, 24, 2, 0, [(4, 54)]),
    (245, 1, 112, 9, 0, [(4, 58)]),
    (248, 0, 2, 9, 0, [(2, 22)])])
-- 83: "RainOrgan" "tune"
def mm_t83 : mm_T := [[(0, .iload_n 1, 1), (1, .ifCond .lt 26, 3), (4, .iload_n 1, 1), (5, .aload_n 0, 1), (6, .getfield 31, 3), (9, .getfield 120, 3), (12, .if_icmp .ge 15, 3), (15, .aload_n 0, 1), (16, .getfield 31, 3), (19, .getfield 251, 3), (22, .iload_n 1, 1), (23, .iaload, 1), (24, .goto 4, 3), (27, .iconst (-1), 1), (28, .ireturn, 1)]]
def mm_r83 : mm_R := ((yX9_tune, cX9_tune, 2, (some .int), 1, false, [(4, 63), (1, 1), (4, 64)], (4, 65)),
   RX9, mm_t83, [(31, 0, 9, 3, 0, [(2, 157)]),
    (120, 0, 6, 6, 0, [(1, 180)]),
    (251, 0, 6, 5, 2, [(1, 177)])])
-- 84: "RainOrgan" "tells"
def mm_t84 : mm_T := [[(0, .iload_n 1, 1), (1, .ifCond .lt 25, 3), (4, .iload_n 1, 1), (5, .aload_n 0, 1), (6, .getfield 31, 3), (9, .getfield 120, 3), (12, .if_icmp .gt 14, 3), (15, .iload_n 2, 1), (16, .ifCond .lt 10, 3), (19, .iload_n 2, 1), (20, .sipush 255, 3), (23, .if_icmp .le 5, 3), (26, .iconst (-1), 1), (27, .ireturn, 1), (28, .iload_n 1, 1), (29, .bipush 12, 2), (31, .if_icmp .lt 6, 3)],
   [(34, .bipush (-3), 2), (36, .ireturn, 1), (37, .aload_n 0, 1), (38, .getfield 31, 3), (41, .getfield 251, 3), (44, .iload_n 1, 1), (45, .iload_n 2, 1), (46, .iastore, 1), (47, .iload_n 1, 1), (48, .aload_n 0, 1), (49, .getfield 31, 3), (52, .getfield 120, 3), (55, .if_icmp .ne 16, 3), (58, .aload_n 0, 1), (59, .getfield 31, 3), (62, .dup, 1), (63, .getfield 120, 3)],
   [(66, .iconst 1, 1), (67, .iadd, 1), (68, .putfield 120, 3), (71, .aload_n 0, 1), (72, .getfield 31, 3), (75, .getfield 120, 3), (78, .ireturn, 1)]]
def mm_r84 : mm_R := ((yX9_tells, cX9_tells, 3, (some .int), 2, false, [(4, 67), (1, 1), (4, 68)], (4, 69)),
   RX9, mm_t84, [(31, 0, 9, 3, 0, [(2, 157)]),
    (120, 0, 6, 6, 0, [(1, 180)]),
    (251, 0, 6, 5, 2, [(1, 177)])])
-- 85: "RainOrgan" "far"
def mm_t85 : mm_T := [[(0, .aload_n 0, 1), (1, .iload_n 1, 1), (2, .invokevirtual 220, 3), (5, .ifCond .eq 11, 3), (8, .aload_n 0, 1), (9, .iload_n 1, 1), (10, .invokevirtual 254, 3), (13, .goto 4, 3), (16, .iconst (-1), 1), (17, .ireturn, 1)]]
def mm_r85 : mm_R := ((yX9_far, cX9_far, 2, (some .int), 1, false, [(4, 71), (1, 1), (4, 72)], (4, 73)),
   RX9, mm_t85, [(220, 1, 105, 9, 0, [(4, 32)]),
    (254, 1, 115, 9, 0, [(4, 74)])])
-- 86: "RainOrgan" "best"
def mm_t86 : mm_T := [[(0, .aload_n 0, 1), (1, .iload_n 1, 1), (2, .invokevirtual 220, 3), (5, .ifCond .eq 12, 3), (8, .iload_n 2, 1), (9, .ifCond .lt 8, 3), (12, .iload_n 2, 1), (13, .iconst 2, 1), (14, .if_icmp .le 5, 3), (17, .iconst (-1), 1), (18, .ireturn, 1), (19, .aload_n 0, 1), (20, .iload_n 1, 1), (21, .iconst 0, 1), (22, .invokevirtual 257, 3), (25, .iload_n 2, 1), (26, .lookupswitch 42 #[(0, 26), (1, 34)], 26)],
   [(52, .aload_n 0, 1), (53, .getfield 52, 3), (56, .getfield 261, 3), (59, .ireturn, 1), (60, .aload_n 0, 1), (61, .getfield 52, 3)],
   [(64, .getfield 264, 3), (67, .ireturn, 1), (68, .aload_n 0, 1), (69, .getfield 52, 3), (72, .getfield 267, 3), (75, .ireturn, 1)]]
def mm_r86 : mm_R := ((yX9_best, cX9_best, 3, (some .int), 2, false, [(4, 89), (1, 1), (4, 90)], (4, 91)),
   RX9, mm_t86, [(52, 0, 9, 6, 2, [(2, 160)]),
    (220, 1, 105, 9, 0, [(4, 32)]),
    (257, 1, 116, 9, 0, [(4, 92)]),
    (261, 0, 0, 0, 0, [(2, 81)]),
    (264, 0, 0, 1, 0, [(2, 83)]),
    (267, 0, 0, 2, 0, [(2, 85)])])
-- 87: "RainOrgan" "fewest"
def mm_t87 : mm_T := [[(0, .aload_n 0, 1), (1, .iload_n 1, 1), (2, .invokevirtual 220, 3), (5, .ifCond .eq 12, 3), (8, .iload_n 2, 1), (9, .ifCond .lt 8, 3), (12, .iload_n 2, 1), (13, .iconst 1, 1), (14, .if_icmp .le 5, 3), (17, .iconst (-1), 1), (18, .ireturn, 1), (19, .aload_n 0, 1), (20, .iload_n 1, 1), (21, .iconst 0, 1), (22, .invokevirtual 257, 3), (25, .iload_n 2, 1), (26, .ifCond .ne 13, 3), (29, .aload_n 0, 1), (30, .getfield 52, 3)],
   [(33, .getfield 270, 3), (36, .goto 10, 3), (39, .aload_n 0, 1), (40, .getfield 52, 3), (43, .getfield 273, 3), (46, .ireturn, 1)]]
def mm_r87 : mm_R := ((yX9_fewest, cX9_fewest, 3, (some .int), 2, false, [(4, 113), (1, 1), (4, 114)], (4, 115)),
   RX9, mm_t87, [(52, 0, 9, 6, 2, [(2, 160)]),
    (220, 1, 105, 9, 0, [(4, 32)]),
    (257, 1, 116, 9, 0, [(4, 92)]),
    (270, 0, 0, 4, 0, [(2, 89)]),
    (273, 0, 0, 5, 0, [(2, 91)])])
-- 88: "RainOrgan" "all"
def mm_t88 : mm_T := [[(0, .iload_n 1, 1), (1, .ifCond .lt 8, 3), (4, .iload_n 1, 1), (5, .iconst 1, 1), (6, .if_icmp .le 5, 3), (9, .iconst (-1), 1), (10, .ireturn, 1), (11, .aload_n 0, 1), (12, .getfield 24, 3), (15, .getfield 117, 3), (18, .ifCond .ne 6, 3), (21, .bipush (-2), 2), (23, .ireturn, 1), (24, .aload_n 0, 1), (25, .invokevirtual 276, 3), (28, .iload_n 1, 1), (29, .ifCond .ne 13, 3)],
   [(32, .aload_n 0, 1), (33, .getfield 52, 3), (36, .getfield 261, 3), (39, .goto 10, 3), (42, .aload_n 0, 1), (43, .getfield 52, 3), (46, .getfield 264, 3), (49, .ireturn, 1)]]
def mm_r88 : mm_R := ((yX9_all, cX9_all, 2, (some .int), 1, false, [(4, 117), (1, 1), (4, 118)], (4, 119)),
   RX9, mm_t88, [(24, 0, 9, 2, 0, [(2, 156)]),
    (52, 0, 9, 6, 2, [(2, 160)]),
    (117, 0, 4, 10, 0, [(1, 95)]),
    (261, 0, 0, 0, 0, [(2, 81)]),
    (264, 0, 0, 1, 0, [(2, 83)]),
    (276, 1, 117, 9, 0, [(4, 120)])])
-- 89: "RainOrgan" "quiet"
def mm_t89 : mm_T := [[(0, .aload_n 0, 1), (1, .iload_n 1, 1), (2, .invokevirtual 220, 3), (5, .ifCond .eq 12, 3), (8, .iload_n 2, 1), (9, .ifCond .lt 8, 3), (12, .iload_n 2, 1), (13, .iconst 2, 1), (14, .if_icmp .le 5, 3), (17, .iconst (-1), 1), (18, .ireturn, 1), (19, .aload_n 0, 1), (20, .iload_n 1, 1), (21, .iconst 1, 1), (22, .invokevirtual 257, 3), (25, .iload_n 2, 1), (26, .iconst 2, 1), (27, .if_icmp .ne 11, 3), (30, .aload_n 0, 1), (31, .getfield 52, 3)],
   [(34, .getfield 279, 3), (37, .ireturn, 1), (38, .aload_n 0, 1), (39, .getfield 52, 3), (42, .getfield 279, 3), (45, .ifCond .ne 6, 3), (48, .bipush (-4), 2), (50, .ireturn, 1), (51, .iload_n 2, 1), (52, .ifCond .ne 13, 3), (55, .aload_n 0, 1), (56, .getfield 52, 3), (59, .getfield 261, 3), (62, .goto 10, 3)],
   [(65, .aload_n 0, 1), (66, .getfield 52, 3), (69, .getfield 264, 3), (72, .ireturn, 1)]]
def mm_r89 : mm_R := ((yX9_quiet, cX9_quiet, 3, (some .int), 2, false, [(4, 125), (1, 1), (4, 126)], (4, 127)),
   RX9, mm_t89, [(52, 0, 9, 6, 2, [(2, 160)]),
    (220, 1, 105, 9, 0, [(4, 32)]),
    (257, 1, 116, 9, 0, [(4, 92)]),
    (261, 0, 0, 0, 0, [(2, 81)]),
    (264, 0, 0, 1, 0, [(2, 83)]),
    (279, 0, 0, 3, 0, [(2, 87)])])
-- 90: "RainOrgan" "woken"
def mm_t90 : mm_T := [[(0, .aload_n 0, 1), (1, .iload_n 1, 1), (2, .invokevirtual 220, 3), (5, .ifCond .ne 5, 3), (8, .iconst (-1), 1), (9, .ireturn, 1), (10, .aload_n 0, 1), (11, .getfield 45, 3), (14, .aload_n 0, 1), (15, .getfield 24, 3), (18, .aload_n 0, 1), (19, .getfield 31, 3), (22, .iload_n 1, 1), (23, .invokevirtual 230, 3), (26, .aload_n 0, 1), (27, .getfield 45, 3), (30, .aload_n 0, 1), (31, .getfield 24, 3)],
   [(34, .invokevirtual 282, 3), (37, .ireturn, 1)]]
def mm_r90 : mm_R := ((yX9_woken, cX9_woken, 2, (some .int), 1, false, [(4, 129), (1, 1), (4, 130)], (4, 131)),
   RX9, mm_t90, [(24, 0, 9, 2, 0, [(2, 156)]),
    (31, 0, 9, 3, 0, [(2, 157)]),
    (45, 0, 9, 5, 2, [(2, 159)]),
    (220, 1, 105, 9, 0, [(4, 32)]),
    (230, 1, 5, 1, 0, [(4, 40)]),
    (282, 1, 8, 1, 0, [(4, 100)])])
-- 91: "RainOrgan" "heard"
def mm_t91 : mm_T := [[(0, .iload_n 1, 1), (1, .ifCond .lt 8, 3), (4, .iload_n 1, 1), (5, .iconst 1, 1), (6, .if_icmp .le 5, 3), (9, .iconst (-1), 1), (10, .ireturn, 1), (11, .aload_n 0, 1), (12, .getfield 31, 3), (15, .getfield 120, 3), (18, .istore_n 2, 1), (19, .iload_n 2, 1), (20, .iconst 1, 1), (21, .if_icmp .lt 8, 3), (24, .iload_n 2, 1), (25, .iconst 5, 1), (26, .if_icmp .le 6, 3), (29, .bipush (-2), 2), (31, .ireturn, 1)],
   [(32, .iconst 0, 1), (33, .istore_n 3, 1), (34, .bipush (-4), 2), (36, .istore 4, 2), (38, .iconst 1, 1), (39, .iconst 2, 1), (40, .iload_n 2, 1), (41, .imul, 1), (42, .ishl, 1), (43, .istore 5, 2), (45, .iconst 0, 1), (46, .istore 6, 2), (48, .iload 6, 2), (50, .iload 5, 2), (52, .if_icmp .ge 37, 3), (55, .aload_n 0, 1), (56, .iload 6, 2), (58, .invokevirtual 285, 3), (61, .ifCond .eq 22, 3)],
   [(64, .iinc 3 1, 3), (67, .iload 4, 2), (69, .bipush (-4), 2), (71, .if_icmp .ne 8, 3), (74, .iload 6, 2), (76, .goto 5, 3), (79, .iload 4, 2), (81, .istore 4, 2), (83, .iinc 6 1, 3), (86, .goto (-38), 3), (89, .iload_n 1, 1), (90, .ifCond .ne 7, 3), (93, .iload_n 3, 1), (94, .goto 5, 3)],
   [(97, .iload 4, 2), (99, .ireturn, 1)]]
def mm_r91 : mm_R := ((yX9_heard, cX9_heard, 7, (some .int), 1, false, [(4, 133), (1, 1), (4, 134)], (4, 135)),
   RX9, mm_t91, [(31, 0, 9, 3, 0, [(2, 157)]),
    (120, 0, 6, 6, 0, [(1, 180)]),
    (285, 1, 118, 9, 0, [(4, 136)])])
-- 92: "RainOrgan" "blocked"
def mm_t92 : mm_T := [[(0, .aload_n 0, 1), (1, .iload_n 1, 1), (2, .invokevirtual 220, 3), (5, .ifCond .ne 5, 3), (8, .iconst (-1), 1), (9, .ireturn, 1), (10, .aload_n 0, 1), (11, .iload_n 1, 1), (12, .invokevirtual 254, 3), (15, .ifCond .ne 8, 3), (18, .bipush 32, 2), (20, .goto 4, 3), (23, .iconst 0, 1), (24, .istore_n 2, 1), (25, .iconst 0, 1), (26, .istore_n 3, 1), (27, .iload_n 3, 1), (28, .aload_n 0, 1), (29, .getfield 24, 3)],
   [(32, .getfield 111, 3), (35, .if_icmp .ge 59, 3), (38, .aload_n 0, 1), (39, .getfield 31, 3), (42, .getfield 143, 3), (45, .iload_n 3, 1), (46, .iaload, 1), (47, .ifCond .ne 41, 3), (50, .aload_n 0, 1), (51, .getfield 31, 3), (54, .getfield 143, 3), (57, .iload_n 3, 1), (58, .iconst 1, 1), (59, .iastore, 1), (60, .iload_n 2, 1), (61, .aload_n 0, 1), (62, .iload_n 1, 1), (63, .invokevirtual 254, 3)],
   [(66, .ifCond .ne 9, 3), (69, .iconst 1, 1), (70, .iload_n 3, 1), (71, .ishl, 1), (72, .goto 4, 3), (75, .iconst 0, 1), (76, .ior, 1), (77, .istore_n 2, 1), (78, .aload_n 0, 1), (79, .getfield 31, 3), (82, .getfield 143, 3), (85, .iload_n 3, 1), (86, .iconst 0, 1), (87, .iastore, 1), (88, .iinc 3 1, 3), (91, .goto (-64), 3), (94, .iload_n 2, 1), (95, .ireturn, 1)]]
def mm_r92 : mm_R := ((yX9_blocked, cX9_blocked, 4, (some .int), 1, false, [(4, 141), (1, 1), (4, 142)], (4, 143)),
   RX9, mm_t92, [(24, 0, 9, 2, 0, [(2, 156)]),
    (31, 0, 9, 3, 0, [(2, 157)]),
    (111, 0, 4, 3, 0, [(1, 68)]),
    (143, 0, 6, 1, 2, [(1, 161)]),
    (220, 1, 105, 9, 0, [(4, 32)]),
    (254, 1, 115, 9, 0, [(4, 74)])])
-- 93: "RainOrgan" "frozen"
def mm_t93 : mm_T := [[(0, .aload_n 0, 1), (1, .iload_n 1, 1), (2, .invokevirtual 220, 3), (5, .ifCond .ne 5, 3), (8, .iconst (-1), 1), (9, .ireturn, 1), (10, .iconst 0, 1), (11, .istore_n 2, 1), (12, .iconst 0, 1), (13, .istore_n 3, 1), (14, .iload_n 3, 1), (15, .aload_n 0, 1), (16, .getfield 24, 3), (19, .getfield 114, 3), (22, .if_icmp .ge 65, 3), (25, .aload_n 0, 1), (26, .getfield 31, 3), (29, .getfield 149, 3)],
   [(32, .iload_n 3, 1), (33, .iaload, 1), (34, .istore 4, 2), (36, .iload 4, 2), (38, .iconst 5, 1), (39, .if_icmp .eq 42, 3), (42, .aload_n 0, 1), (43, .getfield 31, 3), (46, .getfield 149, 3), (49, .iload_n 3, 1), (50, .iconst 5, 1), (51, .iastore, 1), (52, .iload_n 2, 1), (53, .aload_n 0, 1), (54, .iload_n 1, 1), (55, .invokevirtual 254, 3), (58, .ifCond .ne 9, 3), (61, .iconst 1, 1), (62, .iload_n 3, 1), (63, .ishl, 1)],
   [(64, .goto 4, 3), (67, .iconst 0, 1), (68, .ior, 1), (69, .istore_n 2, 1), (70, .aload_n 0, 1), (71, .getfield 31, 3), (74, .getfield 149, 3), (77, .iload_n 3, 1), (78, .iload 4, 2), (80, .iastore, 1), (81, .iinc 3 1, 3), (84, .goto (-70), 3), (87, .iload_n 2, 1), (88, .ireturn, 1)]]
def mm_r93 : mm_R := ((yX9_frozen, cX9_frozen, 5, (some .int), 1, false, [(4, 145), (1, 1), (4, 146)], (4, 147)),
   RX9, mm_t93, [(24, 0, 9, 2, 0, [(2, 156)]),
    (31, 0, 9, 3, 0, [(2, 157)]),
    (114, 0, 4, 6, 0, [(1, 79)]),
    (149, 0, 6, 2, 2, [(1, 163)]),
    (220, 1, 105, 9, 0, [(4, 32)]),
    (254, 1, 115, 9, 0, [(4, 74)])])
-- 94: "RainOrgan" "lasts"
def mm_t94 : mm_T := [[(0, .aload_n 0, 1), (1, .iload_n 1, 1), (2, .invokevirtual 220, 3), (5, .ifCond .eq 11, 3), (8, .aload_n 0, 1), (9, .iload_n 2, 1), (10, .invokevirtual 146, 3), (13, .ifCond .ne 5, 3), (16, .iconst (-1), 1), (17, .ireturn, 1), (18, .aload_n 0, 1), (19, .getfield 45, 3), (22, .getfield 235, 3), (25, .astore_n 3, 1), (26, .aload_n 3, 1), (27, .invokevirtual 101, 3), (30, .iconst 1, 1), (31, .istore 4, 2)],
   [(33, .iload 4, 2), (35, .bipush 99, 2), (37, .if_icmp .gt 72, 3), (40, .iconst 0, 1), (41, .istore 5, 2), (43, .iload 5, 2), (45, .aload_n 0, 1), (46, .getfield 31, 3), (49, .getfield 223, 3), (52, .iload_n 1, 1), (53, .iaload, 1), (54, .if_icmp .ge 34, 3), (57, .aload_n 3, 1), (58, .aload_n 0, 1), (59, .getfield 24, 3), (62, .aload_n 0, 1), (63, .getfield 31, 3)],
   [(66, .aload_n 0, 1), (67, .getfield 31, 3), (70, .getfield 226, 3), (73, .iload_n 1, 1), (74, .aaload, 1), (75, .iload 5, 2), (77, .iaload, 1), (78, .invokevirtual 197, 3), (81, .pop, 1), (82, .iinc 5 1, 3), (85, .goto (-42), 3), (88, .aload_n 3, 1), (89, .aload_n 0, 1), (90, .getfield 24, 3), (93, .iload_n 2, 1), (94, .invokevirtual 171, 3)],
   [(97, .ifCond .eq 6, 3), (100, .iload 4, 2), (102, .ireturn, 1), (103, .iinc 4 1, 3), (106, .goto (-73), 3), (109, .bipush (-4), 2), (111, .ireturn, 1)]]
def mm_r94 : mm_R := ((yX9_lasts, cX9_lasts, 6, (some .int), 2, false, [(4, 149), (1, 1), (4, 150)], (4, 151)),
   RX9, mm_t94, [(24, 0, 9, 2, 0, [(2, 156)]),
    (31, 0, 9, 3, 0, [(2, 157)]),
    (45, 0, 9, 5, 2, [(2, 159)]),
    (101, 1, 10, 2, 0, [(3, 133)]),
    (146, 1, 104, 9, 0, [(3, 161)]),
    (171, 1, 23, 2, 0, [(3, 166)]),
    (197, 1, 12, 2, 0, [(3, 209)]),
    (220, 1, 105, 9, 0, [(4, 32)]),
    (223, 0, 6, 3, 2, [(1, 169)]),
    (226, 0, 6, 4, 2, [(1, 173)]),
    (235, 0, 1, 0, 2, [(2, 60)])])
-- 95: "RainOrgan" "draws"
def mm_t95 : mm_T := [[(0, .aload_n 0, 1), (1, .iload_n 1, 1), (2, .invokevirtual 220, 3), (5, .ifCond .eq 25, 3), (8, .iload_n 2, 1), (9, .iconst 1, 1), (10, .if_icmp .lt 20, 3), (13, .iload_n 2, 1), (14, .bipush 12, 2), (16, .if_icmp .gt 14, 3), (19, .iload_n 3, 1), (20, .iconst 1, 1), (21, .if_icmp .lt 9, 3), (24, .iload_n 3, 1), (25, .bipush 10, 2), (27, .if_icmp .le 5, 3), (30, .iconst (-1), 1), (31, .ireturn, 1)],
   [(32, .iload 4, 2), (34, .istore 5, 2), (36, .iconst 0, 1), (37, .istore 6, 2), (39, .iconst 0, 1), (40, .istore 7, 2), (42, .iload 7, 2), (44, .iload_n 2, 1), (45, .if_icmp .ge 55, 3), (48, .iload 5, 2), (50, .ldc_w 288, 3), (53, .imul, 1), (54, .sipush 12345, 3), (57, .iadd, 1), (58, .istore 5, 2), (60, .iload 5, 2), (62, .bipush 16, 2)],
   [(64, .iushr, 1), (65, .sipush 32767, 3), (68, .iand, 1), (69, .iload_n 3, 1), (70, .irem, 1), (71, .istore 8, 2), (73, .aload_n 0, 1), (74, .getfield 31, 3), (77, .getfield 226, 3), (80, .iload_n 1, 1), (81, .aaload, 1), (82, .iload 7, 2), (84, .iload 8, 2), (86, .iastore, 1), (87, .iload 6, 2), (89, .iload 8, 2), (91, .iadd, 1), (92, .istore 6, 2), (94, .iinc 7 1, 3)],
   [(97, .goto (-55), 3), (100, .aload_n 0, 1), (101, .getfield 31, 3), (104, .getfield 223, 3), (107, .iload_n 1, 1), (108, .iload_n 2, 1), (109, .iastore, 1), (110, .iload 6, 2), (112, .ireturn, 1)]]
def mm_r95 : mm_R := ((yX9_draws, cX9_draws, 9, (some .int), 4, false, [(4, 153), (1, 1), (4, 154)], (4, 155)),
   RX9, mm_t95, [(31, 0, 9, 3, 0, [(2, 157)]),
    (220, 1, 105, 9, 0, [(4, 32)]),
    (223, 0, 6, 3, 2, [(1, 169)]),
    (226, 0, 6, 4, 2, [(1, 173)]),
    (288, 10, 0, 0, 1103515245, [(4, 156)])])
-- 96: "RainOrgan" "keep"
def mm_t96 : mm_T := [[(0, .iload_n 1, 1), (1, .invokestatic 289, 3), (4, .ifCond .ne 5, 3), (7, .iconst (-1), 1), (8, .ireturn, 1), (9, .aload_n 0, 1), (10, .getfield 58, 3), (13, .iload_n 1, 1), (14, .aaload, 1), (15, .astore_n 2, 1), (16, .aload_n 2, 1), (17, .getfield 104, 3), (20, .ifCond .eq 7, 3), (23, .iconst 1, 1), (24, .goto 4, 3), (27, .iconst 0, 1), (28, .istore_n 3, 1), (29, .aload_n 2, 1), (30, .iconst 1, 1), (31, .putfield 104, 3)],
   [(34, .aload_n 2, 1), (35, .getfield 292, 3), (38, .aload_n 0, 1), (39, .getfield 31, 3), (42, .invokevirtual 293, 3), (45, .aload_n 2, 1), (46, .getfield 297, 3), (49, .aload_n 0, 1), (50, .getfield 38, 3), (53, .invokevirtual 298, 3), (56, .iload_n 3, 1), (57, .ireturn, 1)]]
def mm_r96 : mm_R := ((yX9_keep, cX9_keep, 4, (some .int), 1, false, [(4, 158), (1, 1), (4, 159)], (4, 160)),
   RX9, mm_t96, [(31, 0, 9, 3, 0, [(2, 157)]),
    (38, 0, 9, 4, 2, [(2, 158)]),
    (58, 0, 9, 7, 2, [(2, 161)]),
    (104, 0, 3, 2, 0, [(2, 128)]),
    (289, 2, 106, 9, 0, [(4, 161)]),
    (292, 0, 3, 0, 2, [(2, 125)]),
    (293, 1, 54, 6, 0, [(4, 164)]),
    (297, 0, 3, 1, 2, [(2, 127)]),
    (298, 1, 11, 2, 0, [(4, 169)])])
-- 97: "RainOrgan" "back"
def mm_t97 : mm_T := [[(0, .iload_n 1, 1), (1, .invokestatic 289, 3), (4, .ifCond .ne 5, 3), (7, .iconst (-1), 1), (8, .ireturn, 1), (9, .aload_n 0, 1), (10, .getfield 58, 3), (13, .iload_n 1, 1), (14, .aaload, 1), (15, .astore_n 2, 1), (16, .aload_n 2, 1), (17, .getfield 104, 3), (20, .ifCond .ne 6, 3), (23, .bipush (-2), 2), (25, .ireturn, 1), (26, .aload_n 0, 1), (27, .getfield 31, 3), (30, .aload_n 2, 1), (31, .getfield 292, 3)],
   [(34, .invokevirtual 293, 3), (37, .aload_n 0, 1), (38, .getfield 38, 3), (41, .aload_n 2, 1), (42, .getfield 297, 3), (45, .invokevirtual 298, 3), (48, .aload_n 0, 1), (49, .getfield 38, 3), (52, .getfield 201, 3), (55, .ireturn, 1)]]
def mm_r97 : mm_R := ((yX9_back, cX9_back, 3, (some .int), 1, false, [(4, 174), (1, 1), (4, 175)], (4, 176)),
   RX9, mm_t97, [(31, 0, 9, 3, 0, [(2, 157)]),
    (38, 0, 9, 4, 2, [(2, 158)]),
    (58, 0, 9, 7, 2, [(2, 161)]),
    (104, 0, 3, 2, 0, [(2, 128)]),
    (201, 0, 2, 5, 0, [(2, 13)]),
    (289, 2, 106, 9, 0, [(4, 161)]),
    (292, 0, 3, 0, 2, [(2, 125)]),
    (293, 1, 54, 6, 0, [(4, 164)]),
    (297, 0, 3, 1, 2, [(2, 127)]),
    (298, 1, 11, 2, 0, [(4, 169)])])
-- 98: "RainOrgan" "sheet"
def mm_t98 : mm_T := [[(0, .iload_n 1, 1), (1, .invokestatic 301, 3), (4, .ifCond .eq 16, 3), (7, .iload_n 2, 1), (8, .invokestatic 304, 3), (11, .ifCond .eq 9, 3), (14, .iload_n 3, 1), (15, .bipush 40, 2), (17, .if_icmp .le 5, 3), (20, .iconst (-1), 1), (21, .ireturn, 1), (22, .iload_n 3, 1), (23, .ifCond .ge 6, 3), (26, .bipush (-14), 2), (28, .ireturn, 1), (29, .aload_n 0, 1), (30, .getfield 64, 3)],
   [(33, .iload_n 1, 1), (34, .aaload, 1), (35, .iload_n 2, 1), (36, .iload_n 3, 1), (37, .invokevirtual 307, 3), (40, .iconst 1, 1), (41, .ireturn, 1)]]
def mm_r98 : mm_R := ((yX9_sheet, cX9_sheet, 4, (some .int), 3, false, [(4, 178), (1, 1), (4, 179)], (4, 180)),
   RX9, mm_t98, [(64, 0, 9, 8, 2, [(2, 162)]),
    (301, 2, 107, 9, 0, [(4, 181)]),
    (304, 2, 108, 9, 0, [(4, 184)]),
    (307, 1, 59, 7, 0, [(4, 187)])])
-- 99: "RainOrgan" "lay"
def mm_t99 : mm_T := [[(0, .iload_n 1, 1), (1, .invokestatic 301, 3), (4, .ifCond .ne 5, 3), (7, .iconst (-1), 1), (8, .ireturn, 1), (9, .aload_n 0, 1), (10, .getfield 64, 3), (13, .iload_n 1, 1), (14, .aaload, 1), (15, .astore 4, 2), (17, .aload 4, 2), (19, .aload 4, 2), (21, .getfield 310, 3), (24, .iload_n 2, 1), (25, .invokevirtual 313, 3), (28, .istore 5, 2), (30, .iload 5, 2)],
   [(32, .ifCond .eq 9, 3), (35, .bipush (-10), 2), (37, .iload 5, 2), (39, .isub, 1), (40, .ireturn, 1), (41, .aload 4, 2), (43, .iload_n 2, 1), (44, .iload_n 3, 1), (45, .invokevirtual 317, 3), (48, .iconst 1, 1), (49, .ireturn, 1)]]
def mm_r99 : mm_R := ((yX9_lay, cX9_lay, 6, (some .int), 3, false, [(4, 193), (1, 1), (4, 194)], (4, 195)),
   RX9, mm_t99, [(64, 0, 9, 8, 2, [(2, 162)]),
    (301, 2, 107, 9, 0, [(4, 181)]),
    (310, 0, 7, 1, 0, [(2, 144)]),
    (313, 1, 60, 7, 0, [(4, 196)]),
    (317, 1, 61, 7, 0, [(4, 204)])])
-- 100: "RainOrgan" "read"
def mm_t100 : mm_T := [[(0, .iload_n 1, 1), (1, .invokestatic 301, 3), (4, .ifCond .eq 22, 3), (7, .iload_n 2, 1), (8, .invokestatic 304, 3), (11, .ifCond .eq 15, 3), (14, .iload 4, 2), (16, .ifCond .lt 10, 3), (19, .iload 4, 2), (21, .bipush 12, 2), (23, .if_icmp .le 5, 3), (26, .iconst (-1), 1), (27, .ireturn, 1), (28, .aload_n 0, 1), (29, .getfield 64, 3)],
   [(32, .iload_n 1, 1), (33, .aaload, 1), (34, .astore 5, 2), (36, .iconst 0, 1), (37, .istore 6, 2), (39, .iconst 0, 1), (40, .istore 7, 2), (42, .iload 6, 2), (44, .iload 4, 2), (46, .if_icmp .ge 53, 3), (49, .iload 7, 2), (51, .ifCond .ne 48, 3), (54, .aload 5, 2), (56, .iload_n 2, 1), (57, .iload_n 3, 1), (58, .iload 6, 2), (60, .iadd, 1), (61, .invokevirtual 313, 3)],
   [(64, .istore 7, 2), (66, .iload 7, 2), (68, .ifCond .ne (-26), 3), (71, .aload 5, 2), (73, .getfield 320, 3), (76, .iload_n 3, 1), (77, .iload 6, 2), (79, .iadd, 1), (80, .iaload, 1), (81, .invokestatic 194, 3), (84, .ifCond .ne 9, 3), (87, .bipush (-20), 2), (89, .iload 6, 2), (91, .isub, 1), (92, .ireturn, 1), (93, .iinc 6 1, 3)],
   [(96, .goto (-54), 3), (99, .iconst 0, 1), (100, .istore 8, 2), (102, .iload 8, 2), (104, .iload 6, 2), (106, .if_icmp .ge 35, 3), (109, .aload_n 0, 1), (110, .getfield 38, 3), (113, .aload_n 0, 1), (114, .getfield 24, 3), (117, .aload_n 0, 1), (118, .getfield 31, 3), (121, .aload 5, 2), (123, .getfield 320, 3), (126, .iload_n 3, 1), (127, .iload 8, 2)],
   [(129, .iadd, 1), (130, .iaload, 1), (131, .invokevirtual 197, 3), (134, .pop, 1), (135, .iinc 8 1, 3), (138, .goto (-36), 3), (141, .aload_n 0, 1), (142, .iload 7, 2), (144, .putfield 323, 3), (147, .iload 6, 2), (149, .ireturn, 1)]]
def mm_r100 : mm_R := ((yX9_read, cX9_read, 9, (some .int), 4, false, [(4, 209), (1, 1), (4, 210)], (4, 211)),
   RX9, mm_t100, [(24, 0, 9, 2, 0, [(2, 156)]),
    (31, 0, 9, 3, 0, [(2, 157)]),
    (38, 0, 9, 4, 2, [(2, 158)]),
    (64, 0, 9, 8, 2, [(2, 162)]),
    (194, 2, 109, 9, 0, [(3, 206)]),
    (197, 1, 12, 2, 0, [(3, 209)]),
    (301, 2, 107, 9, 0, [(4, 181)]),
    (304, 2, 108, 9, 0, [(4, 184)]),
    (313, 1, 60, 7, 0, [(4, 196)]),
    (320, 0, 7, 0, 2, [(2, 142)]),
    (323, 0, 9, 10, 0, [(2, 164)])])
-- 101: "RainOrgan" "torn"
def mm_t101 : mm_T := [[(0, .aload_n 0, 1), (1, .getfield 323, 3), (4, .ireturn, 1)]]
def mm_r101 : mm_R := ((yX9_torn, cX9_torn, 1, (some .int), 0, false, [(4, 213), (1, 1), (4, 214)], (4, 215)),
   RX9, mm_t101, [(323, 0, 9, 10, 0, [(2, 164)])])
-- 102: "RainOrgan" "count"
def mm_t102 : mm_T := [[(0, .iload_n 1, 1), (1, .tableswitch 101 0 4 #[35, 46, 61, 66, 74], 35)],
   [(36, .aload_n 0, 1), (37, .getfield 31, 3), (40, .getfield 143, 3), (43, .invokestatic 210, 3), (46, .ireturn, 1), (47, .aload_n 0, 1), (48, .getfield 38, 3), (51, .aload_n 0, 1), (52, .getfield 24, 3), (55, .invokevirtual 241, 3), (58, .invokestatic 326, 3), (61, .ireturn, 1), (62, .aload_n 0, 1), (63, .invokevirtual 331, 3)],
   [(66, .ireturn, 1), (67, .aload_n 0, 1), (68, .getfield 20, 3), (71, .getfield 70, 3), (74, .ireturn, 1), (75, .aload_n 0, 1), (76, .getfield 64, 3), (79, .iconst 0, 1), (80, .aaload, 1), (81, .invokevirtual 334, 3), (84, .ifCond .eq 8, 3), (87, .bipush (-4), 2), (89, .goto 12, 3), (92, .aload_n 0, 1), (93, .getfield 64, 3)],
   [(96, .iconst 0, 1), (97, .aaload, 1), (98, .getfield 337, 3), (101, .ireturn, 1), (102, .iconst (-1), 1), (103, .ireturn, 1)]]
def mm_r102 : mm_R := ((yX9_count, cX9_count, 2, (some .int), 1, false, [(4, 217), (1, 1), (4, 218)], (4, 219)),
   RX9, mm_t102, [(20, 0, 9, 1, 2, [(2, 155)]),
    (24, 0, 9, 2, 0, [(2, 156)]),
    (31, 0, 9, 3, 0, [(2, 157)]),
    (38, 0, 9, 4, 2, [(2, 158)]),
    (64, 0, 9, 8, 2, [(2, 162)]),
    (70, 0, 8, 1, 0, [(1, 42)]),
    (143, 0, 6, 1, 2, [(1, 161)]),
    (210, 2, 111, 9, 0, [(4, 21)]),
    (241, 1, 24, 2, 0, [(4, 54)]),
    (326, 2, 192, 0, 0, [(4, 220)]),
    (331, 1, 113, 9, 0, [(4, 221)]),
    (334, 1, 58, 7, 0, [(4, 225)]),
    (337, 0, 7, 2, 0, [(2, 146)])])
-- 103: "RainOrgan" "isGutter"
def mm_t103 : mm_T := [[(0, .iload_n 1, 1), (1, .ifCond .lt 18, 3), (4, .iload_n 1, 1), (5, .aload_n 0, 1), (6, .getfield 24, 3), (9, .getfield 111, 3), (12, .if_icmp .ge 7, 3), (15, .iconst 1, 1), (16, .goto 4, 3), (19, .iconst 0, 1), (20, .ireturn, 1)]]
def mm_r103 : mm_R := ((yX9_isGutter, cX9_isGutter, 2, (some .boolean), 1, false, [(3, 155), (1, 1), (0, 22)], (3, 156)),
   RX9, mm_t103, [(24, 0, 9, 2, 0, [(2, 156)]),
    (111, 0, 4, 3, 0, [(1, 68)])])
-- 104: "RainOrgan" "isSpout"
def mm_t104 : mm_T := [[(0, .iload_n 1, 1), (1, .ifCond .lt 18, 3), (4, .iload_n 1, 1), (5, .aload_n 0, 1), (6, .getfield 24, 3), (9, .getfield 114, 3), (12, .if_icmp .ge 7, 3), (15, .iconst 1, 1), (16, .goto 4, 3), (19, .iconst 0, 1), (20, .ireturn, 1)]]
def mm_r104 : mm_R := ((yX9_isSpout, cX9_isSpout, 2, (some .boolean), 1, false, [(3, 163), (1, 1), (0, 23)], (3, 164)),
   RX9, mm_t104, [(24, 0, 9, 2, 0, [(2, 156)]),
    (114, 0, 4, 6, 0, [(1, 79)])])
-- 105: "RainOrgan" "isShower"
def mm_t105 : mm_T := [[(0, .iload_n 1, 1), (1, .ifCond .lt 18, 3), (4, .iload_n 1, 1), (5, .aload_n 0, 1), (6, .getfield 24, 3), (9, .getfield 117, 3), (12, .if_icmp .ge 7, 3), (15, .iconst 1, 1), (16, .goto 4, 3), (19, .iconst 0, 1), (20, .ireturn, 1)]]
def mm_r105 : mm_R := ((yX9_isShower, cX9_isShower, 2, (some .boolean), 1, false, [(4, 34), (1, 1), (0, 34)], (4, 35)),
   RX9, mm_t105, [(24, 0, 9, 2, 0, [(2, 156)]),
    (117, 0, 4, 10, 0, [(1, 95)])])
-- 106: "RainOrgan" "isImage"
def mm_t106 : mm_T := [[(0, .iload_n 0, 1), (1, .ifCond .lt 12, 3), (4, .iload_n 0, 1), (5, .iconst 2, 1), (6, .if_icmp .ge 7, 3), (9, .iconst 1, 1), (10, .goto 4, 3), (13, .iconst 0, 1), (14, .ireturn, 1)]]
def mm_r106 : mm_R := ((yX9_isImage, cX9_isImage, 1, (some .boolean), 1, true, [(4, 162), (1, 1)], (4, 163)),
   RX9, mm_t106, [])
-- 107: "RainOrgan" "isSheet"
def mm_t107 : mm_T := [[(0, .iload_n 0, 1), (1, .ifCond .lt 12, 3), (4, .iload_n 0, 1), (5, .iconst 4, 1), (6, .if_icmp .ge 7, 3), (9, .iconst 1, 1), (10, .goto 4, 3), (13, .iconst 0, 1), (14, .ireturn, 1)]]
def mm_r107 : mm_R := ((yX9_isSheet, cX9_isSheet, 1, (some .boolean), 1, true, [(4, 182), (1, 1)], (4, 183)),
   RX9, mm_t107, [])
-- 108: "RainOrgan" "isLane"
def mm_t108 : mm_T := [[(0, .iload_n 0, 1), (1, .ifCond .lt 12, 3), (4, .iload_n 0, 1), (5, .iconst 3, 1), (6, .if_icmp .ge 7, 3), (9, .iconst 1, 1), (10, .goto 4, 3), (13, .iconst 0, 1), (14, .ireturn, 1)]]
def mm_r108 : mm_R := ((yX9_isLane, cX9_isLane, 1, (some .boolean), 1, true, [(4, 185), (1, 1)], (4, 186)),
   RX9, mm_t108, [])
-- 109: "RainOrgan" "isRain"
def mm_t109 : mm_T := [[(0, .iload_n 0, 1), (1, .ifCond .lt 13, 3), (4, .iload_n 0, 1), (5, .bipush 9, 2), (7, .if_icmp .gt 7, 3), (10, .iconst 1, 1), (11, .goto 4, 3), (14, .iconst 0, 1), (15, .ireturn, 1)]]
def mm_r109 : mm_R := ((yX9_isRain, cX9_isRain, 1, (some .boolean), 1, true, [(3, 207), (1, 1)], (3, 208)),
   RX9, mm_t109, [])
-- 110: "RainOrgan" "hasSize"
def mm_t110 : mm_T := [[(0, .iload_n 0, 1), (1, .ifCond .eq 12, 3), (4, .iload_n 0, 1), (5, .iconst 5, 1), (6, .if_icmp .eq 7, 3), (9, .iconst 1, 1), (10, .goto 4, 3), (13, .iconst 0, 1), (14, .ireturn, 1)]]
def mm_r110 : mm_R := ((yX9_hasSize, cX9_hasSize, 1, (some .boolean), 1, true, [(3, 99), (1, 1)], (3, 100)),
   RX9, mm_t110, [])
-- 111: "RainOrgan" "sum"
def mm_t111 : mm_T := [[(0, .iconst 0, 1), (1, .istore_n 1, 1), (2, .aload_n 0, 1), (3, .astore_n 2, 1), (4, .aload_n 2, 1), (5, .arraylength, 1), (6, .istore_n 3, 1), (7, .iconst 0, 1), (8, .istore 4, 2), (10, .iload 4, 2), (12, .iload_n 3, 1), (13, .if_icmp .ge 20, 3), (16, .aload_n 2, 1), (17, .iload 4, 2), (19, .iaload, 1), (20, .istore 5, 2), (22, .iload_n 1, 1), (23, .iload 5, 2), (25, .iadd, 1), (26, .istore_n 1, 1), (27, .iinc 4 1, 3), (30, .goto (-20), 3)],
   [(33, .iload_n 1, 1), (34, .ireturn, 1)]]
def mm_r111 : mm_R := ((yX9_sum, cX9_sum, 6, (some .int), 1, true, [(4, 22), (1, 1)], (4, 23)),
   RX9, mm_t111, [])
-- 112: "RainOrgan" "allSpouts"
def mm_t112 : mm_T := [[(0, .iconst 1, 1), (1, .aload_n 0, 1), (2, .getfield 24, 3), (5, .getfield 114, 3), (8, .ishl, 1), (9, .iconst 1, 1), (10, .isub, 1), (11, .ireturn, 1)]]
def mm_r112 : mm_R := ((yX9_allSpouts, cX9_allSpouts, 1, (some .int), 0, false, [(4, 60), (1, 1), (0, 35)], (4, 61)),
   RX9, mm_t112, [(24, 0, 9, 2, 0, [(2, 156)]),
    (114, 0, 4, 6, 0, [(1, 79)])])
-- 113: "RainOrgan" "keptImages"
def mm_t113 : mm_T := [[(0, .iconst 0, 1), (1, .istore_n 1, 1), (2, .iconst 0, 1), (3, .istore_n 2, 1), (4, .iload_n 2, 1), (5, .iconst 2, 1), (6, .if_icmp .ge 29, 3), (9, .iload_n 1, 1), (10, .aload_n 0, 1), (11, .getfield 58, 3), (14, .iload_n 2, 1), (15, .aaload, 1), (16, .getfield 104, 3), (19, .ifCond .eq 7, 3), (22, .iconst 1, 1), (23, .goto 4, 3), (26, .iconst 0, 1), (27, .iadd, 1), (28, .istore_n 1, 1), (29, .iinc 2 1, 3)],
   [(32, .goto (-28), 3), (35, .iload_n 1, 1), (36, .ireturn, 1)]]
def mm_r113 : mm_R := ((yX9_keptImages, cX9_keptImages, 3, (some .int), 0, false, [(4, 223), (1, 1), (0, 41)], (4, 224)),
   RX9, mm_t113, [(58, 0, 9, 7, 2, [(2, 161)]),
    (104, 0, 3, 2, 0, [(2, 128)])])
-- 114: "RainOrgan" "manySettings"
def mm_t114 : mm_T := [[(0, .iconst 1, 1), (1, .istore_n 1, 1), (2, .iconst 0, 1), (3, .istore_n 2, 1), (4, .iload_n 2, 1), (5, .aload_n 0, 1), (6, .getfield 24, 3), (9, .getfield 111, 3), (12, .if_icmp .ge 13, 3), (15, .iload_n 1, 1), (16, .iconst 3, 1), (17, .imul, 1), (18, .istore_n 1, 1), (19, .iinc 2 1, 3), (22, .goto (-18), 3), (25, .iload_n 1, 1), (26, .ireturn, 1)]]
def mm_r114 : mm_R := ((yX9_manySettings, cX9_manySettings, 3, (some .int), 0, false, [(3, 192), (1, 1), (0, 24)], (3, 193)),
   RX9, mm_t114, [(24, 0, 9, 2, 0, [(2, 156)]),
    (111, 0, 4, 3, 0, [(1, 68)])])
-- 115: "RainOrgan" "distance"
def mm_t115 : mm_T := [[(0, .aload_n 0, 1), (1, .getfield 45, 3), (4, .aload_n 0, 1), (5, .getfield 24, 3), (8, .aload_n 0, 1), (9, .getfield 31, 3), (12, .iload_n 1, 1), (13, .invokevirtual 230, 3), (16, .aload_n 0, 1), (17, .getfield 45, 3), (20, .aload_n 0, 1), (21, .getfield 31, 3), (24, .invokevirtual 340, 3), (27, .ireturn, 1)]]
def mm_r115 : mm_R := ((yX9_distance, cX9_distance, 2, (some .int), 1, false, [(4, 76), (1, 1), (0, 36)], (4, 77)),
   RX9, mm_t115, [(24, 0, 9, 2, 0, [(2, 156)]),
    (31, 0, 9, 3, 0, [(2, 157)]),
    (45, 0, 9, 5, 2, [(2, 159)]),
    (230, 1, 5, 1, 0, [(4, 40)]),
    (340, 1, 6, 1, 0, [(4, 78)])])
-- 116: "RainOrgan" "chooseForShower"
def mm_t116 : mm_T := [[(0, .aload_n 0, 1), (1, .getfield 31, 3), (4, .aload_n 0, 1), (5, .getfield 24, 3), (8, .getfield 111, 3), (11, .invokevirtual 186, 3), (14, .istore_n 3, 1), (15, .aload_n 0, 1), (16, .invokevirtual 182, 3), (19, .istore 4, 2), (21, .aload_n 0, 1), (22, .getfield 52, 3), (25, .iload_n 3, 1), (26, .aload_n 0, 1), (27, .getfield 24, 3), (30, .getfield 111, 3)],
   [(33, .invokevirtual 344, 3), (36, .iconst 0, 1), (37, .istore 5, 2), (39, .iload 5, 2), (41, .iload 4, 2), (43, .if_icmp .ge 79, 3), (46, .aload_n 0, 1), (47, .getfield 31, 3), (50, .aload_n 0, 1), (51, .getfield 24, 3), (54, .getfield 111, 3), (57, .iload 5, 2), (59, .invokevirtual 190, 3), (62, .aload_n 0, 1), (63, .getfield 45, 3)],
   [(66, .aload_n 0, 1), (67, .getfield 24, 3), (70, .aload_n 0, 1), (71, .getfield 31, 3), (74, .iload_n 1, 1), (75, .invokevirtual 230, 3), (78, .iload_n 2, 1), (79, .ifCond .eq 17, 3), (82, .aload_n 0, 1), (83, .getfield 45, 3), (86, .aload_n 0, 1), (87, .getfield 24, 3), (90, .invokevirtual 282, 3), (93, .ifCond .ne 23, 3)],
   [(96, .aload_n 0, 1), (97, .getfield 52, 3), (100, .iload 5, 2), (102, .aload_n 0, 1), (103, .getfield 45, 3), (106, .aload_n 0, 1), (107, .getfield 31, 3), (110, .invokevirtual 340, 3), (113, .invokevirtual 346, 3), (116, .iinc 5 1, 3), (119, .goto (-80), 3), (122, .aload_n 0, 1), (123, .getfield 31, 3), (126, .aload_n 0, 1), (127, .getfield 24, 3)],
   [(130, .getfield 111, 3), (133, .iload_n 3, 1), (134, .invokevirtual 190, 3), (137, .return_, 1)]]
def mm_r116 : mm_R := ((yX9_chooseForShower, cX9_chooseForShower, 6, none, 2, false, [(4, 94), (1, 1), (0, 37)], (4, 95)),
   RX9, mm_t116, [(24, 0, 9, 2, 0, [(2, 156)]),
    (31, 0, 9, 3, 0, [(2, 157)]),
    (45, 0, 9, 5, 2, [(2, 159)]),
    (52, 0, 9, 6, 2, [(2, 160)]),
    (111, 0, 4, 3, 0, [(1, 68)]),
    (182, 1, 114, 9, 0, [(3, 190)]),
    (186, 1, 55, 6, 0, [(3, 194)]),
    (190, 1, 56, 6, 0, [(3, 198)]),
    (230, 1, 5, 1, 0, [(4, 40)]),
    (282, 1, 8, 1, 0, [(4, 100)]),
    (340, 1, 6, 1, 0, [(4, 78)]),
    (344, 1, 1, 0, 0, [(4, 96)]),
    (346, 1, 2, 0, 0, [(4, 104)])])
-- 117: "RainOrgan" "chooseForAllShowers"
def mm_t117 : mm_T := [[(0, .aload_n 0, 1), (1, .getfield 31, 3), (4, .aload_n 0, 1), (5, .getfield 24, 3), (8, .getfield 111, 3), (11, .invokevirtual 186, 3), (14, .istore_n 1, 1), (15, .aload_n 0, 1), (16, .invokevirtual 182, 3), (19, .istore_n 2, 1), (20, .aload_n 0, 1), (21, .getfield 52, 3), (24, .iload_n 1, 1), (25, .aload_n 0, 1), (26, .getfield 24, 3), (29, .getfield 111, 3)],
   [(32, .invokevirtual 344, 3), (35, .iconst 0, 1), (36, .istore_n 3, 1), (37, .iload_n 3, 1), (38, .iload_n 2, 1), (39, .if_icmp .ge 91, 3), (42, .aload_n 0, 1), (43, .getfield 31, 3), (46, .aload_n 0, 1), (47, .getfield 24, 3), (50, .getfield 111, 3), (53, .iload_n 3, 1), (54, .invokevirtual 190, 3), (57, .iconst 0, 1), (58, .istore 4, 2), (60, .iconst 0, 1), (61, .istore 5, 2), (63, .iload 5, 2)],
   [(65, .aload_n 0, 1), (66, .getfield 24, 3), (69, .getfield 117, 3), (72, .if_icmp .ge 42, 3), (75, .aload_n 0, 1), (76, .getfield 45, 3), (79, .aload_n 0, 1), (80, .getfield 24, 3), (83, .aload_n 0, 1), (84, .getfield 31, 3), (87, .iload 5, 2), (89, .invokevirtual 230, 3), (92, .iload 4, 2), (94, .aload_n 0, 1), (95, .getfield 45, 3)],
   [(98, .aload_n 0, 1), (99, .getfield 31, 3), (102, .invokevirtual 340, 3), (105, .iadd, 1), (106, .istore 4, 2), (108, .iinc 5 1, 3), (111, .goto (-48), 3), (114, .aload_n 0, 1), (115, .getfield 52, 3), (118, .iload_n 3, 1), (119, .iload 4, 2), (121, .invokevirtual 346, 3), (124, .iinc 3 1, 3), (127, .goto (-90), 3)],
   [(130, .aload_n 0, 1), (131, .getfield 31, 3), (134, .aload_n 0, 1), (135, .getfield 24, 3), (138, .getfield 111, 3), (141, .iload_n 1, 1), (142, .invokevirtual 190, 3), (145, .return_, 1)]]
def mm_r117 : mm_R := ((yX9_chooseForAllShowers, cX9_chooseForAllShowers, 6, none, 0, false, [(4, 122), (1, 1), (0, 39)], (4, 123)),
   RX9, mm_t117, [(24, 0, 9, 2, 0, [(2, 156)]),
    (31, 0, 9, 3, 0, [(2, 157)]),
    (45, 0, 9, 5, 2, [(2, 159)]),
    (52, 0, 9, 6, 2, [(2, 160)]),
    (111, 0, 4, 3, 0, [(1, 68)]),
    (117, 0, 4, 10, 0, [(1, 95)]),
    (182, 1, 114, 9, 0, [(3, 190)]),
    (186, 1, 55, 6, 0, [(3, 194)]),
    (190, 1, 56, 6, 0, [(3, 198)]),
    (230, 1, 5, 1, 0, [(4, 40)]),
    (340, 1, 6, 1, 0, [(4, 78)]),
    (344, 1, 1, 0, 0, [(4, 96)]),
    (346, 1, 2, 0, 0, [(4, 104)])])
-- 118: "RainOrgan" "soundsAsTheTune"
def mm_t118 : mm_T := [[(0, .aload_n 0, 1), (1, .getfield 45, 3), (4, .getfield 235, 3), (7, .astore_n 2, 1), (8, .aload_n 2, 1), (9, .invokevirtual 101, 3), (12, .aload_n 0, 1), (13, .getfield 31, 3), (16, .getfield 120, 3), (19, .istore_n 3, 1), (20, .iconst 0, 1), (21, .istore 4, 2), (23, .iload 4, 2), (25, .iload_n 3, 1), (26, .if_icmp .ge 52, 3), (29, .iload_n 1, 1), (30, .iconst 2, 1), (31, .iload_n 3, 1)],
   [(32, .iconst 1, 1), (33, .isub, 1), (34, .iload 4, 2), (36, .isub, 1), (37, .imul, 1), (38, .iushr, 1), (39, .iconst 3, 1), (40, .iand, 1), (41, .istore 5, 2), (43, .aload_n 2, 1), (44, .aload_n 0, 1), (45, .getfield 24, 3), (48, .aload_n 0, 1), (49, .getfield 31, 3), (52, .iload 5, 2), (54, .invokevirtual 197, 3), (57, .aload_n 0, 1), (58, .getfield 31, 3), (61, .getfield 251, 3)],
   [(64, .iload 4, 2), (66, .iaload, 1), (67, .if_icmp .eq 5, 3), (70, .iconst 0, 1), (71, .ireturn, 1), (72, .iinc 4 1, 3), (75, .goto (-52), 3), (78, .iconst 1, 1), (79, .ireturn, 1)]]
def mm_r118 : mm_R := ((yX9_soundsAsTheTune, cX9_soundsAsTheTune, 6, (some .boolean), 1, false, [(4, 138), (1, 1), (0, 40)], (4, 139)),
   RX9, mm_t118, [(24, 0, 9, 2, 0, [(2, 156)]),
    (31, 0, 9, 3, 0, [(2, 157)]),
    (45, 0, 9, 5, 2, [(2, 159)]),
    (101, 1, 10, 2, 0, [(3, 133)]),
    (120, 0, 6, 6, 0, [(1, 180)]),
    (197, 1, 12, 2, 0, [(3, 209)]),
    (235, 0, 1, 0, 2, [(2, 60)]),
    (251, 0, 6, 5, 2, [(1, 177)])])
-- 119: "RainOrganModel" "<init>"
def mm_t119 : mm_T := [[(0, .aload_n 0, 1), (1, .invokespecial 1, 3), (4, .aload_n 0, 1), (5, .sipush 700, 3), (8, .newarray .int, 2), (10, .putfield 7, 3), (13, .aload_n 0, 1), (14, .bipush 8, 2), (16, .newarray .int, 2), (18, .putfield 13, 3), (21, .aload_n 0, 1), (22, .bipush 10, 2), (24, .newarray .int, 2), (26, .putfield 16, 3), (29, .aload_n 0, 1), (30, .bipush 8, 2)],
   [(32, .newarray .int, 2), (34, .putfield 19, 3), (37, .aload_n 0, 1), (38, .bipush 12, 2), (40, .newarray .int, 2), (42, .putfield 22, 3), (45, .aload_n 0, 1), (46, .sipush 140, 3), (49, .newarray .int, 2), (51, .putfield 25, 3), (54, .aload_n 0, 1), (55, .bipush 8, 2), (57, .newarray .int, 2), (59, .putfield 28, 3), (62, .aload_n 0, 1), (63, .bipush 10, 2)],
   [(65, .newarray .int, 2), (67, .putfield 31, 3), (70, .aload_n 0, 1), (71, .bipush 8, 2), (73, .newarray .int, 2), (75, .putfield 34, 3), (78, .aload_n 0, 1), (79, .bipush 12, 2), (81, .newarray .int, 2), (83, .putfield 37, 3), (86, .aload_n 0, 1), (87, .iconst 5, 1), (88, .newarray .int, 2), (90, .putfield 40, 3), (93, .aload_n 0, 1), (94, .sipush 320, 3)],
   [(97, .newarray .int, 2), (99, .putfield 43, 3), (102, .aload_n 0, 1), (103, .bipush 16, 2), (105, .newarray .int, 2), (107, .dup, 1), (108, .iconst 0, 1), (109, .iconst 0, 1), (110, .iastore, 1), (111, .dup, 1), (112, .iconst 1, 1), (113, .iconst 4, 1), (114, .iastore, 1), (115, .dup, 1), (116, .iconst 2, 1), (117, .bipush 7, 2), (119, .iastore, 1), (120, .dup, 1), (121, .iconst 3, 1), (122, .bipush 12, 2), (124, .iastore, 1), (125, .dup, 1), (126, .iconst 4, 1), (127, .bipush 16, 2)],
   [(129, .iastore, 1), (130, .dup, 1), (131, .iconst 5, 1), (132, .bipush 21, 2), (134, .iastore, 1), (135, .dup, 1), (136, .bipush 6, 2), (138, .bipush 25, 2), (140, .iastore, 1), (141, .dup, 1), (142, .bipush 7, 2), (144, .bipush 29, 2), (146, .iastore, 1), (147, .dup, 1), (148, .bipush 8, 2), (150, .bipush 35, 2), (152, .iastore, 1), (153, .dup, 1), (154, .bipush 9, 2), (156, .bipush 41, 2), (158, .iastore, 1), (159, .dup, 1)],
   [(160, .bipush 10, 2), (162, .bipush 46, 2), (164, .iastore, 1), (165, .dup, 1), (166, .bipush 11, 2), (168, .bipush 49, 2), (170, .iastore, 1), (171, .dup, 1), (172, .bipush 12, 2), (174, .bipush 53, 2), (176, .iastore, 1), (177, .dup, 1), (178, .bipush 13, 2), (180, .bipush 57, 2), (182, .iastore, 1), (183, .dup, 1), (184, .bipush 14, 2), (186, .bipush 61, 2), (188, .iastore, 1), (189, .dup, 1), (190, .bipush 15, 2)],
   [(192, .bipush 67, 2), (194, .iastore, 1), (195, .putfield 46, 3), (198, .aload_n 0, 1), (199, .bipush 67, 2), (201, .newarray .int, 2), (203, .dup, 1), (204, .iconst 0, 1), (205, .bipush 114, 2), (207, .iastore, 1), (208, .dup, 1), (209, .iconst 1, 1), (210, .bipush 111, 2), (212, .iastore, 1), (213, .dup, 1), (214, .iconst 2, 1), (215, .bipush 111, 2), (217, .iastore, 1), (218, .dup, 1), (219, .iconst 3, 1), (220, .bipush 102, 2), (222, .iastore, 1), (223, .dup, 1)],
   [(224, .iconst 4, 1), (225, .bipush 112, 2), (227, .iastore, 1), (228, .dup, 1), (229, .iconst 5, 1), (230, .bipush 101, 2), (232, .iastore, 1), (233, .dup, 1), (234, .bipush 6, 2), (236, .bipush 103, 2), (238, .iastore, 1), (239, .dup, 1), (240, .bipush 7, 2), (242, .bipush 115, 2), (244, .iastore, 1), (245, .dup, 1), (246, .bipush 8, 2), (248, .bipush 112, 2), (250, .iastore, 1), (251, .dup, 1), (252, .bipush 9, 2), (254, .bipush 111, 2)],
   [(256, .iastore, 1), (257, .dup, 1), (258, .bipush 10, 2), (260, .bipush 117, 2), (262, .iastore, 1), (263, .dup, 1), (264, .bipush 11, 2), (266, .bipush 116, 2), (268, .iastore, 1), (269, .dup, 1), (270, .bipush 12, 2), (272, .bipush 114, 2), (274, .iastore, 1), (275, .dup, 1), (276, .bipush 13, 2), (278, .bipush 97, 2), (280, .iastore, 1), (281, .dup, 1), (282, .bipush 14, 2), (284, .bipush 105, 2), (286, .iastore, 1), (287, .dup, 1)],
   [(288, .bipush 15, 2), (290, .bipush 110, 2), (292, .iastore, 1), (293, .dup, 1), (294, .bipush 16, 2), (296, .bipush 115, 2), (298, .iastore, 1), (299, .dup, 1), (300, .bipush 17, 2), (302, .bipush 108, 2), (304, .iastore, 1), (305, .dup, 1), (306, .bipush 18, 2), (308, .bipush 101, 2), (310, .iastore, 1), (311, .dup, 1), (312, .bipush 19, 2), (314, .bipush 101, 2), (316, .iastore, 1), (317, .dup, 1), (318, .bipush 20, 2)],
   [(320, .bipush 112, 2), (322, .iastore, 1), (323, .dup, 1), (324, .bipush 21, 2), (326, .bipush 116, 2), (328, .iastore, 1), (329, .dup, 1), (330, .bipush 22, 2), (332, .bipush 117, 2), (334, .iastore, 1), (335, .dup, 1), (336, .bipush 23, 2), (338, .bipush 110, 2), (340, .iastore, 1), (341, .dup, 1), (342, .bipush 24, 2), (344, .bipush 101, 2), (346, .iastore, 1), (347, .dup, 1), (348, .bipush 25, 2), (350, .bipush 119, 2)],
   [(352, .iastore, 1), (353, .dup, 1), (354, .bipush 26, 2), (356, .bipush 101, 2), (358, .iastore, 1), (359, .dup, 1), (360, .bipush 27, 2), (362, .bipush 97, 2), (364, .iastore, 1), (365, .dup, 1), (366, .bipush 28, 2), (368, .bipush 114, 2), (370, .iastore, 1), (371, .dup, 1), (372, .bipush 29, 2), (374, .bipush 103, 2), (376, .iastore, 1), (377, .dup, 1), (378, .bipush 30, 2), (380, .bipush 117, 2), (382, .iastore, 1), (383, .dup, 1)],
   [(384, .bipush 31, 2), (386, .bipush 116, 2), (388, .iastore, 1), (389, .dup, 1), (390, .bipush 32, 2), (392, .bipush 116, 2), (394, .iastore, 1), (395, .dup, 1), (396, .bipush 33, 2), (398, .bipush 101, 2), (400, .iastore, 1), (401, .dup, 1), (402, .bipush 34, 2), (404, .bipush 114, 2), (406, .iastore, 1), (407, .dup, 1), (408, .bipush 35, 2), (410, .bipush 103, 2), (412, .iastore, 1), (413, .dup, 1), (414, .bipush 36, 2)],
   [(416, .bipush 114, 2), (418, .iastore, 1), (419, .dup, 1), (420, .bipush 37, 2), (422, .bipush 111, 2), (424, .iastore, 1), (425, .dup, 1), (426, .bipush 38, 2), (428, .bipush 117, 2), (430, .iastore, 1), (431, .dup, 1), (432, .bipush 39, 2), (434, .bipush 110, 2), (436, .iastore, 1), (437, .dup, 1), (438, .bipush 40, 2), (440, .bipush 100, 2), (442, .iastore, 1), (443, .dup, 1), (444, .bipush 41, 2), (446, .bipush 115, 2)],
   [(448, .iastore, 1), (449, .dup, 1), (450, .bipush 42, 2), (452, .bipush 108, 2), (454, .iastore, 1), (455, .dup, 1), (456, .bipush 43, 2), (458, .bipush 97, 2), (460, .iastore, 1), (461, .dup, 1), (462, .bipush 44, 2), (464, .bipush 116, 2), (466, .iastore, 1), (467, .dup, 1), (468, .bipush 45, 2), (470, .bipush 101, 2), (472, .iastore, 1), (473, .dup, 1), (474, .bipush 46, 2), (476, .bipush 116, 2), (478, .iastore, 1), (479, .dup, 1)],
   [(480, .bipush 47, 2), (482, .bipush 105, 2), (484, .iastore, 1), (485, .dup, 1), (486, .bipush 48, 2), (488, .bipush 112, 2), (490, .iastore, 1), (491, .dup, 1), (492, .bipush 49, 2), (494, .bipush 108, 2), (496, .iastore, 1), (497, .dup, 1), (498, .bipush 50, 2), (500, .bipush 101, 2), (502, .iastore, 1), (503, .dup, 1), (504, .bipush 51, 2), (506, .bipush 97, 2), (508, .iastore, 1), (509, .dup, 1), (510, .bipush 52, 2)],
   [(512, .bipush 107, 2), (514, .iastore, 1), (515, .dup, 1), (516, .bipush 53, 2), (518, .bipush 101, 2), (520, .iastore, 1), (521, .dup, 1), (522, .bipush 54, 2), (524, .bipush 97, 2), (526, .iastore, 1), (527, .dup, 1), (528, .bipush 55, 2), (530, .bipush 99, 2), (532, .iastore, 1), (533, .dup, 1), (534, .bipush 56, 2), (536, .bipush 104, 2), (538, .iastore, 1), (539, .dup, 1), (540, .bipush 57, 2), (542, .bipush 106, 2)],
   [(544, .iastore, 1), (545, .dup, 1), (546, .bipush 58, 2), (548, .bipush 111, 2), (550, .iastore, 1), (551, .dup, 1), (552, .bipush 59, 2), (554, .bipush 105, 2), (556, .iastore, 1), (557, .dup, 1), (558, .bipush 60, 2), (560, .bipush 110, 2), (562, .iastore, 1), (563, .dup, 1), (564, .bipush 61, 2), (566, .bipush 102, 2), (568, .iastore, 1), (569, .dup, 1), (570, .bipush 62, 2), (572, .bipush 114, 2), (574, .iastore, 1), (575, .dup, 1)],
   [(576, .bipush 63, 2), (578, .bipush 111, 2), (580, .iastore, 1), (581, .dup, 1), (582, .bipush 64, 2), (584, .bipush 122, 2), (586, .iastore, 1), (587, .dup, 1), (588, .bipush 65, 2), (590, .bipush 101, 2), (592, .iastore, 1), (593, .dup, 1), (594, .bipush 66, 2), (596, .bipush 110, 2), (598, .iastore, 1), (599, .putfield 49, 3), (602, .aload_n 0, 1), (603, .iconst 5, 1), (604, .newarray .int, 2), (606, .putfield 52, 3)],
   [(609, .aload_n 0, 1), (610, .bipush 8, 2), (612, .newarray .int, 2), (614, .putfield 55, 3), (617, .aload_n 0, 1), (618, .bipush 12, 2), (620, .newarray .int, 2), (622, .putfield 58, 3), (625, .aload_n 0, 1), (626, .bipush 12, 2), (628, .newarray .int, 2), (630, .putfield 61, 3), (633, .aload_n 0, 1), (634, .iconst 2, 1), (635, .newarray .boolean, 2), (637, .putfield 64, 3)],
   [(640, .aload_n 0, 1), (641, .iconst 4, 1), (642, .newarray .int, 2), (644, .dup, 1), (645, .iconst 0, 1), (646, .bipush (-4), 2), (648, .iastore, 1), (649, .dup, 1), (650, .iconst 1, 1), (651, .bipush (-4), 2), (653, .iastore, 1), (654, .dup, 1), (655, .iconst 2, 1), (656, .bipush (-4), 2), (658, .iastore, 1), (659, .dup, 1), (660, .iconst 3, 1), (661, .bipush (-4), 2), (663, .iastore, 1), (664, .putfield 68, 3), (667, .aload_n 0, 1), (668, .iconst 4, 1), (669, .newarray .int, 2), (671, .putfield 71, 3)],
   [(674, .aload_n 0, 1), (675, .sipush 160, 3), (678, .newarray .int, 2), (680, .putfield 74, 3), (683, .return_, 1)]]
def mm_r119 : mm_R := ((yX10_init, cX10_init, 1, none, 0, false, [(4, 229), (1, 11)], (4, 230)),
   RX10, mm_t119, [(1, 6, 0, 0, 0, [(4, 231), (1, 25), (1, 26)]),
    (7, 0, 10, 0, 1, [(4, 232)]),
    (13, 0, 10, 7, 1, [(4, 239)]),
    (16, 0, 10, 8, 1, [(5, 0)]),
    (19, 0, 10, 9, 1, [(5, 1)]),
    (22, 0, 10, 10, 1, [(5, 2)]),
    (25, 0, 10, 11, 1, [(5, 3)]),
    (28, 0, 10, 12, 1, [(5, 4)]),
    (31, 0, 10, 13, 1, [(5, 5)]),
    (34, 0, 10, 14, 1, [(5, 6)]),
    (37, 0, 10, 15, 1, [(5, 7)]),
    (40, 0, 10, 16, 1, [(5, 8)]),
    (43, 0, 10, 21, 1, [(5, 13)]),
    (46, 0, 10, 30, 1, [(5, 22)]),
    (49, 0, 10, 31, 1, [(5, 23)]),
    (52, 0, 10, 32, 1, [(5, 24)]),
    (55, 0, 10, 33, 1, [(5, 25)]),
    (58, 0, 10, 35, 1, [(5, 27)]),
    (61, 0, 10, 36, 1, [(5, 28)]),
    (64, 0, 10, 41, 1, [(5, 33)]),
    (68, 0, 10, 42, 1, [(5, 34)]),
    (71, 0, 10, 43, 1, [(5, 35)]),
    (74, 0, 10, 44, 1, [(5, 36)])])
-- 120: "RainOrganModel" "in"
def mm_t120 : mm_T := [[(0, .lload_n 0, 1), (1, .lload_n 2, 1), (2, .lcmp, 1), (3, .ifCond .lt 14, 3), (6, .lload_n 0, 1), (7, .lload 4, 2), (9, .lcmp, 1), (10, .ifCond .gt 7, 3), (13, .iconst 1, 1), (14, .goto 4, 3), (17, .iconst 0, 1), (18, .ireturn, 1)]]
def mm_r120 : mm_R := ((yX10_in, cX10_in, 6, (some .boolean), 3, true, [(5, 141), (1, 11)], (5, 142)),
   RX10, mm_t120, [])
-- 121: "RainOrganModel" "feed"
def mm_t121 : mm_T := [[(0, .aload_n 0, 1), (1, .getfield 77, 3), (4, .bipush 8, 2), (6, .iadd, 1), (7, .sipush 320, 3), (10, .if_icmp .le 6, 3), (13, .bipush (-3), 2), (15, .ireturn, 1), (16, .bipush 56, 2), (18, .istore_n 3, 1), (19, .iload_n 3, 1), (20, .ifCond .lt 36, 3), (23, .aload_n 0, 1), (24, .getfield 43, 3), (27, .aload_n 0, 1), (28, .getfield 77, 3), (31, .lload_n 1, 1)],
   [(32, .iload_n 3, 1), (33, .lshr, 1), (34, .l2i, 1), (35, .sipush 255, 3), (38, .iand, 1), (39, .iastore, 1), (40, .aload_n 0, 1), (41, .dup, 1), (42, .getfield 77, 3), (45, .iconst 1, 1), (46, .iadd, 1), (47, .putfield 77, 3), (50, .iinc 3 (-8), 3), (53, .goto (-34), 3), (56, .aload_n 0, 1), (57, .getfield 77, 3), (60, .ireturn, 1)]]
def mm_r121 : mm_R := ((yX10_feed, cX10_feed, 4, (some .int), 1, false, [(5, 133), (1, 11), (5, 134)], (5, 135)),
   RX10, mm_t121, [(43, 0, 10, 21, 2, [(5, 13)]),
    (77, 0, 10, 22, 0, [(5, 14)])])
-- 122: "RainOrganModel" "end"
def mm_t122 : mm_T := [[(0, .iload_n 1, 1), (1, .i2l, 1), (2, .lconst 0, 1), (3, .aload_n 0, 1), (4, .getfield 77, 3), (7, .i2l, 1), (8, .invokestatic 81, 3), (11, .ifCond .ne 5, 3), (14, .iconst (-1), 1), (15, .ireturn, 1), (16, .aload_n 0, 1), (17, .getfield 77, 3), (20, .istore_n 2, 1), (21, .aload_n 0, 1), (22, .iload_n 1, 1), (23, .putfield 77, 3), (26, .iload_n 2, 1), (27, .ireturn, 1)]]
def mm_r122 : mm_R := ((yX10_end, cX10_end, 3, (some .int), 1, false, [(5, 137), (1, 11), (5, 138)], (5, 139)),
   RX10, mm_t122, [(77, 0, 10, 22, 0, [(5, 14)]),
    (81, 2, 120, 10, 0, [(5, 140)])])
-- 123: "RainOrganModel" "byteAt"
def mm_t123 : mm_T := [[(0, .iload_n 1, 1), (1, .aload_n 0, 1), (2, .getfield 77, 3), (5, .if_icmp .ge 12, 3), (8, .aload_n 0, 1), (9, .getfield 43, 3), (12, .iload_n 1, 1), (13, .iaload, 1), (14, .goto 5, 3), (17, .bipush (-4), 2), (19, .ireturn, 1)]]
def mm_r123 : mm_R := ((yX10_byteAt, cX10_byteAt, 2, (some .int), 1, false, [(5, 153), (1, 11), (0, 43)], (5, 154)),
   RX10, mm_t123, [(43, 0, 10, 21, 2, [(5, 13)]),
    (77, 0, 10, 22, 0, [(5, 14)])])
-- 124: "RainOrganModel" "fails"
def mm_t124 : mm_T := [[(0, .aload_n 0, 1), (1, .getfield 85, 3), (4, .ifCond .ne 16, 3), (7, .aload_n 0, 1), (8, .iload_n 1, 1), (9, .putfield 85, 3), (12, .aload_n 0, 1), (13, .aload_n 0, 1), (14, .getfield 88, 3), (17, .putfield 91, 3), (20, .return_, 1)]]
def mm_r124 : mm_R := ((yX10_fails, cX10_fails, 2, none, 1, false, [(5, 161), (1, 11), (0, 44)], (5, 162)),
   RX10, mm_t124, [(85, 0, 10, 24, 0, [(5, 16)]),
    (88, 0, 10, 27, 0, [(5, 19)]),
    (91, 0, 10, 25, 0, [(5, 17)])])
-- 125: "RainOrganModel" "nameHere"
def mm_t125 : mm_T := [[(0, .iconst 0, 1), (1, .istore_n 1, 1), (2, .iload_n 1, 1), (3, .bipush 15, 2), (5, .if_icmp .ge 113, 3), (8, .aload_n 0, 1), (9, .getfield 94, 3), (12, .iconst 1, 1), (13, .if_icmp .ne 105, 3), (16, .aload_n 0, 1), (17, .getfield 97, 3), (20, .aload_n 0, 1), (21, .getfield 88, 3), (24, .isub, 1), (25, .aload_n 0, 1), (26, .getfield 46, 3), (29, .iload_n 1, 1), (30, .iconst 1, 1), (31, .iadd, 1)],
   [(32, .iaload, 1), (33, .aload_n 0, 1), (34, .getfield 46, 3), (37, .iload_n 1, 1), (38, .iaload, 1), (39, .isub, 1), (40, .if_icmp .ne 7, 3), (43, .iconst 1, 1), (44, .goto 4, 3), (47, .iconst 0, 1), (48, .istore_n 2, 1), (49, .iconst 0, 1), (50, .istore_n 3, 1), (51, .iload_n 2, 1), (52, .ifCond .eq 54, 3), (55, .iload_n 3, 1), (56, .aload_n 0, 1), (57, .getfield 97, 3), (60, .aload_n 0, 1), (61, .getfield 88, 3)],
   [(64, .isub, 1), (65, .if_icmp .ge 41, 3), (68, .aload_n 0, 1), (69, .aload_n 0, 1), (70, .getfield 88, 3), (73, .iload_n 3, 1), (74, .iadd, 1), (75, .invokevirtual 100, 3), (78, .aload_n 0, 1), (79, .getfield 49, 3), (82, .aload_n 0, 1), (83, .getfield 46, 3), (86, .iload_n 1, 1), (87, .iaload, 1), (88, .iload_n 3, 1), (89, .iadd, 1), (90, .iaload, 1), (91, .if_icmp .ne 7, 3), (94, .iconst 1, 1), (95, .goto 4, 3)],
   [(98, .iconst 0, 1), (99, .istore_n 2, 1), (100, .iinc 3 1, 3), (103, .goto (-52), 3), (106, .iload_n 2, 1), (107, .ifCond .eq 5, 3), (110, .iload_n 1, 1), (111, .ireturn, 1), (112, .iinc 1 1, 3), (115, .goto (-113), 3), (118, .bipush (-4), 2), (120, .ireturn, 1)]]
def mm_r125 : mm_R := ((yX10_nameHere, cX10_nameHere, 4, (some .int), 0, false, [(5, 169), (1, 11), (0, 46)], (5, 170)),
   RX10, mm_t125, [(46, 0, 10, 30, 2, [(5, 22)]),
    (49, 0, 10, 31, 2, [(5, 23)]),
    (88, 0, 10, 27, 0, [(5, 19)]),
    (94, 0, 10, 28, 0, [(5, 20)]),
    (97, 0, 10, 26, 0, [(5, 18)]),
    (100, 1, 123, 10, 0, [(5, 151)])])
-- 126: "RainOrganModel" "step"
def mm_t126 : mm_T := [[(0, .aload_n 0, 1), (1, .getfield 85, 3), (4, .ifCond .le 4, 3), (7, .return_, 1), (8, .aload_n 0, 1), (9, .aload_n 0, 1), (10, .getfield 97, 3), (13, .invokevirtual 100, 3), (16, .bipush 32, 2), (18, .if_icmp .ne 16, 3), (21, .aload_n 0, 1), (22, .dup, 1), (23, .getfield 97, 3), (26, .iconst 1, 1), (27, .iadd, 1), (28, .putfield 97, 3), (31, .goto (-23), 3)],
   [(34, .aload_n 0, 1), (35, .aload_n 0, 1), (36, .getfield 97, 3), (39, .putfield 88, 3), (42, .aload_n 0, 1), (43, .aload_n 0, 1), (44, .getfield 97, 3), (47, .invokevirtual 100, 3), (50, .istore_n 1, 1), (51, .aload_n 0, 1), (52, .iconst 0, 1), (53, .putfield 104, 3), (56, .iload_n 1, 1), (57, .bipush (-4), 2), (59, .if_icmp .ne 11, 3), (62, .aload_n 0, 1), (63, .iconst 0, 1)],
   [(64, .putfield 94, 3), (67, .goto 202, 3), (70, .iload_n 1, 1), (71, .i2l, 1), (72, .ldc2_w 107, 3), (75, .ldc2_w 109, 3), (78, .invokestatic 81, 3), (81, .ifCond .eq 45, 3), (84, .aload_n 0, 1), (85, .aload_n 0, 1), (86, .getfield 97, 3), (89, .invokevirtual 100, 3), (92, .i2l, 1), (93, .ldc2_w 107, 3)],
   [(96, .ldc2_w 109, 3), (99, .invokestatic 81, 3), (102, .ifCond .eq 16, 3), (105, .aload_n 0, 1), (106, .dup, 1), (107, .getfield 97, 3), (110, .iconst 1, 1), (111, .iadd, 1), (112, .putfield 97, 3), (115, .goto (-31), 3), (118, .aload_n 0, 1), (119, .iconst 1, 1), (120, .putfield 94, 3), (123, .goto 146, 3), (126, .iload_n 1, 1), (127, .i2l, 1)],
   [(128, .ldc2_w 111, 3), (131, .ldc2_w 113, 3), (134, .invokestatic 81, 3), (137, .ifCond .eq 106, 3), (140, .aload_n 0, 1), (141, .aload_n 0, 1), (142, .getfield 97, 3), (145, .invokevirtual 100, 3), (148, .i2l, 1), (149, .ldc2_w 111, 3), (152, .ldc2_w 113, 3), (155, .invokestatic 81, 3), (158, .ifCond .eq 59, 3)],
   [(161, .aload_n 0, 1), (162, .aload_n 0, 1), (163, .getfield 97, 3), (166, .aload_n 0, 1), (167, .getfield 88, 3), (170, .isub, 1), (171, .iconst 3, 1), (172, .if_icmp .ge 25, 3), (175, .bipush 10, 2), (177, .aload_n 0, 1), (178, .getfield 104, 3), (181, .imul, 1), (182, .aload_n 0, 1), (183, .aload_n 0, 1), (184, .getfield 97, 3), (187, .invokevirtual 100, 3), (190, .iadd, 1), (191, .bipush 48, 2)],
   [(193, .isub, 1), (194, .goto 7, 3), (197, .aload_n 0, 1), (198, .getfield 104, 3), (201, .putfield 104, 3), (204, .aload_n 0, 1), (205, .dup, 1), (206, .getfield 97, 3), (209, .iconst 1, 1), (210, .iadd, 1), (211, .putfield 97, 3), (214, .goto (-74), 3), (217, .aload_n 0, 1), (218, .iconst 2, 1), (219, .putfield 94, 3), (222, .aload_n 0, 1), (223, .getfield 97, 3)],
   [(226, .aload_n 0, 1), (227, .getfield 88, 3), (230, .isub, 1), (231, .iconst 3, 1), (232, .if_icmp .le 37, 3), (235, .aload_n 0, 1), (236, .iconst 1, 1), (237, .invokevirtual 115, 3), (240, .goto 29, 3), (243, .aload_n 0, 1), (244, .iconst 3, 1), (245, .putfield 94, 3), (248, .aload_n 0, 1), (249, .dup, 1), (250, .getfield 97, 3), (253, .iconst 1, 1), (254, .iadd, 1), (255, .putfield 97, 3)],
   [(258, .iload_n 1, 1), (259, .bipush 59, 2), (261, .if_icmp .eq 8, 3), (264, .aload_n 0, 1), (265, .iconst 1, 1), (266, .invokevirtual 115, 3), (269, .return_, 1)]]
def mm_r126 : mm_R := ((yX10_step, cX10_step, 2, none, 0, false, [(5, 149), (1, 11), (0, 42)], (5, 150)),
   RX10, mm_t126, [(81, 2, 120, 10, 0, [(5, 140)]),
    (85, 0, 10, 24, 0, [(5, 16)]),
    (88, 0, 10, 27, 0, [(5, 19)]),
    (94, 0, 10, 28, 0, [(5, 20)]),
    (97, 0, 10, 26, 0, [(5, 18)]),
    (100, 1, 123, 10, 0, [(5, 151)]),
    (104, 0, 10, 29, 0, [(5, 21)]),
    (107, 11, 0, 0, 97, [(5, 155)]),
    (109, 11, 0, 0, 122, [(5, 156)]),
    (111, 11, 0, 0, 48, [(5, 157)]),
    (113, 11, 0, 0, 57, [(5, 158)]),
    (115, 1, 124, 10, 0, [(5, 159)])])
-- 127: "RainOrganModel" "looks"
def mm_t127 : mm_T := [[(0, .aload_n 0, 1), (1, .getfield 85, 3), (4, .ifCond .ne 16, 3), (7, .aload_n 0, 1), (8, .getfield 94, 3), (11, .iconst 2, 1), (12, .if_icmp .eq 8, 3), (15, .aload_n 0, 1), (16, .iconst 2, 1), (17, .invokevirtual 115, 3), (20, .aload_n 0, 1), (21, .getfield 85, 3), (24, .ifCond .ne 23, 3), (27, .aload_n 0, 1), (28, .getfield 104, 3), (31, .i2l, 1)],
   [(32, .iload_n 1, 1), (33, .i2l, 1), (34, .iload_n 2, 1), (35, .i2l, 1), (36, .invokestatic 81, 3), (39, .ifCond .ne 8, 3), (42, .aload_n 0, 1), (43, .iconst 3, 1), (44, .invokevirtual 115, 3), (47, .return_, 1)]]
def mm_r127 : mm_R := ((yX10_looks, cX10_looks, 3, none, 2, false, [(5, 182), (1, 11), (0, 49)], (5, 183)),
   RX10, mm_t127, [(81, 2, 120, 10, 0, [(5, 140)]),
    (85, 0, 10, 24, 0, [(5, 16)]),
    (94, 0, 10, 28, 0, [(5, 20)]),
    (104, 0, 10, 29, 0, [(5, 21)]),
    (115, 1, 124, 10, 0, [(5, 159)])])
-- 128: "RainOrganModel" "number"
def mm_t128 : mm_T := [[(0, .aload_n 0, 1), (1, .iload_n 1, 1), (2, .iload_n 2, 1), (3, .invokevirtual 119, 3), (6, .aload_n 0, 1), (7, .getfield 85, 3), (10, .ifCond .ne 10, 3), (13, .aload_n 0, 1), (14, .getfield 104, 3), (17, .goto 4, 3), (20, .iload_n 1, 1), (21, .istore_n 3, 1), (22, .aload_n 0, 1), (23, .invokevirtual 123, 3), (26, .iload_n 3, 1), (27, .ireturn, 1)]]
def mm_r128 : mm_R := ((yX10_number, cX10_number, 4, (some .int), 2, false, [(5, 178), (1, 11), (0, 48)], (5, 179)),
   RX10, mm_t128, [(85, 0, 10, 24, 0, [(5, 16)]),
    (104, 0, 10, 29, 0, [(5, 21)]),
    (119, 1, 127, 10, 0, [(5, 180)]),
    (123, 1, 126, 10, 0, [(5, 147)])])
-- 129: "RainOrganModel" "readWay"
def mm_t129 : mm_T := [[(0, .aload_n 0, 1), (1, .invokevirtual 126, 3), (4, .istore_n 2, 1), (5, .iload_n 2, 1), (6, .bipush 7, 2), (8, .if_icmp .ne 75, 3), (11, .aload_n 0, 1), (12, .invokevirtual 123, 3), (15, .aload_n 0, 1), (16, .iconst 0, 1), (17, .iconst 4, 1), (18, .invokevirtual 119, 3), (21, .aload_n 0, 1), (22, .getfield 85, 3), (25, .ifCond .ne 16, 3), (28, .aload_n 0, 1), (29, .getfield 104, 3)],
   [(32, .iload_n 1, 1), (33, .if_icmp .gt 8, 3), (36, .aload_n 0, 1), (37, .iconst 3, 1), (38, .invokevirtual 115, 3), (41, .aload_n 0, 1), (42, .getfield 85, 3), (45, .ifCond .ne 10, 3), (48, .aload_n 0, 1), (49, .getfield 104, 3), (52, .goto 4, 3), (55, .iconst 0, 1), (56, .istore_n 3, 1), (57, .aload_n 0, 1), (58, .iload_n 3, 1), (59, .aload_n 0, 1), (60, .getfield 130, 3), (63, .if_icmp .le 7, 3)],
   [(66, .iload_n 3, 1), (67, .goto 7, 3), (70, .aload_n 0, 1), (71, .getfield 130, 3), (74, .putfield 130, 3), (77, .aload_n 0, 1), (78, .invokevirtual 123, 3), (81, .iload_n 3, 1), (82, .ireturn, 1), (83, .iload_n 2, 1), (84, .iconst 2, 1), (85, .if_icmp .ne 40, 3), (88, .aload_n 0, 1), (89, .invokevirtual 123, 3), (92, .aload_n 0, 1), (93, .iconst 0, 1), (94, .bipush 7, 2)],
   [(96, .invokevirtual 133, 3), (99, .istore_n 3, 1), (100, .aload_n 0, 1), (101, .iload_n 3, 1), (102, .aload_n 0, 1), (103, .getfield 137, 3), (106, .if_icmp .le 7, 3), (109, .iload_n 3, 1), (110, .goto 7, 3), (113, .aload_n 0, 1), (114, .getfield 137, 3), (117, .putfield 137, 3), (120, .bipush 10, 2), (122, .iload_n 3, 1), (123, .iadd, 1), (124, .ireturn, 1), (125, .iload_n 2, 1), (126, .bipush 8, 2)],
   [(128, .if_icmp .eq 8, 3), (131, .aload_n 0, 1), (132, .iconst 2, 1), (133, .invokevirtual 115, 3), (136, .aload_n 0, 1), (137, .invokevirtual 123, 3), (140, .bipush 20, 2), (142, .ireturn, 1)]]
def mm_r129 : mm_R := ((yX10_readWay, cX10_readWay, 4, (some .int), 1, false, [(5, 186), (1, 11), (0, 50)], (5, 187)),
   RX10, mm_t129, [(85, 0, 10, 24, 0, [(5, 16)]),
    (104, 0, 10, 29, 0, [(5, 21)]),
    (115, 1, 124, 10, 0, [(5, 159)]),
    (119, 1, 127, 10, 0, [(5, 180)]),
    (123, 1, 126, 10, 0, [(5, 147)]),
    (126, 1, 125, 10, 0, [(5, 167)]),
    (130, 0, 10, 18, 0, [(5, 10)]),
    (133, 1, 128, 10, 0, [(5, 176)]),
    (137, 0, 10, 19, 0, [(5, 11)])])
-- 130: "RainOrganModel" "readCup"
def mm_t130 : mm_T := [[(0, .aload_n 0, 1), (1, .invokevirtual 126, 3), (4, .bipush 9, 2), (6, .isub, 1), (7, .istore_n 2, 1), (8, .iload_n 2, 1), (9, .i2l, 1), (10, .lconst 0, 1), (11, .ldc2_w 140, 3), (14, .invokestatic 81, 3), (17, .ifCond .ne 9, 3), (20, .aload_n 0, 1), (21, .iconst 2, 1), (22, .invokevirtual 115, 3), (25, .return_, 1), (26, .aload_n 0, 1), (27, .invokevirtual 123, 3), (30, .aload_n 0, 1), (31, .getfield 25, 3)],
   [(34, .bipush 10, 2), (36, .iload_n 1, 1), (37, .iadd, 1), (38, .iload_n 2, 1), (39, .iastore, 1), (40, .aload_n 0, 1), (41, .getfield 25, 3), (44, .bipush 26, 2), (46, .iload_n 1, 1), (47, .iadd, 1), (48, .bipush (-4), 2), (50, .iastore, 1), (51, .iload_n 2, 1), (52, .i2l, 1), (53, .lconst 1, 1), (54, .ldc2_w 142, 3), (57, .invokestatic 81, 3), (60, .ifCond .eq 19, 3), (63, .aload_n 0, 1)],
   [(64, .getfield 25, 3), (67, .bipush 18, 2), (69, .iload_n 1, 1), (70, .iadd, 1), (71, .aload_n 0, 1), (72, .iconst 1, 1), (73, .bipush 30, 2), (75, .invokevirtual 133, 3), (78, .iastore, 1), (79, .iload_n 2, 1), (80, .iconst 4, 1), (81, .if_icmp .ne 91, 3), (84, .aload_n 0, 1), (85, .iconst 0, 1), (86, .bipush 7, 2), (88, .invokevirtual 119, 3), (91, .aload_n 0, 1), (92, .getfield 85, 3), (95, .ifCond .ne 16, 3)],
   [(98, .aload_n 0, 1), (99, .getfield 104, 3), (102, .iload_n 1, 1), (103, .if_icmp .ne 8, 3), (106, .aload_n 0, 1), (107, .iconst 3, 1), (108, .invokevirtual 115, 3), (111, .aload_n 0, 1), (112, .getfield 25, 3), (115, .bipush 26, 2), (117, .iload_n 1, 1), (118, .iadd, 1), (119, .aload_n 0, 1), (120, .getfield 85, 3), (123, .ifCond .ne 10, 3), (126, .aload_n 0, 1), (127, .getfield 104, 3)],
   [(130, .goto 4, 3), (133, .iconst 0, 1), (134, .iastore, 1), (135, .aload_n 0, 1), (136, .aload_n 0, 1), (137, .getfield 104, 3), (140, .aload_n 0, 1), (141, .getfield 137, 3), (144, .if_icmp .le 17, 3), (147, .aload_n 0, 1), (148, .getfield 85, 3), (151, .ifCond .ne 10, 3), (154, .aload_n 0, 1), (155, .getfield 104, 3), (158, .goto 7, 3)],
   [(161, .aload_n 0, 1), (162, .getfield 137, 3), (165, .putfield 137, 3), (168, .aload_n 0, 1), (169, .invokevirtual 123, 3), (172, .return_, 1)]]
def mm_r130 : mm_R := ((yX10_readCup, cX10_readCup, 3, none, 1, false, [(5, 190), (1, 11), (0, 51)], (5, 191)),
   RX10, mm_t130, [(25, 0, 10, 11, 2, [(5, 3)]),
    (81, 2, 120, 10, 0, [(5, 140)]),
    (85, 0, 10, 24, 0, [(5, 16)]),
    (104, 0, 10, 29, 0, [(5, 21)]),
    (115, 1, 124, 10, 0, [(5, 159)]),
    (119, 1, 127, 10, 0, [(5, 180)]),
    (123, 1, 126, 10, 0, [(5, 147)]),
    (126, 1, 125, 10, 0, [(5, 167)]),
    (133, 1, 128, 10, 0, [(5, 176)]),
    (137, 0, 10, 19, 0, [(5, 11)]),
    (140, 11, 0, 0, 5, [(5, 192)]),
    (142, 11, 0, 0, 4, [(5, 193)])])
-- 131: "RainOrganModel" "readSeconds"
def mm_t131 : mm_T := [[(0, .iconst 0, 1), (1, .istore_n 3, 1), (2, .aload_n 0, 1), (3, .getfield 85, 3), (6, .ifCond .ne 67, 3), (9, .iload_n 3, 1), (10, .ifCond .eq 11, 3), (13, .aload_n 0, 1), (14, .getfield 94, 3), (17, .iconst 2, 1), (18, .if_icmp .ne 55, 3), (21, .aload_n 0, 1), (22, .getfield 94, 3), (25, .iconst 2, 1), (26, .if_icmp .ne 14, 3), (29, .iload_n 3, 1), (30, .bipush 12, 2)],
   [(32, .if_icmp .ne 8, 3), (35, .aload_n 0, 1), (36, .iconst 5, 1), (37, .invokevirtual 115, 3), (40, .aload_n 0, 1), (41, .iconst 0, 1), (42, .iload_n 2, 1), (43, .invokevirtual 133, 3), (46, .istore 4, 2), (48, .aload_n 0, 1), (49, .getfield 85, 3), (52, .ifCond .ne 18, 3), (55, .aload_n 0, 1), (56, .getfield 25, 3), (59, .iload_n 1, 1), (60, .iconst 1, 1), (61, .iadd, 1), (62, .iload_n 3, 1), (63, .iadd, 1)],
   [(64, .iload 4, 2), (66, .iastore, 1), (67, .iinc 3 1, 3), (70, .goto (-68), 3), (73, .aload_n 0, 1), (74, .getfield 25, 3), (77, .iload_n 1, 1), (78, .iload_n 3, 1), (79, .iastore, 1), (80, .return_, 1)]]
def mm_r131 : mm_R := ((yX10_readSeconds, cX10_readSeconds, 5, none, 2, false, [(5, 196), (1, 11), (0, 52)], (5, 197)),
   RX10, mm_t131, [(25, 0, 10, 11, 2, [(5, 3)]),
    (85, 0, 10, 24, 0, [(5, 16)]),
    (94, 0, 10, 28, 0, [(5, 20)]),
    (115, 1, 124, 10, 0, [(5, 159)]),
    (133, 1, 128, 10, 0, [(5, 176)])])
-- 132: "RainOrganModel" "readThing"
def mm_t132 : mm_T := [[(0, .aload_n 0, 1), (1, .getfield 40, 3), (4, .iload_n 1, 1), (5, .iaload, 1), (6, .istore_n 2, 1), (7, .iload_n 1, 1), (8, .ifCond .ne 7, 3), (11, .iconst 4, 1), (12, .goto 32, 3), (15, .iload_n 1, 1), (16, .iconst 1, 1), (17, .if_icmp .ne 7, 3), (20, .iconst 5, 1), (21, .goto 23, 3), (24, .iload_n 1, 1), (25, .iconst 2, 1), (26, .if_icmp .ne 8, 3), (29, .bipush 8, 2), (31, .goto 13, 3)],
   [(34, .iload_n 1, 1), (35, .iconst 3, 1), (36, .if_icmp .ne 7, 3), (39, .iconst 3, 1), (40, .goto 4, 3), (43, .iconst 4, 1), (44, .istore_n 3, 1), (45, .iload_n 2, 1), (46, .iload_n 3, 1), (47, .if_icmp .ne 9, 3), (50, .aload_n 0, 1), (51, .iconst 5, 1), (52, .invokevirtual 115, 3), (55, .return_, 1), (56, .aload_n 0, 1), (57, .invokevirtual 123, 3), (60, .iload_n 1, 1), (61, .ifCond .ne 75, 3)],
   [(64, .aload_n 0, 1), (65, .getfield 28, 3), (68, .iconst 2, 1), (69, .iload_n 2, 1), (70, .imul, 1), (71, .aload_n 0, 1), (72, .iconst 1, 1), (73, .bipush 9, 2), (75, .invokevirtual 133, 3), (78, .iastore, 1), (79, .aload_n 0, 1), (80, .getfield 28, 3), (83, .iconst 2, 1), (84, .iload_n 2, 1), (85, .imul, 1), (86, .iconst 1, 1), (87, .iadd, 1), (88, .aload_n 0, 1), (89, .iconst 0, 1), (90, .iconst 4, 1), (91, .invokevirtual 133, 3), (94, .iastore, 1), (95, .aload_n 0, 1)],
   [(96, .aload_n 0, 1), (97, .getfield 28, 3), (100, .iconst 2, 1), (101, .iload_n 2, 1), (102, .imul, 1), (103, .iconst 1, 1), (104, .iadd, 1), (105, .iaload, 1), (106, .aload_n 0, 1), (107, .getfield 130, 3), (110, .if_icmp .le 16, 3), (113, .aload_n 0, 1), (114, .getfield 28, 3), (117, .iconst 2, 1), (118, .iload_n 2, 1), (119, .imul, 1), (120, .iconst 1, 1), (121, .iadd, 1), (122, .iaload, 1), (123, .goto 7, 3), (126, .aload_n 0, 1), (127, .getfield 130, 3)],
   [(130, .putfield 130, 3), (133, .goto 151, 3), (136, .iload_n 1, 1), (137, .iconst 1, 1), (138, .if_icmp .ne 43, 3), (141, .aload_n 0, 1), (142, .getfield 31, 3), (145, .iconst 2, 1), (146, .iload_n 2, 1), (147, .imul, 1), (148, .aload_n 0, 1), (149, .iload_n 2, 1), (150, .invokevirtual 144, 3), (153, .iastore, 1), (154, .aload_n 0, 1), (155, .getfield 31, 3), (158, .iconst 2, 1), (159, .iload_n 2, 1)],
   [(160, .imul, 1), (161, .iconst 1, 1), (162, .iadd, 1), (163, .aload_n 0, 1), (164, .iload_n 2, 1), (165, .invokevirtual 144, 3), (168, .iastore, 1), (169, .aload_n 0, 1), (170, .getfield 25, 3), (173, .iconst 0, 1), (174, .iload_n 2, 1), (175, .iadd, 1), (176, .iconst 2, 1), (177, .iastore, 1), (178, .goto 106, 3), (181, .iload_n 1, 1), (182, .iconst 2, 1), (183, .if_icmp .ne 24, 3), (186, .aload_n 0, 1), (187, .getfield 34, 3), (190, .iload_n 2, 1), (191, .aload_n 0, 1)],
   [(192, .iconst 0, 1), (193, .bipush 7, 2), (195, .invokevirtual 133, 3), (198, .iastore, 1), (199, .aload_n 0, 1), (200, .iload_n 2, 1), (201, .invokevirtual 147, 3), (204, .goto 80, 3), (207, .iload_n 1, 1), (208, .iconst 3, 1), (209, .if_icmp .ne 19, 3), (212, .aload_n 0, 1), (213, .bipush 34, 2), (215, .bipush 13, 2), (217, .iload_n 2, 1), (218, .imul, 1), (219, .iadd, 1), (220, .bipush 9, 2), (222, .invokevirtual 150, 3)],
   [(225, .goto 59, 3), (228, .aload_n 0, 1), (229, .getfield 37, 3), (232, .iconst 3, 1), (233, .iload_n 2, 1), (234, .imul, 1), (235, .aload_n 0, 1), (236, .iconst 0, 1), (237, .bipush 11, 2), (239, .invokevirtual 133, 3), (242, .iastore, 1), (243, .aload_n 0, 1), (244, .getfield 37, 3), (247, .iconst 3, 1), (248, .iload_n 2, 1), (249, .imul, 1), (250, .iconst 1, 1), (251, .iadd, 1), (252, .aload_n 0, 1), (253, .aload_n 0, 1), (254, .getfield 37, 3)],
   [(257, .iconst 3, 1), (258, .iload_n 2, 1), (259, .imul, 1), (260, .iaload, 1), (261, .bipush 11, 2), (263, .invokevirtual 133, 3), (266, .iastore, 1), (267, .aload_n 0, 1), (268, .getfield 37, 3), (271, .iconst 3, 1), (272, .iload_n 2, 1), (273, .imul, 1), (274, .iconst 2, 1), (275, .iadd, 1), (276, .aload_n 0, 1), (277, .iconst 1, 1), (278, .bipush 99, 2), (280, .invokevirtual 133, 3), (283, .iastore, 1), (284, .aload_n 0, 1), (285, .getfield 40, 3)],
   [(288, .iload_n 1, 1), (289, .dup2, 1), (290, .iaload, 1), (291, .iconst 1, 1), (292, .iadd, 1), (293, .iastore, 1), (294, .return_, 1)]]
def mm_r132 : mm_R := ((yX10_readThing, cX10_readThing, 4, none, 1, false, [(5, 174), (1, 11), (0, 47)], (5, 175)),
   RX10, mm_t132, [(25, 0, 10, 11, 2, [(5, 3)]),
    (28, 0, 10, 12, 2, [(5, 4)]),
    (31, 0, 10, 13, 2, [(5, 5)]),
    (34, 0, 10, 14, 2, [(5, 6)]),
    (37, 0, 10, 15, 2, [(5, 7)]),
    (40, 0, 10, 16, 2, [(5, 8)]),
    (115, 1, 124, 10, 0, [(5, 159)]),
    (123, 1, 126, 10, 0, [(5, 147)]),
    (130, 0, 10, 18, 0, [(5, 10)]),
    (133, 1, 128, 10, 0, [(5, 176)]),
    (144, 1, 129, 10, 0, [(5, 184)]),
    (147, 1, 130, 10, 0, [(5, 188)]),
    (150, 1, 131, 10, 0, [(5, 194)])])
-- 133: "RainOrganModel" "readLine"
def mm_t133 : mm_T := [[(0, .aload_n 0, 1), (1, .invokevirtual 126, 3), (4, .istore_n 1, 1), (5, .iload_n 1, 1), (6, .i2l, 1), (7, .lconst 0, 1), (8, .ldc2_w 153, 3), (11, .invokestatic 81, 3), (14, .ifCond .ne 9, 3), (17, .aload_n 0, 1), (18, .iconst 2, 1), (19, .invokevirtual 115, 3), (22, .return_, 1), (23, .iload_n 1, 1), (24, .iconst 4, 1), (25, .if_icmp .gt 11, 3), (28, .aload_n 0, 1), (29, .iload_n 1, 1), (30, .invokevirtual 155, 3)],
   [(33, .goto 65, 3), (36, .aload_n 0, 1), (37, .getfield 158, 3), (40, .iload_n 1, 1), (41, .ishr, 1), (42, .iconst 1, 1), (43, .iand, 1), (44, .iconst 1, 1), (45, .if_icmp .ne 8, 3), (48, .aload_n 0, 1), (49, .iconst 4, 1), (50, .invokevirtual 115, 3), (53, .aload_n 0, 1), (54, .dup, 1), (55, .getfield 158, 3), (58, .iconst 1, 1), (59, .iload_n 1, 1), (60, .ishl, 1), (61, .ior, 1), (62, .putfield 158, 3)],
   [(65, .aload_n 0, 1), (66, .invokevirtual 123, 3), (69, .iload_n 1, 1), (70, .iconst 5, 1), (71, .if_icmp .ne 15, 3), (74, .aload_n 0, 1), (75, .bipush 73, 2), (77, .sipush 255, 3), (80, .invokevirtual 150, 3), (83, .goto 15, 3), (86, .aload_n 0, 1), (87, .aload_n 0, 1), (88, .iconst 0, 1), (89, .sipush 999, 3), (92, .invokevirtual 133, 3), (95, .putfield 161, 3)],
   [(98, .aload_n 0, 1), (99, .getfield 85, 3), (102, .ifCond .ne 16, 3), (105, .aload_n 0, 1), (106, .getfield 94, 3), (109, .iconst 3, 1), (110, .if_icmp .eq 8, 3), (113, .aload_n 0, 1), (114, .iconst 2, 1), (115, .invokevirtual 115, 3), (118, .aload_n 0, 1), (119, .invokevirtual 123, 3), (122, .return_, 1)]]
def mm_r133 : mm_R := ((yX10_readLine, cX10_readLine, 2, none, 0, false, [(5, 165), (1, 11), (0, 45)], (5, 166)),
   RX10, mm_t133, [(81, 2, 120, 10, 0, [(5, 140)]),
    (85, 0, 10, 24, 0, [(5, 16)]),
    (94, 0, 10, 28, 0, [(5, 20)]),
    (115, 1, 124, 10, 0, [(5, 159)]),
    (123, 1, 126, 10, 0, [(5, 147)]),
    (126, 1, 125, 10, 0, [(5, 167)]),
    (133, 1, 128, 10, 0, [(5, 176)]),
    (150, 1, 131, 10, 0, [(5, 194)]),
    (153, 11, 0, 0, 6, [(5, 171)]),
    (155, 1, 132, 10, 0, [(5, 172)]),
    (158, 0, 10, 20, 0, [(5, 12)]),
    (161, 0, 10, 17, 0, [(5, 9)])])
-- 134: "RainOrganModel" "takes"
def mm_t134 : mm_T := [[(0, .iconst 0, 1), (1, .istore_n 1, 1), (2, .iload_n 1, 1), (3, .sipush 140, 3), (6, .if_icmp .ge 21, 3), (9, .aload_n 0, 1), (10, .getfield 7, 3), (13, .iload_n 1, 1), (14, .aload_n 0, 1), (15, .getfield 25, 3), (18, .iload_n 1, 1), (19, .iaload, 1), (20, .iastore, 1), (21, .iinc 1 1, 3), (24, .goto (-22), 3), (27, .iconst 0, 1), (28, .istore_n 1, 1), (29, .iload_n 1, 1), (30, .bipush 12, 2)],
   [(32, .if_icmp .ge 75, 3), (35, .aload_n 0, 1), (36, .getfield 13, 3), (39, .iload_n 1, 1), (40, .bipush 8, 2), (42, .irem, 1), (43, .aload_n 0, 1), (44, .getfield 28, 3), (47, .iload_n 1, 1), (48, .bipush 8, 2), (50, .irem, 1), (51, .iaload, 1), (52, .iastore, 1), (53, .aload_n 0, 1), (54, .getfield 16, 3), (57, .iload_n 1, 1), (58, .bipush 10, 2), (60, .irem, 1), (61, .aload_n 0, 1), (62, .getfield 31, 3)],
   [(65, .iload_n 1, 1), (66, .bipush 10, 2), (68, .irem, 1), (69, .iaload, 1), (70, .iastore, 1), (71, .aload_n 0, 1), (72, .getfield 19, 3), (75, .iload_n 1, 1), (76, .bipush 8, 2), (78, .irem, 1), (79, .aload_n 0, 1), (80, .getfield 34, 3), (83, .iload_n 1, 1), (84, .bipush 8, 2), (86, .irem, 1), (87, .iaload, 1), (88, .iastore, 1), (89, .aload_n 0, 1), (90, .getfield 22, 3), (93, .iload_n 1, 1), (94, .aload_n 0, 1), (95, .getfield 37, 3)],
   [(98, .iload_n 1, 1), (99, .iaload, 1), (100, .iastore, 1), (101, .iinc 1 1, 3), (104, .goto (-75), 3), (107, .aload_n 0, 1), (108, .aload_n 0, 1), (109, .getfield 40, 3), (112, .iconst 0, 1), (113, .iaload, 1), (114, .putfield 164, 3), (117, .aload_n 0, 1), (118, .aload_n 0, 1), (119, .getfield 40, 3), (122, .iconst 1, 1), (123, .iaload, 1), (124, .putfield 167, 3), (127, .aload_n 0, 1)],
   [(128, .aload_n 0, 1), (129, .getfield 40, 3), (132, .iconst 2, 1), (133, .iaload, 1), (134, .putfield 170, 3), (137, .aload_n 0, 1), (138, .aload_n 0, 1), (139, .getfield 40, 3), (142, .iconst 3, 1), (143, .iaload, 1), (144, .putfield 173, 3), (147, .aload_n 0, 1), (148, .aload_n 0, 1), (149, .getfield 40, 3), (152, .iconst 4, 1), (153, .iaload, 1), (154, .putfield 176, 3), (157, .aload_n 0, 1), (158, .aload_n 0, 1), (159, .getfield 161, 3)],
   [(162, .putfield 179, 3), (165, .aload_n 0, 1), (166, .getfield 64, 3), (169, .iconst 0, 1), (170, .iconst 0, 1), (171, .bastore, 1), (172, .aload_n 0, 1), (173, .getfield 64, 3), (176, .iconst 1, 1), (177, .iconst 0, 1), (178, .bastore, 1), (179, .return_, 1)]]
def mm_r134 : mm_R := ((yX10_takes, cX10_takes, 2, none, 0, false, [(5, 200), (1, 11), (0, 53)], (5, 201)),
   RX10, mm_t134, [(7, 0, 10, 0, 2, [(4, 232)]),
    (13, 0, 10, 7, 2, [(4, 239)]),
    (16, 0, 10, 8, 2, [(5, 0)]),
    (19, 0, 10, 9, 2, [(5, 1)]),
    (22, 0, 10, 10, 2, [(5, 2)]),
    (25, 0, 10, 11, 2, [(5, 3)]),
    (28, 0, 10, 12, 2, [(5, 4)]),
    (31, 0, 10, 13, 2, [(5, 5)]),
    (34, 0, 10, 14, 2, [(5, 6)]),
    (37, 0, 10, 15, 2, [(5, 7)]),
    (40, 0, 10, 16, 2, [(5, 8)]),
    (64, 0, 10, 41, 2, [(5, 33)]),
    (161, 0, 10, 17, 0, [(5, 9)]),
    (164, 0, 10, 1, 0, [(4, 233)]),
    (167, 0, 10, 2, 0, [(4, 234)]),
    (170, 0, 10, 3, 0, [(4, 235)]),
    (173, 0, 10, 4, 0, [(4, 236)]),
    (176, 0, 10, 5, 0, [(4, 237)]),
    (179, 0, 10, 6, 0, [(4, 238)])])
-- 135: "RainOrganModel" "organ"
def mm_t135 : mm_T := [[(0, .aload_n 0, 1), (1, .iconst 0, 1), (2, .putfield 85, 3), (5, .aload_n 0, 1), (6, .iconst 0, 1), (7, .putfield 97, 3), (10, .aload_n 0, 1), (11, .iconst 0, 1), (12, .putfield 158, 3), (15, .aload_n 0, 1), (16, .iconst 0, 1), (17, .putfield 161, 3), (20, .aload_n 0, 1), (21, .iconst (-1), 1), (22, .putfield 130, 3), (25, .aload_n 0, 1), (26, .iconst (-1), 1), (27, .putfield 137, 3), (30, .iconst 0, 1), (31, .istore_n 1, 1)],
   [(32, .iconst 0, 1), (33, .istore_n 2, 1), (34, .iload_n 2, 1), (35, .sipush 140, 3), (38, .if_icmp .ge 25, 3), (41, .aload_n 0, 1), (42, .getfield 25, 3), (45, .iload_n 2, 1), (46, .iconst 0, 1), (47, .iastore, 1), (48, .aload_n 0, 1), (49, .getfield 40, 3), (52, .iload_n 2, 1), (53, .iconst 5, 1), (54, .irem, 1), (55, .iconst 0, 1), (56, .iastore, 1), (57, .iinc 2 1, 3), (60, .goto (-26), 3), (63, .aload_n 0, 1)],
   [(64, .invokevirtual 123, 3), (67, .aload_n 0, 1), (68, .getfield 85, 3), (71, .ifCond .ne 20, 3), (74, .aload_n 0, 1), (75, .getfield 94, 3), (78, .ifCond .eq 13, 3), (81, .aload_n 0, 1), (82, .invokevirtual 182, 3), (85, .iinc 1 1, 3), (88, .goto (-21), 3), (91, .aload_n 0, 1), (92, .getfield 85, 3), (95, .ifCond .ne 35, 3)],
   [(98, .aload_n 0, 1), (99, .getfield 130, 3), (102, .aload_n 0, 1), (103, .getfield 40, 3), (106, .iconst 1, 1), (107, .iaload, 1), (108, .if_icmp .ge 16, 3), (111, .aload_n 0, 1), (112, .getfield 137, 3), (115, .aload_n 0, 1), (116, .getfield 40, 3), (119, .iconst 2, 1), (120, .iaload, 1), (121, .if_icmp .lt 9, 3), (124, .aload_n 0, 1), (125, .bipush 6, 2), (127, .invokevirtual 115, 3)],
   [(130, .aload_n 0, 1), (131, .iconst 0, 1), (132, .putfield 77, 3), (135, .aload_n 0, 1), (136, .aload_n 0, 1), (137, .getfield 85, 3), (140, .putfield 185, 3), (143, .aload_n 0, 1), (144, .getfield 85, 3), (147, .ifCond .le 11, 3), (150, .bipush (-10), 2), (152, .aload_n 0, 1), (153, .getfield 91, 3), (156, .isub, 1), (157, .ireturn, 1), (158, .aload_n 0, 1), (159, .invokevirtual 188, 3)],
   [(162, .iload_n 1, 1), (163, .ireturn, 1)]]
def mm_r135 : mm_R := ((yX10_organ, cX10_organ, 3, (some .int), 0, false, [(5, 144), (1, 11), (5, 145)], (5, 146)),
   RX10, mm_t135, [(25, 0, 10, 11, 2, [(5, 3)]),
    (40, 0, 10, 16, 2, [(5, 8)]),
    (77, 0, 10, 22, 0, [(5, 14)]),
    (85, 0, 10, 24, 0, [(5, 16)]),
    (91, 0, 10, 25, 0, [(5, 17)]),
    (94, 0, 10, 28, 0, [(5, 20)]),
    (97, 0, 10, 26, 0, [(5, 18)]),
    (115, 1, 124, 10, 0, [(5, 159)]),
    (123, 1, 126, 10, 0, [(5, 147)]),
    (130, 0, 10, 18, 0, [(5, 10)]),
    (137, 0, 10, 19, 0, [(5, 11)]),
    (158, 0, 10, 20, 0, [(5, 12)]),
    (161, 0, 10, 17, 0, [(5, 9)]),
    (182, 1, 133, 10, 0, [(5, 163)]),
    (185, 0, 10, 23, 0, [(5, 15)]),
    (188, 1, 134, 10, 0, [(5, 198)])])
-- 136: "RainOrganModel" "fault"
def mm_t136 : mm_T := [[(0, .aload_n 0, 1), (1, .getfield 185, 3), (4, .ireturn, 1)]]
def mm_r136 : mm_R := ((yX10_fault, cX10_fault, 1, (some .int), 0, false, [(5, 203), (1, 11), (5, 204)], (5, 205)),
   RX10, mm_t136, [(185, 0, 10, 23, 0, [(5, 15)])])
-- 137: "RainOrganModel" "rule"
def mm_t137 : mm_T := [[(0, .iload_n 1, 1), (1, .tableswitch 81 0 6 #[43, 48, 53, 58, 63, 71, 76], 43)],
   [(44, .aload_n 0, 1), (45, .getfield 164, 3), (48, .ireturn, 1), (49, .aload_n 0, 1), (50, .getfield 167, 3), (53, .ireturn, 1), (54, .aload_n 0, 1), (55, .getfield 170, 3), (58, .ireturn, 1), (59, .aload_n 0, 1), (60, .getfield 173, 3), (63, .ireturn, 1)],
   [(64, .aload_n 0, 1), (65, .getfield 7, 3), (68, .bipush 73, 2), (70, .iaload, 1), (71, .ireturn, 1), (72, .aload_n 0, 1), (73, .getfield 176, 3), (76, .ireturn, 1), (77, .aload_n 0, 1), (78, .getfield 179, 3), (81, .ireturn, 1), (82, .iconst (-1), 1), (83, .ireturn, 1)]]
def mm_r137 : mm_R := ((yX10_rule, cX10_rule, 2, (some .int), 1, false, [(5, 207), (1, 11), (5, 208)], (5, 209)),
   RX10, mm_t137, [(7, 0, 10, 0, 2, [(4, 232)]),
    (164, 0, 10, 1, 0, [(4, 233)]),
    (167, 0, 10, 2, 0, [(4, 234)]),
    (170, 0, 10, 3, 0, [(4, 235)]),
    (173, 0, 10, 4, 0, [(4, 236)]),
    (176, 0, 10, 5, 0, [(4, 237)]),
    (179, 0, 10, 6, 0, [(4, 238)])])
-- 138: "RainOrganModel" "isGutter"
def mm_t138 : mm_T := [[(0, .iload_n 1, 1), (1, .i2l, 1), (2, .lconst 0, 1), (3, .aload_n 0, 1), (4, .getfield 167, 3), (7, .iconst 1, 1), (8, .isub, 1), (9, .i2l, 1), (10, .invokestatic 81, 3), (13, .ireturn, 1)]]
def mm_r138 : mm_R := ((yX10_isGutter, cX10_isGutter, 2, (some .boolean), 1, false, [(5, 216), (1, 11), (0, 54)], (5, 217)),
   RX10, mm_t138, [(81, 2, 120, 10, 0, [(5, 140)]),
    (167, 0, 10, 2, 0, [(4, 234)])])
-- 139: "RainOrganModel" "isSpout"
def mm_t139 : mm_T := [[(0, .iload_n 1, 1), (1, .i2l, 1), (2, .lconst 0, 1), (3, .aload_n 0, 1), (4, .getfield 170, 3), (7, .iconst 1, 1), (8, .isub, 1), (9, .i2l, 1), (10, .invokestatic 81, 3), (13, .ireturn, 1)]]
def mm_r139 : mm_R := ((yX10_isSpout, cX10_isSpout, 2, (some .boolean), 1, false, [(5, 224), (1, 11), (0, 55)], (5, 225)),
   RX10, mm_t139, [(81, 2, 120, 10, 0, [(5, 140)]),
    (170, 0, 10, 3, 0, [(4, 235)])])
-- 140: "RainOrganModel" "isShower"
def mm_t140 : mm_T := [[(0, .iload_n 1, 1), (1, .i2l, 1), (2, .lconst 0, 1), (3, .aload_n 0, 1), (4, .getfield 173, 3), (7, .iconst 1, 1), (8, .isub, 1), (9, .i2l, 1), (10, .invokestatic 81, 3), (13, .ireturn, 1)]]
def mm_r140 : mm_R := ((yX10_isShower, cX10_isShower, 2, (some .boolean), 1, false, [(6, 62), (1, 11), (0, 65)], (6, 63)),
   RX10, mm_t140, [(81, 2, 120, 10, 0, [(5, 140)]),
    (173, 0, 10, 4, 0, [(4, 236)])])
-- 141: "RainOrganModel" "gutter"
def mm_t141 : mm_T := [[(0, .aload_n 0, 1), (1, .iload_n 1, 1), (2, .invokevirtual 191, 3), (5, .ifCond .ne 5, 3), (8, .iconst (-1), 1), (9, .ireturn, 1), (10, .iload_n 2, 1), (11, .i2l, 1), (12, .lconst 0, 1), (13, .lconst 1, 1), (14, .invokestatic 81, 3), (17, .ifCond .eq 16, 3), (20, .aload_n 0, 1), (21, .getfield 16, 3), (24, .iconst 2, 1), (25, .iload_n 1, 1), (26, .imul, 1), (27, .iload_n 2, 1), (28, .iadd, 1), (29, .iaload, 1), (30, .goto 36, 3)],
   [(33, .iload_n 2, 1), (34, .iconst 2, 1), (35, .if_icmp .ne 14, 3), (38, .aload_n 0, 1), (39, .getfield 7, 3), (42, .iconst 0, 1), (43, .iload_n 1, 1), (44, .iadd, 1), (45, .iaload, 1), (46, .goto 20, 3), (49, .iload_n 2, 1), (50, .iconst 3, 1), (51, .if_icmp .ne 14, 3), (54, .aload_n 0, 1), (55, .getfield 7, 3), (58, .iconst 5, 1), (59, .iload_n 1, 1), (60, .iadd, 1), (61, .iaload, 1), (62, .goto 4, 3)],
   [(65, .iconst (-1), 1), (66, .ireturn, 1)]]
def mm_r141 : mm_R := ((yX10_gutter, cX10_gutter, 3, (some .int), 2, false, [(5, 211), (1, 11), (5, 212)], (5, 213)),
   RX10, mm_t141, [(7, 0, 10, 0, 2, [(4, 232)]),
    (16, 0, 10, 8, 2, [(5, 0)]),
    (81, 2, 120, 10, 0, [(5, 140)]),
    (191, 1, 138, 10, 0, [(5, 214)])])
-- 142: "RainOrganModel" "spout"
def mm_t142 : mm_T := [[(0, .aload_n 0, 1), (1, .iload_n 1, 1), (2, .invokevirtual 195, 3), (5, .ifCond .ne 5, 3), (8, .iconst (-1), 1), (9, .ireturn, 1), (10, .iload_n 2, 1), (11, .tableswitch 122 0 7 #[45, 52, 62, 72, 82, 92, 102, 112], 45)],
   [(56, .aload_n 0, 1), (57, .getfield 19, 3), (60, .iload_n 1, 1), (61, .iaload, 1), (62, .ireturn, 1), (63, .aload_n 0, 1)],
   [(64, .getfield 7, 3), (67, .bipush 10, 2), (69, .iload_n 1, 1), (70, .iadd, 1), (71, .iaload, 1), (72, .ireturn, 1), (73, .aload_n 0, 1), (74, .getfield 7, 3), (77, .bipush 18, 2), (79, .iload_n 1, 1), (80, .iadd, 1), (81, .iaload, 1), (82, .ireturn, 1), (83, .aload_n 0, 1), (84, .getfield 7, 3), (87, .bipush 26, 2), (89, .iload_n 1, 1), (90, .iadd, 1), (91, .iaload, 1), (92, .ireturn, 1), (93, .aload_n 0, 1), (94, .getfield 7, 3)],
   [(97, .bipush 86, 2), (99, .iload_n 1, 1), (100, .iadd, 1), (101, .iaload, 1), (102, .ireturn, 1), (103, .aload_n 0, 1), (104, .getfield 7, 3), (107, .bipush 102, 2), (109, .iload_n 1, 1), (110, .iadd, 1), (111, .iaload, 1), (112, .ireturn, 1), (113, .aload_n 0, 1), (114, .getfield 7, 3), (117, .bipush 118, 2), (119, .iload_n 1, 1), (120, .iadd, 1), (121, .iaload, 1), (122, .ireturn, 1), (123, .aload_n 0, 1), (124, .getfield 7, 3), (127, .bipush 110, 2)],
   [(129, .iload_n 1, 1), (130, .iadd, 1), (131, .iaload, 1), (132, .ireturn, 1), (133, .iconst (-1), 1), (134, .ireturn, 1)]]
def mm_r142 : mm_R := ((yX10_spout, cX10_spout, 3, (some .int), 2, false, [(5, 219), (1, 11), (5, 220)], (5, 221)),
   RX10, mm_t142, [(7, 0, 10, 0, 2, [(4, 232)]),
    (19, 0, 10, 9, 2, [(5, 1)]),
    (195, 1, 139, 10, 0, [(5, 222)])])
-- 143: "RainOrganModel" "peg"
def mm_t143 : mm_T := [[(0, .aload_n 0, 1), (1, .iload_n 1, 1), (2, .invokevirtual 191, 3), (5, .ifCond .eq 15, 3), (8, .iload_n 2, 1), (9, .i2l, 1), (10, .lconst 0, 1), (11, .ldc2_w 198, 3), (14, .invokestatic 81, 3), (17, .ifCond .ne 5, 3), (20, .iconst (-1), 1), (21, .ireturn, 1), (22, .aload_n 0, 1), (23, .getfield 7, 3), (26, .iconst 0, 1), (27, .iload_n 1, 1), (28, .iadd, 1), (29, .iaload, 1), (30, .istore_n 3, 1), (31, .aload_n 0, 1)],
   [(32, .getfield 7, 3), (35, .iconst 0, 1), (36, .iload_n 1, 1), (37, .iadd, 1), (38, .iload_n 2, 1), (39, .iastore, 1), (40, .iload_n 3, 1), (41, .ireturn, 1)]]
def mm_r143 : mm_R := ((yX10_peg, cX10_peg, 4, (some .int), 2, false, [(5, 227), (1, 11), (5, 228)], (5, 229)),
   RX10, mm_t143, [(7, 0, 10, 0, 2, [(4, 232)]),
    (81, 2, 120, 10, 0, [(5, 140)]),
    (191, 1, 138, 10, 0, [(5, 214)]),
    (198, 11, 0, 0, 2, [(5, 230)])])
-- 144: "RainOrganModel" "block"
def mm_t144 : mm_T := [[(0, .aload_n 0, 1), (1, .iload_n 1, 1), (2, .invokevirtual 191, 3), (5, .ifCond .ne 5, 3), (8, .iconst (-1), 1), (9, .ireturn, 1), (10, .aload_n 0, 1), (11, .getfield 7, 3), (14, .iconst 5, 1), (15, .iload_n 1, 1), (16, .iadd, 1), (17, .iaload, 1), (18, .istore_n 3, 1), (19, .aload_n 0, 1), (20, .getfield 7, 3), (23, .iconst 5, 1), (24, .iload_n 1, 1), (25, .iadd, 1), (26, .iload_n 2, 1), (27, .ifCond .eq 7, 3), (30, .iconst 1, 1), (31, .goto 4, 3)],
   [(34, .iconst 0, 1), (35, .iastore, 1), (36, .iload_n 3, 1), (37, .ireturn, 1)]]
def mm_r144 : mm_R := ((yX10_block, cX10_block, 4, (some .int), 2, false, [(5, 232), (1, 11), (5, 233)], (5, 234)),
   RX10, mm_t144, [(7, 0, 10, 0, 2, [(4, 232)]),
    (191, 1, 138, 10, 0, [(5, 214)])])
-- 145: "RainOrganModel" "cup"
def mm_t145 : mm_T := [[(0, .aload_n 0, 1), (1, .iload_n 1, 1), (2, .invokevirtual 195, 3), (5, .ifCond .eq 12, 3), (8, .iload_n 2, 1), (9, .ifCond .eq 10, 3), (12, .iload_n 2, 1), (13, .iconst 5, 1), (14, .if_icmp .eq 5, 3), (17, .iconst (-1), 1), (18, .ireturn, 1), (19, .aload_n 0, 1), (20, .getfield 7, 3), (23, .bipush 10, 2), (25, .iload_n 1, 1), (26, .iadd, 1), (27, .iaload, 1), (28, .istore_n 3, 1), (29, .aload_n 0, 1), (30, .getfield 7, 3)],
   [(33, .bipush 10, 2), (35, .iload_n 1, 1), (36, .iadd, 1), (37, .iload_n 2, 1), (38, .iastore, 1), (39, .aload_n 0, 1), (40, .getfield 7, 3), (43, .bipush 18, 2), (45, .iload_n 1, 1), (46, .iadd, 1), (47, .iconst 0, 1), (48, .iastore, 1), (49, .aload_n 0, 1), (50, .getfield 7, 3), (53, .bipush 26, 2), (55, .iload_n 1, 1), (56, .iadd, 1), (57, .bipush (-4), 2), (59, .iastore, 1), (60, .aload_n 0, 1), (61, .getfield 7, 3)],
   [(64, .sipush 136, 3), (67, .dup2, 1), (68, .iaload, 1), (69, .aload_n 0, 1), (70, .getfield 7, 3), (73, .bipush 86, 2), (75, .iload_n 1, 1), (76, .iadd, 1), (77, .iaload, 1), (78, .iadd, 1), (79, .iastore, 1), (80, .aload_n 0, 1), (81, .getfield 7, 3), (84, .bipush 86, 2), (86, .iload_n 1, 1), (87, .iadd, 1), (88, .iconst 0, 1), (89, .iastore, 1), (90, .aload_n 0, 1), (91, .getfield 7, 3), (94, .bipush 94, 2)],
   [(96, .iload_n 1, 1), (97, .iadd, 1), (98, .iconst 0, 1), (99, .iastore, 1), (100, .iload_n 3, 1), (101, .ireturn, 1)]]
def mm_r145 : mm_R := ((yX10_cup, cX10_cup, 4, (some .int), 2, false, [(5, 236), (1, 11), (5, 237)], (5, 238)),
   RX10, mm_t145, [(7, 0, 10, 0, 2, [(4, 232)]),
    (195, 1, 139, 10, 0, [(5, 222)])])
-- 146: "RainOrganModel" "settingMany"
def mm_t146 : mm_T := [[(0, .iconst 1, 1), (1, .istore_n 1, 1), (2, .iconst 0, 1), (3, .istore_n 2, 1), (4, .iload_n 2, 1), (5, .aload_n 0, 1), (6, .getfield 167, 3), (9, .if_icmp .ge 13, 3), (12, .iload_n 1, 1), (13, .iconst 3, 1), (14, .imul, 1), (15, .istore_n 1, 1), (16, .iinc 2 1, 3), (19, .goto (-15), 3), (22, .iload_n 1, 1), (23, .ireturn, 1)]]
def mm_r146 : mm_R := ((yX10_settingMany, cX10_settingMany, 3, (some .int), 0, false, [(6, 5), (1, 11), (0, 56)], (6, 6)),
   RX10, mm_t146, [(167, 0, 10, 2, 0, [(4, 234)])])
-- 147: "RainOrganModel" "settingsNow"
def mm_t147 : mm_T := [[(0, .iconst 0, 1), (1, .istore_n 1, 1), (2, .aload_n 0, 1), (3, .getfield 167, 3), (6, .iconst 1, 1), (7, .isub, 1), (8, .istore_n 2, 1), (9, .iload_n 2, 1), (10, .ifCond .lt 22, 3), (13, .iconst 3, 1), (14, .iload_n 1, 1), (15, .imul, 1), (16, .aload_n 0, 1), (17, .getfield 7, 3), (20, .iconst 0, 1), (21, .iload_n 2, 1), (22, .iadd, 1), (23, .iaload, 1), (24, .iadd, 1), (25, .istore_n 1, 1), (26, .iinc 2 (-1), 3), (29, .goto (-20), 3)],
   [(32, .iload_n 1, 1), (33, .ireturn, 1)]]
def mm_r147 : mm_R := ((yX10_settingsNow, cX10_settingsNow, 3, (some .int), 0, false, [(6, 9), (1, 11), (0, 57)], (6, 10)),
   RX10, mm_t147, [(7, 0, 10, 0, 2, [(4, 232)]),
    (167, 0, 10, 2, 0, [(4, 234)])])
-- 148: "RainOrganModel" "sets"
def mm_t148 : mm_T := [[(0, .iload_n 1, 1), (1, .istore_n 2, 1), (2, .iconst 0, 1), (3, .istore_n 3, 1), (4, .iload_n 3, 1), (5, .aload_n 0, 1), (6, .getfield 167, 3), (9, .if_icmp .ge 24, 3), (12, .aload_n 0, 1), (13, .getfield 7, 3), (16, .iconst 0, 1), (17, .iload_n 3, 1), (18, .iadd, 1), (19, .iload_n 2, 1), (20, .iconst 3, 1), (21, .irem, 1), (22, .iastore, 1), (23, .iload_n 2, 1), (24, .iconst 3, 1), (25, .idiv, 1), (26, .istore_n 2, 1), (27, .iinc 3 1, 3), (30, .goto (-26), 3)],
   [(33, .return_, 1)]]
def mm_r148 : mm_R := ((yX10_sets, cX10_sets, 4, none, 1, false, [(6, 13), (1, 11), (0, 58)], (6, 14)),
   RX10, mm_t148, [(7, 0, 10, 0, 2, [(4, 232)]),
    (167, 0, 10, 2, 0, [(4, 234)])])
-- 149: "RainOrganModel" "settings"
def mm_t149 : mm_T := [[(0, .iload_n 1, 1), (1, .i2l, 1), (2, .lconst 0, 1), (3, .aload_n 0, 1), (4, .invokevirtual 200, 3), (7, .iconst 1, 1), (8, .isub, 1), (9, .i2l, 1), (10, .invokestatic 81, 3), (13, .ifCond .ne 5, 3), (16, .iconst (-1), 1), (17, .ireturn, 1), (18, .aload_n 0, 1), (19, .invokevirtual 203, 3), (22, .istore_n 2, 1), (23, .aload_n 0, 1), (24, .iload_n 1, 1), (25, .invokevirtual 206, 3), (28, .iload_n 2, 1), (29, .ireturn, 1)]]
def mm_r149 : mm_R := ((yX10_settings, cX10_settings, 3, (some .int), 1, false, [(6, 0), (1, 11), (6, 1)], (6, 2)),
   RX10, mm_t149, [(81, 2, 120, 10, 0, [(5, 140)]),
    (200, 1, 146, 10, 0, [(6, 3)]),
    (203, 1, 147, 10, 0, [(6, 7)]),
    (206, 1, 148, 10, 0, [(6, 11)])])
-- 150: "RainOrganModel" "leads"
def mm_t150 : mm_T := [[(0, .iload_n 2, 1), (1, .bipush 20, 2), (3, .if_icmp .ne 20, 3), (6, .aload_n 0, 1), (7, .getfield 7, 3), (10, .iload_n 1, 1), (11, .sipush 136, 3), (14, .iadd, 1), (15, .dup2, 1), (16, .iaload, 1), (17, .iload_n 3, 1), (18, .iadd, 1), (19, .iastore, 1), (20, .goto 35, 3), (23, .iload_n 2, 1), (24, .bipush 10, 2), (26, .if_icmp .lt 19, 3), (29, .aload_n 0, 1), (30, .getfield 55, 3)],
   [(33, .iload_n 2, 1), (34, .bipush 10, 2), (36, .isub, 1), (37, .dup2, 1), (38, .iaload, 1), (39, .iload_n 3, 1), (40, .iadd, 1), (41, .iastore, 1), (42, .goto 13, 3), (45, .aload_n 0, 1), (46, .getfield 52, 3), (49, .iload_n 2, 1), (50, .dup2, 1), (51, .iaload, 1), (52, .iload_n 3, 1), (53, .iadd, 1), (54, .iastore, 1), (55, .return_, 1)]]
def mm_r150 : mm_R := ((yX10_leads, cX10_leads, 4, none, 3, false, [(6, 30), (1, 11), (0, 61)], (6, 31)),
   RX10, mm_t150, [(7, 0, 10, 0, 2, [(4, 232)]),
    (52, 0, 10, 32, 2, [(5, 24)]),
    (55, 0, 10, 33, 2, [(5, 25)])])
-- 151: "RainOrganModel" "gutters"
def mm_t151 : mm_T := [[(0, .iconst 0, 1), (1, .istore_n 3, 1), (2, .iload_n 3, 1), (3, .bipush 8, 2), (5, .if_icmp .ge 25, 3), (8, .aload_n 0, 1), (9, .getfield 52, 3), (12, .iload_n 3, 1), (13, .iconst 5, 1), (14, .irem, 1), (15, .iconst 0, 1), (16, .iastore, 1), (17, .aload_n 0, 1), (18, .getfield 55, 3), (21, .iload_n 3, 1), (22, .iconst 0, 1), (23, .iastore, 1), (24, .iinc 3 1, 3), (27, .goto (-25), 3), (30, .iconst 0, 1), (31, .istore_n 3, 1)],
   [(32, .iload_n 3, 1), (33, .aload_n 0, 1), (34, .getfield 164, 3), (37, .if_icmp .ge 60, 3), (40, .aload_n 0, 1), (41, .getfield 52, 3), (44, .aload_n 0, 1), (45, .getfield 13, 3), (48, .iconst 2, 1), (49, .iload_n 3, 1), (50, .imul, 1), (51, .iconst 1, 1), (52, .iadd, 1), (53, .iaload, 1), (54, .dup2, 1), (55, .iaload, 1), (56, .aload_n 0, 1), (57, .getfield 13, 3), (60, .iconst 2, 1), (61, .iload_n 3, 1), (62, .imul, 1), (63, .iaload, 1)],
   [(64, .iload_n 2, 1), (65, .imul, 1), (66, .iadd, 1), (67, .iastore, 1), (68, .aload_n 0, 1), (69, .getfield 7, 3), (72, .iload_n 1, 1), (73, .sipush 135, 3), (76, .iadd, 1), (77, .dup2, 1), (78, .iaload, 1), (79, .aload_n 0, 1), (80, .getfield 13, 3), (83, .iconst 2, 1), (84, .iload_n 3, 1), (85, .imul, 1), (86, .iaload, 1), (87, .iload_n 2, 1), (88, .imul, 1), (89, .iadd, 1), (90, .iastore, 1), (91, .iinc 3 1, 3), (94, .goto (-62), 3)],
   [(97, .iconst 0, 1), (98, .istore_n 3, 1), (99, .iload_n 3, 1), (100, .aload_n 0, 1), (101, .getfield 167, 3), (104, .if_icmp .ge 139, 3), (107, .aload_n 0, 1), (108, .getfield 52, 3), (111, .iload_n 3, 1), (112, .iaload, 1), (113, .istore 4, 2), (115, .aload_n 0, 1), (116, .getfield 7, 3), (119, .iconst 0, 1), (120, .iload_n 3, 1), (121, .iadd, 1), (122, .iaload, 1), (123, .istore 5, 2), (125, .iload 5, 2), (127, .ifCond .ne 8, 3)],
   [(130, .iload 4, 2), (132, .goto 38, 3), (135, .iload 5, 2), (137, .iconst 1, 1), (138, .if_icmp .ne 7, 3), (141, .iconst 0, 1), (142, .goto 28, 3), (145, .iload 4, 2), (147, .aload_n 0, 1), (148, .getfield 7, 3), (151, .iload_n 1, 1), (152, .sipush 134, 3), (155, .iadd, 1), (156, .iaload, 1), (157, .iconst 2, 1), (158, .irem, 1), (159, .ifCond .ne 7, 3)],
   [(162, .iconst 1, 1), (163, .goto 4, 3), (166, .iconst 0, 1), (167, .iadd, 1), (168, .iconst 2, 1), (169, .idiv, 1), (170, .istore 6, 2), (172, .aload_n 0, 1), (173, .getfield 7, 3), (176, .iconst 5, 1), (177, .iload_n 3, 1), (178, .iadd, 1), (179, .iaload, 1), (180, .iconst 1, 1), (181, .if_icmp .ne 21, 3), (184, .aload_n 0, 1), (185, .getfield 7, 3), (188, .iload_n 1, 1), (189, .sipush 136, 3)],
   [(192, .iadd, 1), (193, .dup2, 1), (194, .iaload, 1), (195, .iload 4, 2), (197, .iadd, 1), (198, .iastore, 1), (199, .goto 38, 3), (202, .aload_n 0, 1), (203, .iload_n 1, 1), (204, .aload_n 0, 1), (205, .getfield 16, 3), (208, .iconst 2, 1), (209, .iload_n 3, 1), (210, .imul, 1), (211, .iaload, 1), (212, .iload 6, 2), (214, .invokevirtual 209, 3), (217, .aload_n 0, 1), (218, .iload_n 1, 1), (219, .aload_n 0, 1), (220, .getfield 16, 3), (223, .iconst 2, 1)],
   [(224, .iload_n 3, 1), (225, .imul, 1), (226, .iconst 1, 1), (227, .iadd, 1), (228, .iaload, 1), (229, .iload 4, 2), (231, .iload 6, 2), (233, .isub, 1), (234, .invokevirtual 209, 3), (237, .iinc 3 1, 3), (240, .goto (-141), 3), (243, .return_, 1)]]
def mm_r151 : mm_R := ((yX10_gutters, cX10_gutters, 7, none, 2, false, [(6, 26), (1, 11), (0, 60)], (6, 27)),
   RX10, mm_t151, [(7, 0, 10, 0, 2, [(4, 232)]),
    (13, 0, 10, 7, 2, [(4, 239)]),
    (16, 0, 10, 8, 2, [(5, 0)]),
    (52, 0, 10, 32, 2, [(5, 24)]),
    (55, 0, 10, 33, 2, [(5, 25)]),
    (164, 0, 10, 1, 0, [(4, 233)]),
    (167, 0, 10, 2, 0, [(4, 234)]),
    (209, 1, 150, 10, 0, [(6, 28)])])
-- 152: "RainOrganModel" "sounds"
def mm_t152 : mm_T := [[(0, .aload_n 0, 1), (1, .getfield 7, 3), (4, .bipush 10, 2), (6, .iload_n 2, 1), (7, .iadd, 1), (8, .iaload, 1), (9, .istore 4, 2), (11, .aload_n 0, 1), (12, .getfield 7, 3), (15, .bipush 18, 2), (17, .iload_n 2, 1), (18, .iadd, 1), (19, .iaload, 1), (20, .istore 5, 2), (22, .aload_n 0, 1), (23, .iconst 0, 1), (24, .putfield 213, 3), (27, .iload 4, 2), (29, .ifCond .eq 9, 3)],
   [(32, .iload 4, 2), (34, .iconst 5, 1), (35, .if_icmp .ne 32, 3), (38, .aload_n 0, 1), (39, .getfield 7, 3), (42, .iload_n 1, 1), (43, .sipush 136, 3), (46, .iadd, 1), (47, .dup2, 1), (48, .iaload, 1), (49, .iload_n 3, 1), (50, .iadd, 1), (51, .iastore, 1), (52, .iload 4, 2), (54, .ifCond .ne 11, 3), (57, .iload_n 3, 1), (58, .ifCond .le 7, 3), (61, .iconst 1, 1), (62, .goto 4, 3)],
   [(65, .iconst 0, 1), (66, .ireturn, 1), (67, .iload 4, 2), (69, .iconst 3, 1), (70, .if_icmp .ne 54, 3), (73, .aload_n 0, 1), (74, .getfield 7, 3), (77, .iload_n 1, 1), (78, .bipush 94, 2), (80, .iadd, 1), (81, .iload_n 2, 1), (82, .iadd, 1), (83, .iaload, 1), (84, .iload_n 3, 1), (85, .iadd, 1), (86, .istore 6, 2), (88, .aload_n 0, 1), (89, .getfield 7, 3), (92, .iload_n 1, 1), (93, .sipush 136, 3)],
   [(96, .iadd, 1), (97, .dup2, 1), (98, .iaload, 1), (99, .iload_n 3, 1), (100, .iadd, 1), (101, .iastore, 1), (102, .aload_n 0, 1), (103, .getfield 7, 3), (106, .iload_n 1, 1), (107, .bipush 94, 2), (109, .iadd, 1), (110, .iload_n 2, 1), (111, .iadd, 1), (112, .iload 6, 2), (114, .iload 5, 2), (116, .irem, 1), (117, .iastore, 1), (118, .iload 6, 2), (120, .iload 5, 2), (122, .idiv, 1), (123, .ireturn, 1), (124, .aload_n 0, 1), (125, .getfield 7, 3)],
   [(128, .iload_n 1, 1), (129, .bipush 86, 2), (131, .iadd, 1), (132, .iload_n 2, 1), (133, .iadd, 1), (134, .iaload, 1), (135, .iload_n 3, 1), (136, .iadd, 1), (137, .istore 6, 2), (139, .iload 4, 2), (141, .iconst 2, 1), (142, .if_icmp .ne 71, 3), (145, .iload 6, 2), (147, .iload 5, 2), (149, .if_icmp .lt 8, 3), (152, .iload 6, 2), (154, .goto 13, 3), (157, .iload 6, 2), (159, .ifCond .le 7, 3)],
   [(162, .iconst 1, 1), (163, .goto 4, 3), (166, .iconst 0, 1), (167, .istore 7, 2), (169, .aload_n 0, 1), (170, .getfield 7, 3), (173, .iload_n 1, 1), (174, .sipush 136, 3), (177, .iadd, 1), (178, .dup2, 1), (179, .iaload, 1), (180, .iload 7, 2), (182, .iadd, 1), (183, .iastore, 1), (184, .aload_n 0, 1), (185, .getfield 7, 3), (188, .iload_n 1, 1), (189, .bipush 86, 2), (191, .iadd, 1)],
   [(192, .iload_n 2, 1), (193, .iadd, 1), (194, .iload 6, 2), (196, .iload 7, 2), (198, .isub, 1), (199, .iastore, 1), (200, .iload 6, 2), (202, .iload 5, 2), (204, .if_icmp .lt 7, 3), (207, .iconst 1, 1), (208, .goto 4, 3), (211, .iconst 0, 1), (212, .ireturn, 1), (213, .iload 6, 2), (215, .iload 5, 2), (217, .idiv, 1), (218, .iload 5, 2), (220, .imul, 1), (221, .istore 7, 2), (223, .aload_n 0, 1)],
   [(224, .getfield 7, 3), (227, .iload_n 1, 1), (228, .bipush 86, 2), (230, .iadd, 1), (231, .iload_n 2, 1), (232, .iadd, 1), (233, .iload 6, 2), (235, .iload 7, 2), (237, .isub, 1), (238, .iastore, 1), (239, .aload_n 0, 1), (240, .getfield 7, 3), (243, .iload_n 1, 1), (244, .sipush 136, 3), (247, .iadd, 1), (248, .dup2, 1), (249, .iaload, 1), (250, .iload 4, 2), (252, .iconst 1, 1), (253, .if_icmp .ne 8, 3)],
   [(256, .iload 7, 2), (258, .goto 4, 3), (261, .iconst 0, 1), (262, .iadd, 1), (263, .iastore, 1), (264, .aload_n 0, 1), (265, .iload 4, 2), (267, .iconst 4, 1), (268, .if_icmp .ne 8, 3), (271, .iload 7, 2), (273, .goto 4, 3), (276, .iconst 0, 1), (277, .putfield 213, 3), (280, .iload 6, 2), (282, .iload 5, 2), (284, .idiv, 1), (285, .ireturn, 1)]]
def mm_r152 : mm_R := ((yX10_sounds, cX10_sounds, 8, (some .int), 3, false, [(6, 34), (1, 11), (0, 62)], (6, 35)),
   RX10, mm_t152, [(7, 0, 10, 0, 2, [(4, 232)]),
    (213, 0, 10, 34, 0, [(5, 26)])])
-- 153: "RainOrganModel" "second"
def mm_t153 : mm_T := [[(0, .aload_n 0, 1), (1, .iload_n 1, 1), (2, .iload_n 2, 1), (3, .invokevirtual 216, 3), (6, .iconst 0, 1), (7, .istore_n 3, 1), (8, .iconst 0, 1), (9, .istore 4, 2), (11, .iload 4, 2), (13, .aload_n 0, 1), (14, .getfield 170, 3), (17, .if_icmp .ge 44, 3), (20, .aload_n 0, 1), (21, .getfield 55, 3), (24, .iload 4, 2), (26, .dup2, 1), (27, .iaload, 1), (28, .aload_n 0, 1), (29, .getfield 7, 3)],
   [(32, .iload_n 1, 1), (33, .bipush 110, 2), (35, .iadd, 1), (36, .iload 4, 2), (38, .iadd, 1), (39, .iaload, 1), (40, .iadd, 1), (41, .iastore, 1), (42, .aload_n 0, 1), (43, .getfield 7, 3), (46, .iload_n 1, 1), (47, .bipush 110, 2), (49, .iadd, 1), (50, .iload 4, 2), (52, .iadd, 1), (53, .iconst 0, 1), (54, .iastore, 1), (55, .iinc 4 1, 3), (58, .goto (-47), 3), (61, .iconst 0, 1), (62, .istore 4, 2)],
   [(64, .iload 4, 2), (66, .aload_n 0, 1), (67, .getfield 170, 3), (70, .if_icmp .ge 155, 3), (73, .aload_n 0, 1), (74, .getfield 7, 3), (77, .iload_n 1, 1), (78, .bipush 102, 2), (80, .iadd, 1), (81, .iload 4, 2), (83, .iadd, 1), (84, .dup2, 1), (85, .iaload, 1), (86, .aload_n 0, 1), (87, .getfield 55, 3), (90, .iload 4, 2), (92, .iaload, 1), (93, .iadd, 1), (94, .iastore, 1), (95, .aload_n 0, 1)],
   [(96, .iload_n 1, 1), (97, .iload 4, 2), (99, .aload_n 0, 1), (100, .getfield 55, 3), (103, .iload 4, 2), (105, .iaload, 1), (106, .invokevirtual 219, 3), (109, .istore 5, 2), (111, .aload_n 0, 1), (112, .getfield 213, 3), (115, .ifCond .le 30, 3), (118, .aload_n 0, 1), (119, .getfield 7, 3), (122, .iload_n 1, 1), (123, .bipush 110, 2), (125, .iadd, 1), (126, .aload_n 0, 1), (127, .getfield 7, 3)],
   [(130, .bipush 26, 2), (132, .iload 4, 2), (134, .iadd, 1), (135, .iaload, 1), (136, .iadd, 1), (137, .dup2, 1), (138, .iaload, 1), (139, .aload_n 0, 1), (140, .getfield 213, 3), (143, .iadd, 1), (144, .iastore, 1), (145, .aload_n 0, 1), (146, .getfield 7, 3), (149, .iload_n 1, 1), (150, .bipush 118, 2), (152, .iadd, 1), (153, .iload 4, 2), (155, .iadd, 1), (156, .iaload, 1), (157, .iconst 1, 1), (158, .if_icmp .ne 7, 3)],
   [(161, .iconst 0, 1), (162, .goto 5, 3), (165, .iload 5, 2), (167, .istore 5, 2), (169, .aload_n 0, 1), (170, .getfield 7, 3), (173, .iload_n 1, 1), (174, .bipush 126, 2), (176, .iadd, 1), (177, .iload 4, 2), (179, .iadd, 1), (180, .iload 5, 2), (182, .iastore, 1), (183, .aload_n 0, 1), (184, .getfield 7, 3), (187, .iload_n 1, 1), (188, .sipush 137, 3), (191, .iadd, 1)],
   [(192, .dup2, 1), (193, .iaload, 1), (194, .iload 5, 2), (196, .iadd, 1), (197, .iastore, 1), (198, .iload_n 3, 1), (199, .iload 5, 2), (201, .ifCond .le 15, 3), (204, .iconst 1, 1), (205, .aload_n 0, 1), (206, .getfield 19, 3), (209, .iload 4, 2), (211, .iaload, 1), (212, .ishl, 1), (213, .goto 4, 3), (216, .iconst 0, 1), (217, .ior, 1), (218, .istore_n 3, 1), (219, .iinc 4 1, 3), (222, .goto (-158), 3)],
   [(225, .iconst 0, 1), (226, .istore 4, 2), (228, .iload 4, 2), (230, .aload_n 0, 1), (231, .getfield 170, 3), (234, .if_icmp .ge 48, 3), (237, .aload_n 0, 1), (238, .getfield 179, 3), (241, .ifCond .le 35, 3), (244, .aload_n 0, 1), (245, .getfield 7, 3), (248, .iload_n 1, 1), (249, .bipush 102, 2), (251, .iadd, 1), (252, .iload 4, 2), (254, .iadd, 1), (255, .iaload, 1)],
   [(256, .aload_n 0, 1), (257, .getfield 179, 3), (260, .if_icmp .lt 16, 3), (263, .aload_n 0, 1), (264, .getfield 7, 3), (267, .iload_n 1, 1), (268, .bipush 118, 2), (270, .iadd, 1), (271, .iload 4, 2), (273, .iadd, 1), (274, .iconst 1, 1), (275, .iastore, 1), (276, .iinc 4 1, 3), (279, .goto (-51), 3), (282, .aload_n 0, 1), (283, .getfield 7, 3), (286, .iload_n 1, 1), (287, .sipush 134, 3)],
   [(290, .iadd, 1), (291, .dup2, 1), (292, .iaload, 1), (293, .iconst 1, 1), (294, .iadd, 1), (295, .iastore, 1), (296, .iload_n 3, 1), (297, .ireturn, 1)]]
def mm_r153 : mm_R := ((yX10_second, cX10_second, 6, (some .int), 2, false, [(6, 22), (1, 11), (0, 59)], (6, 23)),
   RX10, mm_t153, [(7, 0, 10, 0, 2, [(4, 232)]),
    (19, 0, 10, 9, 2, [(5, 1)]),
    (55, 0, 10, 33, 2, [(5, 25)]),
    (170, 0, 10, 3, 0, [(4, 235)]),
    (179, 0, 10, 6, 0, [(4, 238)]),
    (213, 0, 10, 34, 0, [(5, 26)]),
    (216, 1, 151, 10, 0, [(6, 24)]),
    (219, 1, 152, 10, 0, [(6, 32)])])
-- 154: "RainOrganModel" "dries"
def mm_t154 : mm_T := [[(0, .bipush 86, 2), (2, .istore_n 2, 1), (3, .iload_n 2, 1), (4, .sipush 140, 3), (7, .if_icmp .ge 18, 3), (10, .aload_n 0, 1), (11, .getfield 7, 3), (14, .iload_n 1, 1), (15, .iload_n 2, 1), (16, .iadd, 1), (17, .iconst 0, 1), (18, .iastore, 1), (19, .iinc 2 1, 3), (22, .goto (-19), 3), (25, .return_, 1)]]
def mm_r154 : mm_R := ((yX10_dries, cX10_dries, 3, none, 1, false, [(6, 42), (1, 11), (0, 63)], (6, 43)),
   RX10, mm_t154, [(7, 0, 10, 0, 2, [(4, 232)])])
-- 155: "RainOrganModel" "sumOf"
def mm_t155 : mm_T := [[(0, .iconst 0, 1), (1, .istore_n 3, 1), (2, .iconst 0, 1), (3, .istore 4, 2), (5, .iload 4, 2), (7, .bipush 8, 2), (9, .if_icmp .ge 23, 3), (12, .iload_n 3, 1), (13, .aload_n 0, 1), (14, .getfield 7, 3), (17, .iload_n 1, 1), (18, .iload_n 2, 1), (19, .iadd, 1), (20, .iload 4, 2), (22, .iadd, 1), (23, .iaload, 1), (24, .iadd, 1), (25, .istore_n 3, 1), (26, .iinc 4 1, 3), (29, .goto (-24), 3)],
   [(32, .iload_n 3, 1), (33, .ireturn, 1)]]
def mm_r155 : mm_R := ((yX10_sumOf, cX10_sumOf, 5, (some .int), 2, false, [(6, 50), (1, 11), (0, 64)], (6, 51)),
   RX10, mm_t155, [(7, 0, 10, 0, 2, [(4, 232)])])
-- 156: "RainOrganModel" "rain"
def mm_t156 : mm_T := [[(0, .iload_n 1, 1), (1, .i2l, 1), (2, .lconst 0, 1), (3, .ldc2_w 223, 3), (6, .invokestatic 81, 3), (9, .ifCond .eq 12, 3), (12, .aload_n 0, 1), (13, .iconst 0, 1), (14, .iload_n 1, 1), (15, .invokevirtual 225, 3), (18, .goto 4, 3), (21, .iconst (-1), 1), (22, .ireturn, 1)]]
def mm_r156 : mm_R := ((yX10_rain, cX10_rain, 2, (some .int), 1, false, [(6, 16), (1, 11), (6, 17)], (6, 18)),
   RX10, mm_t156, [(81, 2, 120, 10, 0, [(5, 140)]),
    (223, 11, 0, 0, 9, [(6, 19)]),
    (225, 1, 153, 10, 0, [(6, 20)])])
-- 157: "RainOrganModel" "dry"
def mm_t157 : mm_T := [[(0, .aload_n 0, 1), (1, .getfield 7, 3), (4, .sipush 134, 3), (7, .iaload, 1), (8, .istore_n 1, 1), (9, .aload_n 0, 1), (10, .iconst 0, 1), (11, .invokevirtual 228, 3), (14, .iload_n 1, 1), (15, .ireturn, 1)]]
def mm_r157 : mm_R := ((yX10_dry, cX10_dry, 2, (some .int), 0, false, [(6, 37), (1, 11), (6, 38)], (6, 39)),
   RX10, mm_t157, [(7, 0, 10, 0, 2, [(4, 232)]),
    (228, 1, 154, 10, 0, [(6, 40)])])
-- 158: "RainOrganModel" "water"
def mm_t158 : mm_T := [[(0, .iload_n 1, 1), (1, .tableswitch 91 0 5 #[39, 48, 57, 66, 74, 82], 39)],
   [(40, .aload_n 0, 1), (41, .getfield 7, 3), (44, .sipush 134, 3), (47, .iaload, 1), (48, .ireturn, 1), (49, .aload_n 0, 1), (50, .getfield 7, 3), (53, .sipush 135, 3), (56, .iaload, 1), (57, .ireturn, 1), (58, .aload_n 0, 1), (59, .getfield 7, 3), (62, .sipush 136, 3)],
   [(65, .iaload, 1), (66, .ireturn, 1), (67, .aload_n 0, 1), (68, .iconst 0, 1), (69, .bipush 86, 2), (71, .invokevirtual 231, 3), (74, .ireturn, 1), (75, .aload_n 0, 1), (76, .iconst 0, 1), (77, .bipush 110, 2), (79, .invokevirtual 231, 3), (82, .ireturn, 1), (83, .aload_n 0, 1), (84, .getfield 7, 3), (87, .sipush 137, 3), (90, .iaload, 1), (91, .ireturn, 1), (92, .iconst (-1), 1), (93, .ireturn, 1)]]
def mm_r158 : mm_R := ((yX10_water, cX10_water, 2, (some .int), 1, false, [(6, 45), (1, 11), (6, 46)], (6, 47)),
   RX10, mm_t158, [(7, 0, 10, 0, 2, [(4, 232)]),
    (231, 1, 155, 10, 0, [(6, 48)])])
-- 159: "RainOrganModel" "loud"
def mm_t159 : mm_T := [[(0, .aload_n 0, 1), (1, .iload_n 1, 1), (2, .invokevirtual 195, 3), (5, .ifCond .eq 15, 3), (8, .aload_n 0, 1), (9, .getfield 7, 3), (12, .bipush 126, 2), (14, .iload_n 1, 1), (15, .iadd, 1), (16, .iaload, 1), (17, .goto 4, 3), (20, .iconst (-1), 1), (21, .ireturn, 1)]]
def mm_r159 : mm_R := ((yX10_loud, cX10_loud, 2, (some .int), 1, false, [(6, 53), (1, 11), (6, 54)], (6, 55)),
   RX10, mm_t159, [(7, 0, 10, 0, 2, [(4, 232)]),
    (195, 1, 139, 10, 0, [(5, 222)])])
-- 160: "RainOrganModel" "lengthOf"
def mm_t160 : mm_T := [[(0, .aload_n 0, 1), (1, .getfield 7, 3), (4, .bipush 34, 2), (6, .bipush 13, 2), (8, .iload_n 1, 1), (9, .imul, 1), (10, .iadd, 1), (11, .iaload, 1), (12, .ireturn, 1)]]
def mm_r160 : mm_R := ((yX10_lengthOf, cX10_lengthOf, 2, (some .int), 1, false, [(6, 66), (1, 11), (0, 66)], (6, 67)),
   RX10, mm_t160, [(7, 0, 10, 0, 2, [(4, 232)])])
-- 161: "RainOrganModel" "showers"
def mm_t161 : mm_T := [[(0, .iconst 0, 1), (1, .istore_n 2, 1), (2, .iload_n 2, 1), (3, .aload_n 0, 1), (4, .iload_n 1, 1), (5, .invokevirtual 234, 3), (8, .if_icmp .ge 98, 3), (11, .aload_n 0, 1), (12, .getfield 58, 3), (15, .iload_n 2, 1), (16, .aload_n 0, 1), (17, .sipush 420, 3), (20, .aload_n 0, 1), (21, .getfield 7, 3), (24, .bipush 34, 2), (26, .bipush 13, 2), (28, .iload_n 1, 1), (29, .imul, 1), (30, .iadd, 1), (31, .iconst 1, 1)],
   [(32, .iadd, 1), (33, .iload_n 2, 1), (34, .iadd, 1), (35, .iaload, 1), (36, .invokevirtual 225, 3), (39, .iastore, 1), (40, .aload_n 0, 1), (41, .getfield 61, 3), (44, .iload_n 2, 1), (45, .aload_n 0, 1), (46, .sipush 420, 3), (49, .bipush 126, 2), (51, .invokevirtual 231, 3), (54, .iastore, 1), (55, .iconst 0, 1), (56, .istore_n 3, 1), (57, .iload_n 3, 1), (58, .aload_n 0, 1), (59, .getfield 170, 3), (62, .if_icmp .ge 38, 3)],
   [(65, .aload_n 0, 1), (66, .dup, 1), (67, .getfield 237, 3), (70, .aload_n 0, 1), (71, .getfield 7, 3), (74, .sipush 546, 3), (77, .iload_n 3, 1), (78, .iadd, 1), (79, .iaload, 1), (80, .ifCond .le 9, 3), (83, .iconst 1, 1), (84, .iload_n 3, 1), (85, .ishl, 1), (86, .goto 4, 3), (89, .iconst 0, 1), (90, .ior, 1), (91, .putfield 237, 3), (94, .iinc 3 1, 3)],
   [(97, .goto (-40), 3), (100, .iinc 2 1, 3), (103, .goto (-101), 3), (106, .return_, 1)]]
def mm_r161 : mm_R := ((yX10_showers, cX10_showers, 4, none, 1, false, [(6, 78), (1, 11), (0, 68)], (6, 79)),
   RX10, mm_t161, [(7, 0, 10, 0, 2, [(4, 232)]),
    (58, 0, 10, 35, 2, [(5, 27)]),
    (61, 0, 10, 36, 2, [(5, 28)]),
    (170, 0, 10, 3, 0, [(4, 235)]),
    (225, 1, 153, 10, 0, [(6, 20)]),
    (231, 1, 155, 10, 0, [(6, 48)]),
    (234, 1, 160, 10, 0, [(6, 64)]),
    (237, 0, 10, 37, 0, [(5, 29)])])
-- 162: "RainOrganModel" "plays2"
def mm_t162 : mm_T := [[(0, .aload_n 0, 1), (1, .sipush 420, 3), (4, .invokevirtual 228, 3), (7, .aload_n 0, 1), (8, .iconst 0, 1), (9, .putfield 237, 3), (12, .aload_n 0, 1), (13, .iload_n 1, 1), (14, .invokevirtual 240, 3), (17, .return_, 1)]]
def mm_r162 : mm_R := ((yX10_plays2, cX10_plays2, 2, none, 1, false, [(6, 74), (1, 11), (0, 67)], (6, 75)),
   RX10, mm_t162, [(228, 1, 154, 10, 0, [(6, 40)]),
    (237, 0, 10, 37, 0, [(5, 29)]),
    (240, 1, 161, 10, 0, [(6, 76)])])
-- 163: "RainOrganModel" "shower"
def mm_t163 : mm_T := [[(0, .aload_n 0, 1), (1, .iload_n 1, 1), (2, .invokevirtual 243, 3), (5, .ifCond .ne 5, 3), (8, .iconst (-1), 1), (9, .ireturn, 1), (10, .iload_n 2, 1), (11, .iconst (-1), 1), (12, .if_icmp .ne 11, 3), (15, .aload_n 0, 1), (16, .iload_n 1, 1), (17, .invokevirtual 234, 3), (20, .goto 40, 3), (23, .iload_n 2, 1), (24, .i2l, 1), (25, .lconst 0, 1), (26, .aload_n 0, 1), (27, .iload_n 1, 1), (28, .invokevirtual 234, 3), (31, .iconst 1, 1)],
   [(32, .isub, 1), (33, .i2l, 1), (34, .invokestatic 81, 3), (37, .ifCond .eq 22, 3), (40, .aload_n 0, 1), (41, .getfield 7, 3), (44, .bipush 34, 2), (46, .bipush 13, 2), (48, .iload_n 1, 1), (49, .imul, 1), (50, .iadd, 1), (51, .iconst 1, 1), (52, .iadd, 1), (53, .iload_n 2, 1), (54, .iadd, 1), (55, .iaload, 1), (56, .goto 4, 3), (59, .iconst (-1), 1), (60, .ireturn, 1)]]
def mm_r163 : mm_R := ((yX10_shower, cX10_shower, 3, (some .int), 2, false, [(6, 57), (1, 11), (6, 58)], (6, 59)),
   RX10, mm_t163, [(7, 0, 10, 0, 2, [(4, 232)]),
    (81, 2, 120, 10, 0, [(5, 140)]),
    (234, 1, 160, 10, 0, [(6, 64)]),
    (243, 1, 140, 10, 0, [(6, 60)])])
-- 164: "RainOrganModel" "plays"
def mm_t164 : mm_T := [[(0, .aload_n 0, 1), (1, .iload_n 1, 1), (2, .invokevirtual 243, 3), (5, .ifCond .eq 20, 3), (8, .iload_n 2, 1), (9, .i2l, 1), (10, .lconst 0, 1), (11, .aload_n 0, 1), (12, .iload_n 1, 1), (13, .invokevirtual 234, 3), (16, .iconst 1, 1), (17, .isub, 1), (18, .i2l, 1), (19, .invokestatic 81, 3), (22, .ifCond .ne 5, 3), (25, .iconst (-1), 1), (26, .ireturn, 1), (27, .aload_n 0, 1), (28, .iload_n 1, 1), (29, .invokevirtual 246, 3)],
   [(32, .aload_n 0, 1), (33, .getfield 58, 3), (36, .iload_n 2, 1), (37, .iaload, 1), (38, .ireturn, 1)]]
def mm_r164 : mm_R := ((yX10_plays, cX10_plays, 3, (some .int), 2, false, [(6, 69), (1, 11), (6, 70)], (6, 71)),
   RX10, mm_t164, [(58, 0, 10, 35, 2, [(5, 27)]),
    (81, 2, 120, 10, 0, [(5, 140)]),
    (234, 1, 160, 10, 0, [(6, 64)]),
    (243, 1, 140, 10, 0, [(6, 60)]),
    (246, 1, 162, 10, 0, [(6, 72)])])
-- 165: "RainOrganModel" "falls"
def mm_t165 : mm_T := [[(0, .aload_n 0, 1), (1, .iload_n 1, 1), (2, .invokevirtual 243, 3), (5, .ifCond .eq 15, 3), (8, .iload_n 2, 1), (9, .i2l, 1), (10, .lconst 0, 1), (11, .ldc2_w 249, 3), (14, .invokestatic 81, 3), (17, .ifCond .ne 5, 3), (20, .iconst (-1), 1), (21, .ireturn, 1), (22, .aload_n 0, 1), (23, .iload_n 1, 1), (24, .invokevirtual 246, 3), (27, .iconst 0, 1), (28, .istore_n 3, 1), (29, .bipush (-4), 2), (31, .istore 4, 2)],
   [(33, .iconst 0, 1), (34, .istore 5, 2), (36, .iload 5, 2), (38, .aload_n 0, 1), (39, .iload_n 1, 1), (40, .invokevirtual 234, 3), (43, .if_icmp .ge 52, 3), (46, .aload_n 0, 1), (47, .getfield 61, 3), (50, .iload 5, 2), (52, .iaload, 1), (53, .iload_n 3, 1), (54, .if_icmp .le 8, 3), (57, .iload 5, 2), (59, .goto 5, 3), (62, .iload 4, 2)],
   [(64, .istore 4, 2), (66, .aload_n 0, 1), (67, .getfield 61, 3), (70, .iload 5, 2), (72, .iaload, 1), (73, .iload_n 3, 1), (74, .if_icmp .le 13, 3), (77, .aload_n 0, 1), (78, .getfield 61, 3), (81, .iload 5, 2), (83, .iaload, 1), (84, .goto 4, 3), (87, .iload_n 3, 1), (88, .istore_n 3, 1), (89, .iinc 5 1, 3), (92, .goto (-56), 3), (95, .iconst 0, 1)],
   [(96, .istore 5, 2), (98, .iconst 0, 1), (99, .istore 6, 2), (101, .iload 6, 2), (103, .aload_n 0, 1), (104, .getfield 170, 3), (107, .if_icmp .ge 28, 3), (110, .iload 5, 2), (112, .aload_n 0, 1), (113, .getfield 7, 3), (116, .sipush 538, 3), (119, .iload 6, 2), (121, .iadd, 1), (122, .iaload, 1), (123, .iload 6, 2), (125, .ishl, 1), (126, .ior, 1), (127, .istore 5, 2)],
   [(129, .iinc 6 1, 3), (132, .goto (-31), 3), (135, .iload_n 2, 1), (136, .tableswitch 97 0 6 #[44, 53, 62, 72, 82, 91, 94], 44)],
   [(180, .aload_n 0, 1), (181, .getfield 7, 3), (184, .sipush 555, 3), (187, .iaload, 1), (188, .ireturn, 1), (189, .aload_n 0, 1), (190, .getfield 7, 3)],
   [(193, .sipush 556, 3), (196, .iaload, 1), (197, .ireturn, 1), (198, .aload_n 0, 1), (199, .sipush 420, 3), (202, .bipush 86, 2), (204, .invokevirtual 231, 3), (207, .ireturn, 1), (208, .aload_n 0, 1), (209, .sipush 420, 3), (212, .bipush 110, 2), (214, .invokevirtual 231, 3), (217, .ireturn, 1), (218, .aload_n 0, 1), (219, .getfield 7, 3), (222, .sipush 557, 3)],
   [(225, .iaload, 1), (226, .ireturn, 1), (227, .iload 4, 2), (229, .ireturn, 1), (230, .iload 5, 2), (232, .ireturn, 1), (233, .iconst 1, 1), (234, .aload_n 0, 1), (235, .getfield 170, 3), (238, .ishl, 1), (239, .iconst 1, 1), (240, .isub, 1), (241, .aload_n 0, 1), (242, .getfield 237, 3), (245, .iconst (-1), 1), (246, .ixor, 1), (247, .iand, 1), (248, .ireturn, 1)]]
def mm_r165 : mm_R := ((yX10_falls, cX10_falls, 7, (some .int), 2, false, [(6, 81), (1, 11), (6, 82)], (6, 83)),
   RX10, mm_t165, [(7, 0, 10, 0, 2, [(4, 232)]),
    (61, 0, 10, 36, 2, [(5, 28)]),
    (81, 2, 120, 10, 0, [(5, 140)]),
    (170, 0, 10, 3, 0, [(4, 235)]),
    (231, 1, 155, 10, 0, [(6, 48)]),
    (234, 1, 160, 10, 0, [(6, 64)]),
    (237, 0, 10, 37, 0, [(5, 29)]),
    (243, 1, 140, 10, 0, [(6, 60)]),
    (246, 1, 162, 10, 0, [(6, 72)]),
    (249, 11, 0, 0, 7, [(6, 84)])])
-- 166: "RainOrganModel" "tune"
def mm_t166 : mm_T := [[(0, .iload_n 1, 1), (1, .i2l, 1), (2, .lconst 0, 1), (3, .aload_n 0, 1), (4, .getfield 7, 3), (7, .bipush 73, 2), (9, .iaload, 1), (10, .iconst 1, 1), (11, .isub, 1), (12, .i2l, 1), (13, .invokestatic 81, 3), (16, .ifCond .eq 15, 3), (19, .aload_n 0, 1), (20, .getfield 7, 3), (23, .bipush 74, 2), (25, .iload_n 1, 1), (26, .iadd, 1), (27, .iaload, 1), (28, .goto 4, 3), (31, .iconst (-1), 1)],
   [(32, .ireturn, 1)]]
def mm_r166 : mm_R := ((yX10_tune, cX10_tune, 2, (some .int), 1, false, [(6, 86), (1, 11), (6, 87)], (6, 88)),
   RX10, mm_t166, [(7, 0, 10, 0, 2, [(4, 232)]),
    (81, 2, 120, 10, 0, [(5, 140)])])
-- 167: "RainOrganModel" "tells"
def mm_t167 : mm_T := [[(0, .iload_n 1, 1), (1, .i2l, 1), (2, .lconst 0, 1), (3, .aload_n 0, 1), (4, .getfield 7, 3), (7, .bipush 73, 2), (9, .iaload, 1), (10, .i2l, 1), (11, .invokestatic 81, 3), (14, .ifCond .eq 15, 3), (17, .iload_n 2, 1), (18, .i2l, 1), (19, .lconst 0, 1), (20, .ldc2_w 251, 3), (23, .invokestatic 81, 3), (26, .ifCond .ne 5, 3), (29, .iconst (-1), 1), (30, .ireturn, 1), (31, .iload_n 1, 1)],
   [(32, .bipush 12, 2), (34, .if_icmp .ne 6, 3), (37, .bipush (-3), 2), (39, .ireturn, 1), (40, .aload_n 0, 1), (41, .getfield 7, 3), (44, .bipush 74, 2), (46, .iload_n 1, 1), (47, .iadd, 1), (48, .iload_n 2, 1), (49, .iastore, 1), (50, .aload_n 0, 1), (51, .getfield 7, 3), (54, .bipush 73, 2), (56, .dup2, 1), (57, .iaload, 1), (58, .iload_n 1, 1), (59, .aload_n 0, 1), (60, .getfield 7, 3), (63, .bipush 73, 2)],
   [(65, .iaload, 1), (66, .if_icmp .ne 7, 3), (69, .iconst 1, 1), (70, .goto 4, 3), (73, .iconst 0, 1), (74, .iadd, 1), (75, .iastore, 1), (76, .aload_n 0, 1), (77, .getfield 7, 3), (80, .bipush 73, 2), (82, .iaload, 1), (83, .ireturn, 1)]]
def mm_r167 : mm_R := ((yX10_tells, cX10_tells, 3, (some .int), 2, false, [(6, 90), (1, 11), (6, 91)], (6, 92)),
   RX10, mm_t167, [(7, 0, 10, 0, 2, [(4, 232)]),
    (81, 2, 120, 10, 0, [(5, 140)]),
    (251, 11, 0, 0, 255, [(6, 93)])])
-- 168: "RainOrganModel" "bitsOf"
def mm_t168 : mm_T := [[(0, .iconst 0, 1), (1, .istore_n 1, 1), (2, .iconst 0, 1), (3, .istore_n 2, 1), (4, .iload_n 2, 1), (5, .bipush 8, 2), (7, .if_icmp .ge 17, 3), (10, .iload_n 1, 1), (11, .iload_n 0, 1), (12, .iload_n 2, 1), (13, .ishr, 1), (14, .iconst 1, 1), (15, .iand, 1), (16, .iadd, 1), (17, .istore_n 1, 1), (18, .iinc 2 1, 3), (21, .goto (-17), 3), (24, .iload_n 1, 1), (25, .ireturn, 1)]]
def mm_r168 : mm_R := ((yX10_bitsOf, cX10_bitsOf, 3, (some .int), 1, true, [(6, 103), (1, 11)], (6, 104)),
   RX10, mm_t168, [])
-- 169: "RainOrganModel" "farOf"
def mm_t169 : mm_T := [[(0, .aload_n 0, 1), (1, .iload_n 1, 1), (2, .invokevirtual 246, 3), (5, .iconst 0, 1), (6, .istore_n 2, 1), (7, .iconst 0, 1), (8, .istore_n 3, 1), (9, .iload_n 3, 1), (10, .bipush 12, 2), (12, .if_icmp .ge 67, 3), (15, .iload_n 3, 1), (16, .aload_n 0, 1), (17, .iload_n 1, 1), (18, .invokevirtual 234, 3), (21, .if_icmp .ge 12, 3), (24, .aload_n 0, 1), (25, .getfield 58, 3), (28, .iload_n 3, 1), (29, .iaload, 1), (30, .goto 4, 3)],
   [(33, .iconst 0, 1), (34, .istore 4, 2), (36, .iload_n 3, 1), (37, .aload_n 0, 1), (38, .getfield 7, 3), (41, .bipush 73, 2), (43, .iaload, 1), (44, .if_icmp .ge 15, 3), (47, .aload_n 0, 1), (48, .getfield 7, 3), (51, .bipush 74, 2), (53, .iload_n 3, 1), (54, .iadd, 1), (55, .iaload, 1), (56, .goto 4, 3), (59, .iconst 0, 1), (60, .istore 5, 2), (62, .iload_n 2, 1), (63, .iload 4, 2)],
   [(65, .iload 5, 2), (67, .ixor, 1), (68, .invokestatic 253, 3), (71, .iadd, 1), (72, .istore_n 2, 1), (73, .iinc 3 1, 3), (76, .goto (-67), 3), (79, .iload_n 2, 1), (80, .ireturn, 1)]]
def mm_r169 : mm_R := ((yX10_farOf, cX10_farOf, 6, (some .int), 1, false, [(6, 100), (1, 11), (0, 69)], (6, 101)),
   RX10, mm_t169, [(7, 0, 10, 0, 2, [(4, 232)]),
    (58, 0, 10, 35, 2, [(5, 27)]),
    (234, 1, 160, 10, 0, [(6, 64)]),
    (246, 1, 162, 10, 0, [(6, 72)]),
    (253, 2, 168, 10, 0, [(6, 102)])])
-- 170: "RainOrganModel" "far"
def mm_t170 : mm_T := [[(0, .aload_n 0, 1), (1, .iload_n 1, 1), (2, .invokevirtual 243, 3), (5, .ifCond .eq 11, 3), (8, .aload_n 0, 1), (9, .iload_n 1, 1), (10, .invokevirtual 256, 3), (13, .goto 4, 3), (16, .iconst (-1), 1), (17, .ireturn, 1)]]
def mm_r170 : mm_R := ((yX10_far, cX10_far, 2, (some .int), 1, false, [(6, 95), (1, 11), (6, 96)], (6, 97)),
   RX10, mm_t170, [(243, 1, 140, 10, 0, [(6, 60)]),
    (256, 1, 169, 10, 0, [(6, 98)])])
-- 171: "RainOrganModel" "layBest"
def mm_t171 : mm_T := [[(0, .aload_n 0, 1), (1, .invokevirtual 203, 3), (4, .istore_n 2, 1), (5, .aload_n 0, 1), (6, .bipush (-4), 2), (8, .putfield 259, 3), (11, .aload_n 0, 1), (12, .iconst 0, 1), (13, .putfield 262, 3), (16, .iconst 0, 1), (17, .istore_n 3, 1), (18, .iload_n 3, 1), (19, .aload_n 0, 1), (20, .invokevirtual 200, 3), (23, .if_icmp .ge 98, 3), (26, .aload_n 0, 1), (27, .iload_n 3, 1), (28, .invokevirtual 206, 3), (31, .aload_n 0, 1)],
   [(32, .iload_n 1, 1), (33, .invokevirtual 256, 3), (36, .istore 4, 2), (38, .aload_n 0, 1), (39, .aload_n 0, 1), (40, .getfield 259, 3), (43, .bipush (-4), 2), (45, .if_icmp .eq 12, 3), (48, .iload 4, 2), (50, .aload_n 0, 1), (51, .getfield 262, 3), (54, .if_icmp .ge 7, 3), (57, .iconst 1, 1), (58, .goto 25, 3), (61, .iload 4, 2), (63, .aload_n 0, 1)],
   [(64, .getfield 262, 3), (67, .if_icmp .ne 12, 3), (70, .aload_n 0, 1), (71, .getfield 265, 3), (74, .iconst 1, 1), (75, .iadd, 1), (76, .goto 7, 3), (79, .aload_n 0, 1), (80, .getfield 265, 3), (83, .putfield 265, 3), (86, .aload_n 0, 1), (87, .getfield 259, 3), (90, .bipush (-4), 2), (92, .if_icmp .eq 12, 3), (95, .iload 4, 2)],
   [(97, .aload_n 0, 1), (98, .getfield 262, 3), (101, .if_icmp .ge 14, 3), (104, .aload_n 0, 1), (105, .iload_n 3, 1), (106, .putfield 259, 3), (109, .aload_n 0, 1), (110, .iload 4, 2), (112, .putfield 262, 3), (115, .iinc 3 1, 3), (118, .goto (-100), 3), (121, .aload_n 0, 1), (122, .iload_n 2, 1), (123, .invokevirtual 206, 3), (126, .return_, 1)]]
def mm_r171 : mm_R := ((yX10_layBest, cX10_layBest, 5, none, 1, false, [(6, 111), (1, 11), (0, 70)], (6, 112)),
   RX10, mm_t171, [(200, 1, 146, 10, 0, [(6, 3)]),
    (203, 1, 147, 10, 0, [(6, 7)]),
    (206, 1, 148, 10, 0, [(6, 11)]),
    (256, 1, 169, 10, 0, [(6, 98)]),
    (259, 0, 10, 38, 0, [(5, 30)]),
    (262, 0, 10, 39, 0, [(5, 31)]),
    (265, 0, 10, 40, 0, [(5, 32)])])
-- 172: "RainOrganModel" "best"
def mm_t172 : mm_T := [[(0, .aload_n 0, 1), (1, .iload_n 1, 1), (2, .invokevirtual 243, 3), (5, .ifCond .eq 15, 3), (8, .iload_n 2, 1), (9, .i2l, 1), (10, .lconst 0, 1), (11, .ldc2_w 198, 3), (14, .invokestatic 81, 3), (17, .ifCond .ne 5, 3), (20, .iconst (-1), 1), (21, .ireturn, 1), (22, .aload_n 0, 1), (23, .iload_n 1, 1), (24, .invokevirtual 268, 3), (27, .iload_n 2, 1), (28, .ifCond .ne 10, 3), (31, .aload_n 0, 1)],
   [(32, .getfield 259, 3), (35, .goto 19, 3), (38, .iload_n 2, 1), (39, .iconst 1, 1), (40, .if_icmp .ne 10, 3), (43, .aload_n 0, 1), (44, .getfield 262, 3), (47, .goto 7, 3), (50, .aload_n 0, 1), (51, .getfield 265, 3), (54, .ireturn, 1)]]
def mm_r172 : mm_R := ((yX10_best, cX10_best, 3, (some .int), 2, false, [(6, 106), (1, 11), (6, 107)], (6, 108)),
   RX10, mm_t172, [(81, 2, 120, 10, 0, [(5, 140)]),
    (198, 11, 0, 0, 2, [(5, 230)]),
    (243, 1, 140, 10, 0, [(6, 60)]),
    (259, 0, 10, 38, 0, [(5, 30)]),
    (262, 0, 10, 39, 0, [(5, 31)]),
    (265, 0, 10, 40, 0, [(5, 32)]),
    (268, 1, 171, 10, 0, [(6, 109)])])
-- 173: "RainOrganModel" "unlikePegs"
def mm_t173 : mm_T := [[(0, .iconst 0, 1), (1, .istore_n 3, 1), (2, .iload_n 1, 1), (3, .istore 4, 2), (5, .iload_n 2, 1), (6, .istore 5, 2), (8, .iconst 0, 1), (9, .istore 6, 2), (11, .iload 6, 2), (13, .aload_n 0, 1), (14, .getfield 167, 3), (17, .if_icmp .ge 40, 3), (20, .iload_n 3, 1), (21, .iload 4, 2), (23, .iconst 3, 1), (24, .irem, 1), (25, .iload 5, 2), (27, .iconst 3, 1), (28, .irem, 1), (29, .if_icmp .ne 7, 3)],
   [(32, .iconst 0, 1), (33, .goto 4, 3), (36, .iconst 1, 1), (37, .iadd, 1), (38, .istore_n 3, 1), (39, .iload 4, 2), (41, .iconst 3, 1), (42, .idiv, 1), (43, .istore 4, 2), (45, .iload 5, 2), (47, .iconst 3, 1), (48, .idiv, 1), (49, .istore 5, 2), (51, .iinc 6 1, 3), (54, .goto (-43), 3), (57, .iload_n 3, 1), (58, .ireturn, 1)]]
def mm_r173 : mm_R := ((yX10_unlikePegs, cX10_unlikePegs, 7, (some .int), 2, false, [(6, 119), (1, 11), (0, 71)], (6, 120)),
   RX10, mm_t173, [(167, 0, 10, 2, 0, [(4, 234)])])
-- 174: "RainOrganModel" "fewest"
def mm_t174 : mm_T := [[(0, .aload_n 0, 1), (1, .iload_n 1, 1), (2, .invokevirtual 243, 3), (5, .ifCond .eq 13, 3), (8, .iload_n 2, 1), (9, .i2l, 1), (10, .lconst 0, 1), (11, .lconst 1, 1), (12, .invokestatic 81, 3), (15, .ifCond .ne 5, 3), (18, .iconst (-1), 1), (19, .ireturn, 1), (20, .aload_n 0, 1), (21, .iload_n 1, 1), (22, .invokevirtual 268, 3), (25, .aload_n 0, 1), (26, .invokevirtual 203, 3), (29, .istore_n 3, 1), (30, .bipush (-4), 2)],
   [(32, .istore 4, 2), (34, .iconst 0, 1), (35, .istore 5, 2), (37, .iconst 0, 1), (38, .istore 6, 2), (40, .iload 6, 2), (42, .aload_n 0, 1), (43, .invokevirtual 200, 3), (46, .if_icmp .ge 58, 3), (49, .aload_n 0, 1), (50, .iload 6, 2), (52, .invokevirtual 206, 3), (55, .aload_n 0, 1), (56, .iload 6, 2), (58, .iload_n 3, 1), (59, .invokevirtual 271, 3), (62, .istore 7, 2)],
   [(64, .iload 4, 2), (66, .bipush (-4), 2), (68, .if_icmp .eq 10, 3), (71, .iload 7, 2), (73, .iload 5, 2), (75, .if_icmp .ge 23, 3), (78, .aload_n 0, 1), (79, .iload_n 1, 1), (80, .invokevirtual 256, 3), (83, .aload_n 0, 1), (84, .getfield 262, 3), (87, .if_icmp .ne 11, 3), (90, .iload 6, 2), (92, .istore 4, 2), (94, .iload 7, 2)],
   [(96, .istore 5, 2), (98, .iinc 6 1, 3), (101, .goto (-61), 3), (104, .aload_n 0, 1), (105, .iload_n 3, 1), (106, .invokevirtual 206, 3), (109, .iload_n 2, 1), (110, .ifCond .ne 8, 3), (113, .iload 4, 2), (115, .goto 5, 3), (118, .iload 5, 2), (120, .ireturn, 1)]]
def mm_r174 : mm_R := ((yX10_fewest, cX10_fewest, 8, (some .int), 2, false, [(6, 114), (1, 11), (6, 115)], (6, 116)),
   RX10, mm_t174, [(81, 2, 120, 10, 0, [(5, 140)]),
    (200, 1, 146, 10, 0, [(6, 3)]),
    (203, 1, 147, 10, 0, [(6, 7)]),
    (206, 1, 148, 10, 0, [(6, 11)]),
    (243, 1, 140, 10, 0, [(6, 60)]),
    (256, 1, 169, 10, 0, [(6, 98)]),
    (262, 0, 10, 39, 0, [(5, 31)]),
    (268, 1, 171, 10, 0, [(6, 109)]),
    (271, 1, 173, 10, 0, [(6, 117)])])
-- 175: "RainOrganModel" "all"
def mm_t175 : mm_T := [[(0, .iload_n 1, 1), (1, .i2l, 1), (2, .lconst 0, 1), (3, .lconst 1, 1), (4, .invokestatic 81, 3), (7, .ifCond .ne 5, 3), (10, .iconst (-1), 1), (11, .ireturn, 1), (12, .aload_n 0, 1), (13, .getfield 173, 3), (16, .ifCond .ne 6, 3), (19, .bipush (-2), 2), (21, .ireturn, 1), (22, .aload_n 0, 1), (23, .invokevirtual 203, 3), (26, .istore_n 2, 1), (27, .bipush (-4), 2), (29, .istore_n 3, 1), (30, .iconst 0, 1), (31, .istore 4, 2)],
   [(33, .iconst 0, 1), (34, .istore 5, 2), (36, .iload 5, 2), (38, .aload_n 0, 1), (39, .invokevirtual 200, 3), (42, .if_icmp .ge 93, 3), (45, .aload_n 0, 1), (46, .iload 5, 2), (48, .invokevirtual 206, 3), (51, .iconst 0, 1), (52, .istore 6, 2), (54, .iconst 0, 1), (55, .istore 7, 2), (57, .iload 7, 2), (59, .aload_n 0, 1), (60, .getfield 173, 3), (63, .if_icmp .ge 20, 3)],
   [(66, .iload 6, 2), (68, .aload_n 0, 1), (69, .iload 7, 2), (71, .invokevirtual 256, 3), (74, .iadd, 1), (75, .istore 6, 2), (77, .iinc 7 1, 3), (80, .goto (-23), 3), (83, .iload_n 3, 1), (84, .bipush (-4), 2), (86, .if_icmp .eq 10, 3), (89, .iload 6, 2), (91, .iload 4, 2), (93, .if_icmp .ge 7, 3)],
   [(96, .iconst 1, 1), (97, .goto 4, 3), (100, .iconst 0, 1), (101, .istore 7, 2), (103, .iload 7, 2), (105, .ifCond .eq 8, 3), (108, .iload 5, 2), (110, .goto 4, 3), (113, .iload_n 3, 1), (114, .istore_n 3, 1), (115, .iload 7, 2), (117, .ifCond .eq 8, 3), (120, .iload 6, 2), (122, .goto 5, 3), (125, .iload 4, 2), (127, .istore 4, 2)],
   [(129, .iinc 5 1, 3), (132, .goto (-96), 3), (135, .aload_n 0, 1), (136, .iload_n 2, 1), (137, .invokevirtual 206, 3), (140, .iload_n 1, 1), (141, .ifCond .ne 7, 3), (144, .iload_n 3, 1), (145, .goto 5, 3), (148, .iload 4, 2), (150, .ireturn, 1)]]
def mm_r175 : mm_R := ((yX10_all, cX10_all, 8, (some .int), 1, false, [(6, 122), (1, 11), (6, 123)], (6, 124)),
   RX10, mm_t175, [(81, 2, 120, 10, 0, [(5, 140)]),
    (173, 0, 10, 4, 0, [(4, 236)]),
    (200, 1, 146, 10, 0, [(6, 3)]),
    (203, 1, 147, 10, 0, [(6, 7)]),
    (206, 1, 148, 10, 0, [(6, 11)]),
    (256, 1, 169, 10, 0, [(6, 98)])])
-- 176: "RainOrganModel" "wakes"
def mm_t176 : mm_T := [[(0, .aload_n 0, 1), (1, .iload_n 1, 1), (2, .invokevirtual 246, 3), (5, .iconst 0, 1), (6, .istore_n 2, 1), (7, .iconst 0, 1), (8, .istore_n 3, 1), (9, .iload_n 3, 1), (10, .aload_n 0, 1), (11, .getfield 176, 3), (14, .if_icmp .ge 80, 3), (17, .aload_n 0, 1), (18, .getfield 22, 3), (21, .iconst 3, 1), (22, .iload_n 3, 1), (23, .imul, 1), (24, .iaload, 1), (25, .istore 4, 2), (27, .iload 4, 2), (29, .aload_n 0, 1), (30, .getfield 22, 3)],
   [(33, .iconst 3, 1), (34, .iload_n 3, 1), (35, .imul, 1), (36, .iconst 1, 1), (37, .iadd, 1), (38, .iaload, 1), (39, .if_icmp .gt 49, 3), (42, .iload 4, 2), (44, .aload_n 0, 1), (45, .iload_n 1, 1), (46, .invokevirtual 234, 3), (49, .if_icmp .ge 39, 3), (52, .iload_n 2, 1), (53, .aload_n 0, 1), (54, .getfield 61, 3), (57, .iload 4, 2), (59, .iaload, 1), (60, .aload_n 0, 1), (61, .getfield 22, 3)],
   [(64, .iconst 3, 1), (65, .iload_n 3, 1), (66, .imul, 1), (67, .iconst 2, 1), (68, .iadd, 1), (69, .iaload, 1), (70, .if_icmp .lt 9, 3), (73, .iconst 1, 1), (74, .iload_n 3, 1), (75, .ishl, 1), (76, .goto 4, 3), (79, .iconst 0, 1), (80, .ior, 1), (81, .istore_n 2, 1), (82, .iinc 4 1, 3), (85, .goto (-58), 3), (88, .iinc 3 1, 3), (91, .goto (-82), 3), (94, .iload_n 2, 1), (95, .ireturn, 1)]]
def mm_r176 : mm_R := ((yX10_wakes, cX10_wakes, 5, (some .int), 1, false, [(6, 131), (1, 11), (0, 72)], (6, 132)),
   RX10, mm_t176, [(22, 0, 10, 10, 2, [(5, 2)]),
    (61, 0, 10, 36, 2, [(5, 28)]),
    (176, 0, 10, 5, 0, [(4, 237)]),
    (234, 1, 160, 10, 0, [(6, 64)]),
    (246, 1, 162, 10, 0, [(6, 72)])])
-- 177: "RainOrganModel" "quiet"
def mm_t177 : mm_T := [[(0, .aload_n 0, 1), (1, .iload_n 1, 1), (2, .invokevirtual 243, 3), (5, .ifCond .eq 15, 3), (8, .iload_n 2, 1), (9, .i2l, 1), (10, .lconst 0, 1), (11, .ldc2_w 198, 3), (14, .invokestatic 81, 3), (17, .ifCond .ne 5, 3), (20, .iconst (-1), 1), (21, .ireturn, 1), (22, .aload_n 0, 1), (23, .invokevirtual 203, 3), (26, .istore_n 3, 1), (27, .bipush (-4), 2), (29, .istore 4, 2), (31, .iconst 0, 1)],
   [(32, .istore 5, 2), (34, .iconst 0, 1), (35, .istore 6, 2), (37, .iconst 0, 1), (38, .istore 7, 2), (40, .iload 7, 2), (42, .aload_n 0, 1), (43, .invokevirtual 200, 3), (46, .if_icmp .ge 106, 3), (49, .aload_n 0, 1), (50, .iload 7, 2), (52, .invokevirtual 206, 3), (55, .aload_n 0, 1), (56, .iload_n 1, 1), (57, .invokevirtual 274, 3), (60, .ifCond .ne 7, 3), (63, .iconst 1, 1)],
   [(64, .goto 4, 3), (67, .iconst 0, 1), (68, .istore 8, 2), (70, .aload_n 0, 1), (71, .iload_n 1, 1), (72, .invokevirtual 256, 3), (75, .istore 9, 2), (77, .iload 8, 2), (79, .ifCond .eq 21, 3), (82, .iload 4, 2), (84, .bipush (-4), 2), (86, .if_icmp .eq 10, 3), (89, .iload 9, 2), (91, .iload 5, 2), (93, .if_icmp .ge 7, 3)],
   [(96, .iconst 1, 1), (97, .goto 4, 3), (100, .iconst 0, 1), (101, .istore 10, 2), (103, .iload 10, 2), (105, .ifCond .eq 8, 3), (108, .iload 7, 2), (110, .goto 5, 3), (113, .iload 4, 2), (115, .istore 4, 2), (117, .iload 10, 2), (119, .ifCond .eq 8, 3), (122, .iload 9, 2), (124, .goto 5, 3), (127, .iload 5, 2)],
   [(129, .istore 5, 2), (131, .iload 6, 2), (133, .iload 8, 2), (135, .ifCond .eq 7, 3), (138, .iconst 1, 1), (139, .goto 4, 3), (142, .iconst 0, 1), (143, .iadd, 1), (144, .istore 6, 2), (146, .iinc 7 1, 3), (149, .goto (-109), 3), (152, .aload_n 0, 1), (153, .iload_n 3, 1), (154, .invokevirtual 206, 3), (157, .iload_n 2, 1), (158, .iconst 2, 1), (159, .if_icmp .ne 8, 3)],
   [(162, .iload 6, 2), (164, .goto 21, 3), (167, .iload 4, 2), (169, .bipush (-4), 2), (171, .if_icmp .eq 7, 3), (174, .iload_n 2, 1), (175, .ifCond .ne 8, 3), (178, .iload 4, 2), (180, .goto 5, 3), (183, .iload 5, 2), (185, .ireturn, 1)]]
def mm_r177 : mm_R := ((yX10_quiet, cX10_quiet, 11, (some .int), 2, false, [(6, 126), (1, 11), (6, 127)], (6, 128)),
   RX10, mm_t177, [(81, 2, 120, 10, 0, [(5, 140)]),
    (198, 11, 0, 0, 2, [(5, 230)]),
    (200, 1, 146, 10, 0, [(6, 3)]),
    (203, 1, 147, 10, 0, [(6, 7)]),
    (206, 1, 148, 10, 0, [(6, 11)]),
    (243, 1, 140, 10, 0, [(6, 60)]),
    (256, 1, 169, 10, 0, [(6, 98)]),
    (274, 1, 176, 10, 0, [(6, 129)])])
-- 178: "RainOrganModel" "woken"
def mm_t178 : mm_T := [[(0, .aload_n 0, 1), (1, .iload_n 1, 1), (2, .invokevirtual 243, 3), (5, .ifCond .eq 11, 3), (8, .aload_n 0, 1), (9, .iload_n 1, 1), (10, .invokevirtual 274, 3), (13, .goto 4, 3), (16, .iconst (-1), 1), (17, .ireturn, 1)]]
def mm_r178 : mm_R := ((yX10_woken, cX10_woken, 2, (some .int), 1, false, [(6, 134), (1, 11), (6, 135)], (6, 136)),
   RX10, mm_t178, [(243, 1, 140, 10, 0, [(6, 60)]),
    (274, 1, 176, 10, 0, [(6, 129)])])
-- 179: "RainOrganModel" "heard"
def mm_t179 : mm_T := [[(0, .iload_n 1, 1), (1, .i2l, 1), (2, .lconst 0, 1), (3, .lconst 1, 1), (4, .invokestatic 81, 3), (7, .ifCond .ne 5, 3), (10, .iconst (-1), 1), (11, .ireturn, 1), (12, .aload_n 0, 1), (13, .getfield 7, 3), (16, .bipush 73, 2), (18, .iaload, 1), (19, .istore_n 2, 1), (20, .iload_n 2, 1), (21, .i2l, 1), (22, .lconst 1, 1), (23, .ldc2_w 140, 3), (26, .invokestatic 81, 3), (29, .ifCond .ne 6, 3)],
   [(32, .bipush (-2), 2), (34, .ireturn, 1), (35, .iconst 0, 1), (36, .istore_n 3, 1), (37, .bipush (-4), 2), (39, .istore 4, 2), (41, .iconst 0, 1), (42, .istore 5, 2), (44, .iload 5, 2), (46, .iconst 1, 1), (47, .iconst 2, 1), (48, .iload_n 2, 1), (49, .imul, 1), (50, .ishl, 1), (51, .if_icmp .ge 113, 3), (54, .iconst 1, 1), (55, .istore 6, 2), (57, .aload_n 0, 1), (58, .sipush 420, 3), (61, .invokevirtual 228, 3)],
   [(64, .iconst 0, 1), (65, .istore 7, 2), (67, .iload 7, 2), (69, .iload_n 2, 1), (70, .if_icmp .ge 54, 3), (73, .iload 6, 2), (75, .ifCond .eq 49, 3), (78, .aload_n 0, 1), (79, .sipush 420, 3), (82, .iload 5, 2), (84, .iconst 2, 1), (85, .iload_n 2, 1), (86, .iconst 1, 1), (87, .isub, 1), (88, .iload 7, 2), (90, .isub, 1), (91, .imul, 1), (92, .ishr, 1), (93, .iconst 3, 1), (94, .iand, 1), (95, .invokevirtual 225, 3)],
   [(98, .aload_n 0, 1), (99, .getfield 7, 3), (102, .bipush 74, 2), (104, .iload 7, 2), (106, .iadd, 1), (107, .iaload, 1), (108, .if_icmp .ne 7, 3), (111, .iconst 1, 1), (112, .goto 4, 3), (115, .iconst 0, 1), (116, .istore 6, 2), (118, .iinc 7 1, 3), (121, .goto (-54), 3), (124, .iload 6, 2), (126, .ifCond .eq 15, 3)],
   [(129, .iload 4, 2), (131, .bipush (-4), 2), (133, .if_icmp .ne 8, 3), (136, .iload 5, 2), (138, .goto 5, 3), (141, .iload 4, 2), (143, .istore 4, 2), (145, .iload_n 3, 1), (146, .iload 6, 2), (148, .ifCond .eq 7, 3), (151, .iconst 1, 1), (152, .goto 4, 3), (155, .iconst 0, 1), (156, .iadd, 1), (157, .istore_n 3, 1), (158, .iinc 5 1, 3)],
   [(161, .goto (-117), 3), (164, .iload_n 1, 1), (165, .ifCond .ne 7, 3), (168, .iload_n 3, 1), (169, .goto 5, 3), (172, .iload 4, 2), (174, .ireturn, 1)]]
def mm_r179 : mm_R := ((yX10_heard, cX10_heard, 8, (some .int), 1, false, [(6, 138), (1, 11), (6, 139)], (6, 140)),
   RX10, mm_t179, [(7, 0, 10, 0, 2, [(4, 232)]),
    (81, 2, 120, 10, 0, [(5, 140)]),
    (140, 11, 0, 0, 5, [(5, 192)]),
    (225, 1, 153, 10, 0, [(6, 20)]),
    (228, 1, 154, 10, 0, [(6, 40)])])
-- 180: "RainOrganModel" "blocked"
def mm_t180 : mm_T := [[(0, .aload_n 0, 1), (1, .iload_n 1, 1), (2, .invokevirtual 243, 3), (5, .ifCond .ne 5, 3), (8, .iconst (-1), 1), (9, .ireturn, 1), (10, .aload_n 0, 1), (11, .iload_n 1, 1), (12, .invokevirtual 256, 3), (15, .ifCond .ne 8, 3), (18, .bipush 32, 2), (20, .goto 4, 3), (23, .iconst 0, 1), (24, .istore_n 2, 1), (25, .iconst 0, 1), (26, .istore_n 3, 1), (27, .iload_n 3, 1), (28, .aload_n 0, 1), (29, .getfield 167, 3)],
   [(32, .if_icmp .ge 56, 3), (35, .aload_n 0, 1), (36, .getfield 7, 3), (39, .iconst 5, 1), (40, .iload_n 3, 1), (41, .iadd, 1), (42, .iaload, 1), (43, .ifCond .ne 39, 3), (46, .aload_n 0, 1), (47, .getfield 7, 3), (50, .iconst 5, 1), (51, .iload_n 3, 1), (52, .iadd, 1), (53, .iconst 1, 1), (54, .iastore, 1), (55, .iload_n 2, 1), (56, .aload_n 0, 1), (57, .iload_n 1, 1), (58, .invokevirtual 256, 3), (61, .ifCond .ne 9, 3)],
   [(64, .iconst 1, 1), (65, .iload_n 3, 1), (66, .ishl, 1), (67, .goto 4, 3), (70, .iconst 0, 1), (71, .ior, 1), (72, .istore_n 2, 1), (73, .aload_n 0, 1), (74, .getfield 7, 3), (77, .iconst 5, 1), (78, .iload_n 3, 1), (79, .iadd, 1), (80, .iconst 0, 1), (81, .iastore, 1), (82, .iinc 3 1, 3), (85, .goto (-58), 3), (88, .iload_n 2, 1), (89, .ireturn, 1)]]
def mm_r180 : mm_R := ((yX10_blocked, cX10_blocked, 4, (some .int), 1, false, [(6, 142), (1, 11), (6, 143)], (6, 144)),
   RX10, mm_t180, [(7, 0, 10, 0, 2, [(4, 232)]),
    (167, 0, 10, 2, 0, [(4, 234)]),
    (243, 1, 140, 10, 0, [(6, 60)]),
    (256, 1, 169, 10, 0, [(6, 98)])])
-- 181: "RainOrganModel" "frozen"
def mm_t181 : mm_T := [[(0, .aload_n 0, 1), (1, .iload_n 1, 1), (2, .invokevirtual 243, 3), (5, .ifCond .ne 5, 3), (8, .iconst (-1), 1), (9, .ireturn, 1), (10, .iconst 0, 1), (11, .istore_n 2, 1), (12, .iconst 0, 1), (13, .istore_n 3, 1), (14, .iload_n 3, 1), (15, .aload_n 0, 1), (16, .getfield 170, 3), (19, .if_icmp .ge 65, 3), (22, .aload_n 0, 1), (23, .getfield 7, 3), (26, .bipush 10, 2), (28, .iload_n 3, 1), (29, .iadd, 1), (30, .iaload, 1), (31, .istore 4, 2)],
   [(33, .iload 4, 2), (35, .iconst 5, 1), (36, .if_icmp .eq 42, 3), (39, .aload_n 0, 1), (40, .getfield 7, 3), (43, .bipush 10, 2), (45, .iload_n 3, 1), (46, .iadd, 1), (47, .iconst 5, 1), (48, .iastore, 1), (49, .iload_n 2, 1), (50, .aload_n 0, 1), (51, .iload_n 1, 1), (52, .invokevirtual 256, 3), (55, .ifCond .ne 9, 3), (58, .iconst 1, 1), (59, .iload_n 3, 1), (60, .ishl, 1), (61, .goto 4, 3)],
   [(64, .iconst 0, 1), (65, .ior, 1), (66, .istore_n 2, 1), (67, .aload_n 0, 1), (68, .getfield 7, 3), (71, .bipush 10, 2), (73, .iload_n 3, 1), (74, .iadd, 1), (75, .iload 4, 2), (77, .iastore, 1), (78, .iinc 3 1, 3), (81, .goto (-67), 3), (84, .iload_n 2, 1), (85, .ireturn, 1)]]
def mm_r181 : mm_R := ((yX10_frozen, cX10_frozen, 5, (some .int), 1, false, [(6, 146), (1, 11), (6, 147)], (6, 148)),
   RX10, mm_t181, [(7, 0, 10, 0, 2, [(4, 232)]),
    (170, 0, 10, 3, 0, [(4, 235)]),
    (243, 1, 140, 10, 0, [(6, 60)]),
    (256, 1, 169, 10, 0, [(6, 98)])])
-- 182: "RainOrganModel" "lasts"
def mm_t182 : mm_T := [[(0, .aload_n 0, 1), (1, .iload_n 1, 1), (2, .invokevirtual 243, 3), (5, .ifCond .eq 11, 3), (8, .aload_n 0, 1), (9, .iload_n 2, 1), (10, .invokevirtual 195, 3), (13, .ifCond .ne 5, 3), (16, .iconst (-1), 1), (17, .ireturn, 1), (18, .aload_n 0, 1), (19, .sipush 420, 3), (22, .invokevirtual 228, 3), (25, .iconst 1, 1), (26, .istore_n 3, 1), (27, .iload_n 3, 1), (28, .bipush 99, 2), (30, .if_icmp .gt 30, 3)],
   [(33, .aload_n 0, 1), (34, .iload_n 1, 1), (35, .invokevirtual 240, 3), (38, .aload_n 0, 1), (39, .getfield 7, 3), (42, .sipush 538, 3), (45, .iload_n 2, 1), (46, .iadd, 1), (47, .iaload, 1), (48, .iconst 1, 1), (49, .if_icmp .ne 5, 3), (52, .iload_n 3, 1), (53, .ireturn, 1), (54, .iinc 3 1, 3), (57, .goto (-30), 3), (60, .bipush (-4), 2), (62, .ireturn, 1)]]
def mm_r182 : mm_R := ((yX10_lasts, cX10_lasts, 4, (some .int), 2, false, [(6, 150), (1, 11), (6, 151)], (6, 152)),
   RX10, mm_t182, [(7, 0, 10, 0, 2, [(4, 232)]),
    (195, 1, 139, 10, 0, [(5, 222)]),
    (228, 1, 154, 10, 0, [(6, 40)]),
    (240, 1, 161, 10, 0, [(6, 76)]),
    (243, 1, 140, 10, 0, [(6, 60)])])
-- 183: "RainOrganModel" "draws"
def mm_t183 : mm_T := [[(0, .aload_n 0, 1), (1, .iload_n 1, 1), (2, .invokevirtual 243, 3), (5, .ifCond .eq 27, 3), (8, .iload_n 2, 1), (9, .i2l, 1), (10, .lconst 1, 1), (11, .ldc2_w 277, 3), (14, .invokestatic 81, 3), (17, .ifCond .eq 15, 3), (20, .iload_n 3, 1), (21, .i2l, 1), (22, .lconst 1, 1), (23, .ldc2_w 279, 3), (26, .invokestatic 81, 3), (29, .ifCond .ne 5, 3)],
   [(32, .iconst (-1), 1), (33, .ireturn, 1), (34, .iload 4, 2), (36, .istore 5, 2), (38, .iconst 0, 1), (39, .istore 6, 2), (41, .aload_n 0, 1), (42, .getfield 7, 3), (45, .bipush 34, 2), (47, .bipush 13, 2), (49, .iload_n 1, 1), (50, .imul, 1), (51, .iadd, 1), (52, .iload_n 2, 1), (53, .iastore, 1), (54, .iconst 0, 1), (55, .istore 7, 2), (57, .iload 7, 2), (59, .iload_n 2, 1), (60, .if_icmp .ge 60, 3), (63, .iload 5, 2)],
   [(65, .ldc_w 281, 3), (68, .imul, 1), (69, .sipush 12345, 3), (72, .iadd, 1), (73, .istore 5, 2), (75, .iload 5, 2), (77, .bipush 16, 2), (79, .ishr, 1), (80, .sipush 32767, 3), (83, .iand, 1), (84, .iload_n 3, 1), (85, .irem, 1), (86, .istore 8, 2), (88, .aload_n 0, 1), (89, .getfield 7, 3), (92, .bipush 34, 2), (94, .bipush 13, 2)],
   [(96, .iload_n 1, 1), (97, .imul, 1), (98, .iadd, 1), (99, .iconst 1, 1), (100, .iadd, 1), (101, .iload 7, 2), (103, .iadd, 1), (104, .iload 8, 2), (106, .iastore, 1), (107, .iload 6, 2), (109, .iload 8, 2), (111, .iadd, 1), (112, .istore 6, 2), (114, .iinc 7 1, 3), (117, .goto (-60), 3), (120, .iload 6, 2), (122, .ireturn, 1)]]
def mm_r183 : mm_R := ((yX10_draws, cX10_draws, 9, (some .int), 4, false, [(6, 154), (1, 11), (6, 155)], (6, 156)),
   RX10, mm_t183, [(7, 0, 10, 0, 2, [(4, 232)]),
    (81, 2, 120, 10, 0, [(5, 140)]),
    (243, 1, 140, 10, 0, [(6, 60)]),
    (277, 11, 0, 0, 12, [(6, 157)]),
    (279, 11, 0, 0, 10, [(6, 158)]),
    (281, 10, 0, 0, 1103515245, [(6, 159)])])
-- 184: "RainOrganModel" "copies"
def mm_t184 : mm_T := [[(0, .iconst 0, 1), (1, .istore_n 3, 1), (2, .iload_n 3, 1), (3, .sipush 140, 3), (6, .if_icmp .ge 25, 3), (9, .aload_n 0, 1), (10, .getfield 7, 3), (13, .iload_n 2, 1), (14, .iload_n 3, 1), (15, .iadd, 1), (16, .aload_n 0, 1), (17, .getfield 7, 3), (20, .iload_n 1, 1), (21, .iload_n 3, 1), (22, .iadd, 1), (23, .iaload, 1), (24, .iastore, 1), (25, .iinc 3 1, 3), (28, .goto (-26), 3), (31, .return_, 1)]]
def mm_r184 : mm_R := ((yX10_copies, cX10_copies, 4, none, 2, false, [(6, 166), (1, 11), (0, 73)], (6, 167)),
   RX10, mm_t184, [(7, 0, 10, 0, 2, [(4, 232)])])
-- 185: "RainOrganModel" "keep"
def mm_t185 : mm_T := [[(0, .iload_n 1, 1), (1, .i2l, 1), (2, .lconst 0, 1), (3, .lconst 1, 1), (4, .invokestatic 81, 3), (7, .ifCond .ne 5, 3), (10, .iconst (-1), 1), (11, .ireturn, 1), (12, .aload_n 0, 1), (13, .iconst 0, 1), (14, .sipush 140, 3), (17, .iload_n 1, 1), (18, .iconst 1, 1), (19, .iadd, 1), (20, .imul, 1), (21, .invokevirtual 282, 3), (24, .aload_n 0, 1), (25, .getfield 64, 3), (28, .iload_n 1, 1), (29, .baload, 1), (30, .ifCond .eq 7, 3)],
   [(33, .iconst 1, 1), (34, .goto 4, 3), (37, .iconst 0, 1), (38, .istore_n 2, 1), (39, .aload_n 0, 1), (40, .getfield 64, 3), (43, .iload_n 1, 1), (44, .iconst 1, 1), (45, .bastore, 1), (46, .iload_n 2, 1), (47, .ireturn, 1)]]
def mm_r185 : mm_R := ((yX10_keep, cX10_keep, 3, (some .int), 1, false, [(6, 161), (1, 11), (6, 162)], (6, 163)),
   RX10, mm_t185, [(64, 0, 10, 41, 2, [(5, 33)]),
    (81, 2, 120, 10, 0, [(5, 140)]),
    (282, 1, 184, 10, 0, [(6, 164)])])
-- 186: "RainOrganModel" "back"
def mm_t186 : mm_T := [[(0, .iload_n 1, 1), (1, .i2l, 1), (2, .lconst 0, 1), (3, .lconst 1, 1), (4, .invokestatic 81, 3), (7, .ifCond .ne 5, 3), (10, .iconst (-1), 1), (11, .ireturn, 1), (12, .aload_n 0, 1), (13, .getfield 64, 3), (16, .iload_n 1, 1), (17, .baload, 1), (18, .ifCond .ne 6, 3), (21, .bipush (-2), 2), (23, .ireturn, 1), (24, .aload_n 0, 1), (25, .sipush 140, 3), (28, .iload_n 1, 1), (29, .iconst 1, 1), (30, .iadd, 1), (31, .imul, 1)],
   [(32, .iconst 0, 1), (33, .invokevirtual 282, 3), (36, .aload_n 0, 1), (37, .getfield 7, 3), (40, .sipush 134, 3), (43, .iaload, 1), (44, .ireturn, 1)]]
def mm_r186 : mm_R := ((yX10_back, cX10_back, 2, (some .int), 1, false, [(6, 169), (1, 11), (6, 170)], (6, 171)),
   RX10, mm_t186, [(7, 0, 10, 0, 2, [(4, 232)]),
    (64, 0, 10, 41, 2, [(5, 33)]),
    (81, 2, 120, 10, 0, [(5, 140)]),
    (282, 1, 184, 10, 0, [(6, 164)])])
-- 187: "RainOrganModel" "sheet"
def mm_t187 : mm_T := [[(0, .iload_n 1, 1), (1, .i2l, 1), (2, .lconst 0, 1), (3, .ldc2_w 285, 3), (6, .invokestatic 81, 3), (9, .ifCond .eq 21, 3), (12, .iload_n 2, 1), (13, .i2l, 1), (14, .lconst 0, 1), (15, .ldc2_w 198, 3), (18, .invokestatic 81, 3), (21, .ifCond .eq 9, 3), (24, .iload_n 3, 1), (25, .bipush 40, 2), (27, .if_icmp .le 5, 3), (30, .iconst (-1), 1), (31, .ireturn, 1)],
   [(32, .iload_n 3, 1), (33, .ifCond .ge 6, 3), (36, .bipush (-14), 2), (38, .ireturn, 1), (39, .aload_n 0, 1), (40, .getfield 68, 3), (43, .iload_n 1, 1), (44, .iload_n 2, 1), (45, .iastore, 1), (46, .aload_n 0, 1), (47, .getfield 71, 3), (50, .iload_n 1, 1), (51, .iload_n 3, 1), (52, .iastore, 1), (53, .iconst 0, 1), (54, .istore 4, 2), (56, .iload 4, 2), (58, .bipush 40, 2), (60, .if_icmp .ge 22, 3), (63, .aload_n 0, 1)],
   [(64, .getfield 74, 3), (67, .bipush 40, 2), (69, .iload_n 1, 1), (70, .imul, 1), (71, .iload 4, 2), (73, .iadd, 1), (74, .iconst 0, 1), (75, .iastore, 1), (76, .iinc 4 1, 3), (79, .goto (-23), 3), (82, .iconst 1, 1), (83, .ireturn, 1)]]
def mm_r187 : mm_R := ((yX10_sheet, cX10_sheet, 5, (some .int), 3, false, [(6, 173), (1, 11), (6, 174)], (6, 175)),
   RX10, mm_t187, [(68, 0, 10, 42, 2, [(5, 34)]),
    (71, 0, 10, 43, 2, [(5, 35)]),
    (74, 0, 10, 44, 2, [(5, 36)]),
    (81, 2, 120, 10, 0, [(5, 140)]),
    (198, 11, 0, 0, 2, [(5, 230)]),
    (285, 11, 0, 0, 3, [(6, 176)])])
-- 188: "RainOrganModel" "lay"
def mm_t188 : mm_T := [[(0, .iload_n 1, 1), (1, .i2l, 1), (2, .lconst 0, 1), (3, .ldc2_w 285, 3), (6, .invokestatic 81, 3), (9, .ifCond .ne 5, 3), (12, .iconst (-1), 1), (13, .ireturn, 1), (14, .aload_n 0, 1), (15, .getfield 68, 3), (18, .iload_n 1, 1), (19, .iaload, 1), (20, .bipush (-4), 2), (22, .if_icmp .ne 6, 3), (25, .bipush (-11), 2), (27, .ireturn, 1), (28, .iload_n 2, 1), (29, .i2l, 1), (30, .lconst 0, 1), (31, .aload_n 0, 1)],
   [(32, .getfield 71, 3), (35, .iload_n 1, 1), (36, .iaload, 1), (37, .iconst 1, 1), (38, .isub, 1), (39, .i2l, 1), (40, .invokestatic 81, 3), (43, .ifCond .ne 6, 3), (46, .bipush (-12), 2), (48, .ireturn, 1), (49, .aload_n 0, 1), (50, .getfield 74, 3), (53, .bipush 40, 2), (55, .iload_n 1, 1), (56, .imul, 1), (57, .iload_n 2, 1), (58, .iadd, 1), (59, .aload_n 0, 1), (60, .getfield 68, 3), (63, .iload_n 1, 1)],
   [(64, .iaload, 1), (65, .ifCond .ne 13, 3), (68, .iload_n 3, 1), (69, .bipush 24, 2), (71, .ishl, 1), (72, .bipush 24, 2), (74, .ishr, 1), (75, .goto 24, 3), (78, .aload_n 0, 1), (79, .getfield 68, 3), (82, .iload_n 1, 1), (83, .iaload, 1), (84, .iconst 1, 1), (85, .if_icmp .ne 13, 3), (88, .iload_n 3, 1), (89, .bipush 16, 2), (91, .ishl, 1), (92, .bipush 16, 2), (94, .ishr, 1), (95, .goto 4, 3)],
   [(98, .iload_n 3, 1), (99, .iastore, 1), (100, .iconst 1, 1), (101, .ireturn, 1)]]
def mm_r188 : mm_R := ((yX10_lay, cX10_lay, 4, (some .int), 3, false, [(6, 178), (1, 11), (6, 179)], (6, 180)),
   RX10, mm_t188, [(68, 0, 10, 42, 2, [(5, 34)]),
    (71, 0, 10, 43, 2, [(5, 35)]),
    (74, 0, 10, 44, 2, [(5, 36)]),
    (81, 2, 120, 10, 0, [(5, 140)]),
    (285, 11, 0, 0, 3, [(6, 176)])])
-- 189: "RainOrganModel" "read"
def mm_t189 : mm_T := [[(0, .iload_n 1, 1), (1, .i2l, 1), (2, .lconst 0, 1), (3, .ldc2_w 285, 3), (6, .invokestatic 81, 3), (9, .ifCond .eq 28, 3), (12, .iload_n 2, 1), (13, .i2l, 1), (14, .lconst 0, 1), (15, .ldc2_w 198, 3), (18, .invokestatic 81, 3), (21, .ifCond .eq 16, 3), (24, .iload 4, 2), (26, .i2l, 1), (27, .lconst 0, 1), (28, .ldc2_w 277, 3), (31, .invokestatic 81, 3)],
   [(34, .ifCond .ne 5, 3), (37, .iconst (-1), 1), (38, .ireturn, 1), (39, .iconst 0, 1), (40, .istore 5, 2), (42, .iconst 0, 1), (43, .istore 6, 2), (45, .iload 6, 2), (47, .iload 4, 2), (49, .if_icmp .ge 120, 3), (52, .iload 5, 2), (54, .ifCond .ne 115, 3), (57, .aload_n 0, 1), (58, .getfield 68, 3), (61, .iload_n 1, 1), (62, .iaload, 1), (63, .bipush (-4), 2)],
   [(65, .if_icmp .ne 7, 3), (68, .iconst 1, 1), (69, .goto 44, 3), (72, .aload_n 0, 1), (73, .getfield 68, 3), (76, .iload_n 1, 1), (77, .iaload, 1), (78, .iload_n 2, 1), (79, .if_icmp .eq 7, 3), (82, .iconst 3, 1), (83, .goto 30, 3), (86, .iload_n 3, 1), (87, .i2l, 1), (88, .iload 6, 2), (90, .i2l, 1), (91, .ladd, 1), (92, .lconst 0, 1), (93, .aload_n 0, 1), (94, .getfield 71, 3)],
   [(97, .iload_n 1, 1), (98, .iaload, 1), (99, .iconst 1, 1), (100, .isub, 1), (101, .i2l, 1), (102, .invokestatic 81, 3), (105, .ifCond .ne 7, 3), (108, .iconst 2, 1), (109, .goto 4, 3), (112, .iconst 0, 1), (113, .istore 5, 2), (115, .iload 5, 2), (117, .ifCond .ne 34, 3), (120, .aload_n 0, 1), (121, .getfield 74, 3), (124, .bipush 40, 2), (126, .iload_n 1, 1), (127, .imul, 1)],
   [(128, .iload_n 3, 1), (129, .iadd, 1), (130, .iload 6, 2), (132, .iadd, 1), (133, .iaload, 1), (134, .i2l, 1), (135, .lconst 0, 1), (136, .ldc2_w 223, 3), (139, .invokestatic 81, 3), (142, .ifCond .ne 9, 3), (145, .bipush (-20), 2), (147, .iload 6, 2), (149, .isub, 1), (150, .ireturn, 1), (151, .iload 6, 2), (153, .iload 5, 2), (155, .ifCond .ne 7, 3), (158, .iconst 1, 1), (159, .goto 4, 3)],
   [(162, .iconst 0, 1), (163, .iadd, 1), (164, .istore 6, 2), (166, .goto (-121), 3), (169, .iconst 0, 1), (170, .istore 7, 2), (172, .iload 7, 2), (174, .iload 6, 2), (176, .if_icmp .ge 29, 3), (179, .aload_n 0, 1), (180, .iconst 0, 1), (181, .aload_n 0, 1), (182, .getfield 74, 3), (185, .bipush 40, 2), (187, .iload_n 1, 1), (188, .imul, 1), (189, .iload_n 3, 1), (190, .iadd, 1), (191, .iload 7, 2)],
   [(193, .iadd, 1), (194, .iaload, 1), (195, .invokevirtual 225, 3), (198, .pop, 1), (199, .iinc 7 1, 3), (202, .goto (-30), 3), (205, .aload_n 0, 1), (206, .iload 5, 2), (208, .putfield 287, 3), (211, .iload 6, 2), (213, .ireturn, 1)]]
def mm_r189 : mm_R := ((yX10_read, cX10_read, 8, (some .int), 4, false, [(6, 182), (1, 11), (6, 183)], (6, 184)),
   RX10, mm_t189, [(68, 0, 10, 42, 2, [(5, 34)]),
    (71, 0, 10, 43, 2, [(5, 35)]),
    (74, 0, 10, 44, 2, [(5, 36)]),
    (81, 2, 120, 10, 0, [(5, 140)]),
    (198, 11, 0, 0, 2, [(5, 230)]),
    (223, 11, 0, 0, 9, [(6, 19)]),
    (225, 1, 153, 10, 0, [(6, 20)]),
    (277, 11, 0, 0, 12, [(6, 157)]),
    (285, 11, 0, 0, 3, [(6, 176)]),
    (287, 0, 10, 45, 0, [(5, 37)])])
-- 190: "RainOrganModel" "torn"
def mm_t190 : mm_T := [[(0, .aload_n 0, 1), (1, .getfield 287, 3), (4, .ireturn, 1)]]
def mm_r190 : mm_R := ((yX10_torn, cX10_torn, 1, (some .int), 0, false, [(6, 186), (1, 11), (6, 187)], (6, 188)),
   RX10, mm_t190, [(287, 0, 10, 45, 0, [(5, 37)])])
-- 191: "RainOrganModel" "count"
def mm_t191 : mm_T := [[(0, .iconst 0, 1), (1, .istore_n 2, 1), (2, .iconst 0, 1), (3, .istore_n 3, 1), (4, .iload_n 3, 1), (5, .iconst 5, 1), (6, .if_icmp .ge 20, 3), (9, .iload_n 2, 1), (10, .aload_n 0, 1), (11, .getfield 7, 3), (14, .iconst 5, 1), (15, .iload_n 3, 1), (16, .iadd, 1), (17, .iaload, 1), (18, .iadd, 1), (19, .istore_n 2, 1), (20, .iinc 3 1, 3), (23, .goto (-19), 3), (26, .iload_n 1, 1), (27, .tableswitch 101 0 4 #[33, 35, 43, 73, 78], 33)],
   [(60, .iload_n 2, 1), (61, .ireturn, 1), (62, .aload_n 0, 1), (63, .iconst 0, 1)],
   [(64, .bipush 118, 2), (66, .invokevirtual 231, 3), (69, .ireturn, 1), (70, .aload_n 0, 1), (71, .getfield 64, 3), (74, .iconst 0, 1), (75, .baload, 1), (76, .ifCond .eq 7, 3), (79, .iconst 1, 1), (80, .goto 4, 3), (83, .iconst 0, 1), (84, .aload_n 0, 1), (85, .getfield 64, 3), (88, .iconst 1, 1), (89, .baload, 1), (90, .ifCond .eq 7, 3), (93, .iconst 1, 1), (94, .goto 4, 3)],
   [(97, .iconst 0, 1), (98, .iadd, 1), (99, .ireturn, 1), (100, .aload_n 0, 1), (101, .getfield 77, 3), (104, .ireturn, 1), (105, .aload_n 0, 1), (106, .getfield 68, 3), (109, .iconst 0, 1), (110, .iaload, 1), (111, .bipush (-4), 2), (113, .if_icmp .ne 8, 3), (116, .bipush (-4), 2), (118, .goto 9, 3), (121, .aload_n 0, 1), (122, .getfield 71, 3), (125, .iconst 0, 1), (126, .iaload, 1), (127, .ireturn, 1)],
   [(128, .iconst (-1), 1), (129, .ireturn, 1)]]
def mm_r191 : mm_R := ((yX10_count, cX10_count, 4, (some .int), 1, false, [(6, 190), (1, 11), (6, 191)], (6, 192)),
   RX10, mm_t191, [(7, 0, 10, 0, 2, [(4, 232)]),
    (64, 0, 10, 41, 2, [(5, 33)]),
    (68, 0, 10, 42, 2, [(5, 34)]),
    (71, 0, 10, 43, 2, [(5, 35)]),
    (77, 0, 10, 22, 0, [(5, 14)]),
    (231, 1, 155, 10, 0, [(6, 48)])])
-- 192: "java/lang/Integer" "bitCount"
def mm_t192 : mm_T := [[(0, .iload_n 0, 1), (1, .iload_n 0, 1), (2, .iconst 1, 1), (3, .iushr, 1), (4, .ldc_w 265, 3), (7, .iand, 1), (8, .isub, 1), (9, .istore_n 0, 1), (10, .iload_n 0, 1), (11, .ldc_w 266, 3), (14, .iand, 1), (15, .iload_n 0, 1), (16, .iconst 2, 1), (17, .iushr, 1), (18, .ldc_w 266, 3), (21, .iand, 1), (22, .iadd, 1), (23, .istore_n 0, 1), (24, .iload_n 0, 1), (25, .iload_n 0, 1), (26, .iconst 4, 1), (27, .iushr, 1), (28, .iadd, 1), (29, .ldc_w 267, 3)],
   [(32, .iand, 1), (33, .istore_n 0, 1), (34, .iload_n 0, 1), (35, .iload_n 0, 1), (36, .bipush 8, 2), (38, .iushr, 1), (39, .iadd, 1), (40, .istore_n 0, 1), (41, .iload_n 0, 1), (42, .iload_n 0, 1), (43, .bipush 16, 2), (45, .iushr, 1), (46, .iadd, 1), (47, .istore_n 0, 1), (48, .iload_n 0, 1), (49, .bipush 63, 2), (51, .iand, 1), (52, .ireturn, 1)]]
def mm_r192 : mm_R := ((yJ6_bitCount_0f7a4, cJ6_bitCount_0f7a4, 1, (some .int), 1, true, [(4, 83), (1, 18)], (4, 84)),
   RJ6, mm_t192, [(265, 10, 0, 0, 1431655765, [(4, 85)]),
    (266, 10, 0, 0, 858993459, [(4, 86)]),
    (267, 10, 0, 0, 252645135, [(4, 87)])])
-- 193: "java/lang/String" "length"
def mm_t193 : mm_T := [[(0, .aload_n 0, 1), (1, .getfield 9, 3), (4, .arraylength, 1), (5, .aload_n 0, 1), (6, .invokevirtual 335, 3), (9, .ishr, 1), (10, .ireturn, 1)]]
def mm_r193 : mm_R := ((yJ0_length_8abf5, cJ0_length_8abf5, 1, (some .int), 0, false, [(3, 5), (1, 13), (3, 6)], (3, 7)),
   RJ0, mm_t193, [(9, 14, 0, 0, 0, [(6, 194)]),
    (335, 1, 195, 1000, 0, [(3, 8)])])
-- 194: "java/lang/String" "charAt"
def mm_t194 : mm_T := [[(0, .aload_n 0, 1), (1, .invokevirtual 492, 3), (4, .ifCond .eq 12, 3), (7, .aload_n 0, 1), (8, .getfield 9, 3), (11, .iload_n 1, 1), (12, .invokestatic 495, 3), (15, .ireturn, 1), (16, .aload_n 0, 1), (17, .getfield 9, 3), (20, .iload_n 1, 1), (21, .invokestatic 498, 3), (24, .ireturn, 1)]]
def mm_r194 : mm_R := ((yJ0_charAt_5068e, cJ0_charAt_5068e, 2, (some .char), 1, false, [(3, 15), (1, 13), (3, 16)], (3, 17)),
   RJ0, mm_t194, [(9, 14, 0, 0, 0, [(6, 194)]),
    (492, 1, 196, 1000, 0, [(3, 18)]),
    (495, 2, 198, 0, 0, [(3, 22)]),
    (498, 99, 0, 0, 0, [])])
-- 195: "java/lang/String" "coder"
def mm_t195 : mm_T := [[(0, .getstatic 38, 3), (3, .ifCond .eq 10, 3), (6, .aload_n 0, 1), (7, .getfield 15, 3), (10, .goto 4, 3), (13, .iconst 1, 1), (14, .ireturn, 1)]]
def mm_r195 : mm_R := ((yJ0_coder_7d493, cJ0_coder_7d493, 1, (some .byte), 0, false, [(3, 9), (1, 13), (3, 10)], (3, 11)),
   RJ0, mm_t195, [(15, 15, 0, 0, 0, [(6, 195)]),
    (38, 16, 0, 0, 0, [(3, 12)])])
-- 196: "java/lang/String" "isLatin1"
def mm_t196 : mm_T := [[(0, .getstatic 38, 3), (3, .ifCond .eq 14, 3), (6, .aload_n 0, 1), (7, .getfield 15, 3), (10, .ifCond .ne 7, 3), (13, .iconst 1, 1), (14, .goto 4, 3), (17, .iconst 0, 1), (18, .ireturn, 1)]]
def mm_r196 : mm_R := ((yJ0_isLatin1_aae02, cJ0_isLatin1_aae02, 1, (some .boolean), 0, false, [(3, 19), (1, 13), (3, 20)], (3, 21)),
   RJ0, mm_t196, [(15, 15, 0, 0, 0, [(6, 195)]),
    (38, 16, 0, 0, 0, [(3, 12)])])
-- 197: "java/lang/String" "checkIndex"
def mm_t197 : mm_T := [[(0, .iload_n 0, 1), (1, .iload_n 1, 1), (2, .getstatic 1053, 3), (5, .invokestatic 1059, 3), (8, .pop, 1), (9, .return_, 1)]]
def mm_r197 : mm_R := ((yJ0_checkIndex_df160, cJ0_checkIndex_df160, 2, none, 2, true, [(3, 26), (1, 13)], (3, 27)),
   RJ0, mm_t197, [(1053, 17, 0, 0, 0, [(3, 28)]),
    (1059, 2, 201, 0, 0, [(3, 30)])])
-- 198: "java/lang/StringLatin1" "charAt"
def mm_t198 : mm_T := [[(0, .iload_n 1, 1), (1, .aload_n 0, 1), (2, .arraylength, 1), (3, .invokestatic 9, 3), (6, .aload_n 0, 1), (7, .iload_n 1, 1), (8, .baload, 1), (9, .sipush 255, 3), (12, .iand, 1), (13, .i2c, 1), (14, .ireturn, 1)]]
def mm_r198 : mm_R := ((yJ1_charAt_3b067, cJ1_charAt_3b067, 2, (some .char), 2, true, [(3, 23), (1, 14)], (3, 24)),
   RJ1, mm_t198, [(9, 2, 197, 1000, 0, [(3, 25)])])
-- 199: "java/util/Arrays" "fill"
def mm_t199 : mm_T := [[(0, .iconst 0, 1), (1, .istore_n 3, 1), (2, .aload_n 0, 1), (3, .arraylength, 1), (4, .istore 4, 2), (6, .iload_n 3, 1), (7, .iload 4, 2), (9, .if_icmp .ge 13, 3), (12, .aload_n 0, 1), (13, .iload_n 3, 1), (14, .lload_n 1, 1), (15, .lastore, 1), (16, .iinc 3 1, 3), (19, .goto (-13), 3), (22, .return_, 1)]]
def mm_r199 : mm_R := ((yJ7_fill_d0a16, cJ7_fill_d0a16, 5, none, 2, true, [(3, 139), (1, 12)], (3, 140)),
   RJ7, mm_t199, [])
-- 200: "java/util/Arrays" "fill"
def mm_t200 : mm_T := [[(0, .iconst 0, 1), (1, .istore_n 2, 1), (2, .aload_n 0, 1), (3, .arraylength, 1), (4, .istore_n 3, 1), (5, .iload_n 2, 1), (6, .iload_n 3, 1), (7, .if_icmp .ge 13, 3), (10, .aload_n 0, 1), (11, .iload_n 2, 1), (12, .iload_n 1, 1), (13, .iastore, 1), (14, .iinc 2 1, 3), (17, .goto (-12), 3), (20, .return_, 1)]]
def mm_r200 : mm_R := ((yJ7_fill_53178, cJ7_fill_53178, 4, none, 2, true, [(2, 213), (1, 12)], (2, 214)),
   RJ7, mm_t200, [])
-- 201: "jdk/internal/util/Preconditions" "checkIndex"
def mm_t201 : mm_T := [[(0, .iload_n 0, 1), (1, .ifCond .lt 8, 3), (4, .iload_n 0, 1), (5, .iload_n 1, 1), (6, .if_icmp .lt 10, 3), (9, .aload_n 2, 1), (10, .iload_n 0, 1), (11, .iload_n 1, 1), (12, .invokestatic 95, 3), (15, .athrow, 1), (16, .iload_n 0, 1), (17, .ireturn, 1)]]
def mm_r201 : mm_R := ((yJ3_checkIndex_8e157, cJ3_checkIndex_8e157, 3, (some .int), 3, true, [(3, 31), (1, 15)], (3, 32)),
   RJ3, mm_t201, [(95, 99, 0, 0, 0, [])])
-- 202: "RainOrganLaw" "law"
def mm_tL_0 : List (Nat × Instr × Nat) := [(0, .new 7, 3), (3, .dup, 1), (4, .invokespecial 9, 3), (7, .astore_n 1, 1), (8, .new 10, 3), (11, .dup, 1), (12, .invokespecial 12, 3), (15, .astore_n 2, 1), (16, .iconst 0, 1), (17, .istore_n 3, 1), (18, .iload_n 3, 1), (19, .aload_n 0, 1), (20, .arraylength, 1), (21, .iconst 5, 1), (22, .isub, 1), (23, .if_icmp .gt 1293, 3), (26, .aload_n 0, 1), (27, .iload_n 3, 1), (28, .iaload, 1), (29, .bipush 63, 2), (31, .iand, 1)]
def mm_tL_1 : List (Nat × Instr × Nat) := [(32, .tableswitch 1278 0 37 #[168, 221, 244, 257, 270, 293, 326, 359, 392, 441, 474, 497, 520, 533, 556, 579, 612, 645, 678, 701, 734, 757, 790, 823, 846, 879, 902, 925, 948, 971, 1004, 1057, 1080, 1103, 1146, 1189, 1242, 1255], 168)]
def mm_tL_2 : List (Nat × Instr × Nat) := []
def mm_tL_3 : List (Nat × Instr × Nat) := []
def mm_tL_4 : List (Nat × Instr × Nat) := []
def mm_tL_5 : List (Nat × Instr × Nat) := []
def mm_tL_6 : List (Nat × Instr × Nat) := [(200, .aload_n 1, 1), (201, .aload_n 0, 1), (202, .iload_n 3, 1), (203, .iconst 1, 1), (204, .iadd, 1), (205, .iaload, 1), (206, .i2l, 1), (207, .bipush 32, 2), (209, .lshl, 1), (210, .aload_n 0, 1), (211, .iload_n 3, 1), (212, .iconst 2, 1), (213, .iadd, 1), (214, .iaload, 1), (215, .i2l, 1), (216, .ldc2_w 13, 3), (219, .land, 1), (220, .lor, 1), (221, .invokevirtual 15, 3)]
def mm_tL_7 : List (Nat × Instr × Nat) := [(224, .aload_n 2, 1), (225, .aload_n 0, 1), (226, .iload_n 3, 1), (227, .iconst 1, 1), (228, .iadd, 1), (229, .iaload, 1), (230, .i2l, 1), (231, .bipush 32, 2), (233, .lshl, 1), (234, .aload_n 0, 1), (235, .iload_n 3, 1), (236, .iconst 2, 1), (237, .iadd, 1), (238, .iaload, 1), (239, .i2l, 1), (240, .ldc2_w 13, 3), (243, .land, 1), (244, .lor, 1), (245, .invokevirtual 19, 3), (248, .if_icmp .eq 1062, 3), (251, .iconst 0, 1), (252, .ireturn, 1), (253, .aload_n 1, 1), (254, .aload_n 0, 1), (255, .iload_n 3, 1)]
def mm_tL_8 : List (Nat × Instr × Nat) := [(256, .iconst 1, 1), (257, .iadd, 1), (258, .iaload, 1), (259, .invokevirtual 20, 3), (262, .pop, 1), (263, .aload_n 2, 1), (264, .aload_n 0, 1), (265, .iload_n 3, 1), (266, .iconst 1, 1), (267, .iadd, 1), (268, .iaload, 1), (269, .invokevirtual 24, 3), (272, .pop, 1), (273, .goto 1037, 3), (276, .aload_n 1, 1), (277, .invokevirtual 25, 3), (280, .pop, 1), (281, .aload_n 2, 1), (282, .invokevirtual 29, 3), (285, .pop, 1), (286, .goto 1024, 3)]
def mm_tL_9 : List (Nat × Instr × Nat) := [(289, .aload_n 1, 1), (290, .invokevirtual 30, 3), (293, .pop, 1), (294, .aload_n 2, 1), (295, .invokevirtual 33, 3), (298, .pop, 1), (299, .goto 1011, 3), (302, .aload_n 1, 1), (303, .aload_n 0, 1), (304, .iload_n 3, 1), (305, .iconst 1, 1), (306, .iadd, 1), (307, .iaload, 1), (308, .invokevirtual 34, 3), (311, .pop, 1), (312, .aload_n 2, 1), (313, .aload_n 0, 1), (314, .iload_n 3, 1), (315, .iconst 1, 1), (316, .iadd, 1), (317, .iaload, 1), (318, .invokevirtual 37, 3)]
def mm_tL_10 : List (Nat × Instr × Nat) := [(321, .pop, 1), (322, .goto 988, 3), (325, .aload_n 1, 1), (326, .aload_n 0, 1), (327, .iload_n 3, 1), (328, .iconst 1, 1), (329, .iadd, 1), (330, .iaload, 1), (331, .aload_n 0, 1), (332, .iload_n 3, 1), (333, .iconst 2, 1), (334, .iadd, 1), (335, .iaload, 1), (336, .invokevirtual 38, 3), (339, .pop, 1), (340, .aload_n 2, 1), (341, .aload_n 0, 1), (342, .iload_n 3, 1), (343, .iconst 1, 1), (344, .iadd, 1), (345, .iaload, 1), (346, .aload_n 0, 1), (347, .iload_n 3, 1), (348, .iconst 2, 1), (349, .iadd, 1), (350, .iaload, 1), (351, .invokevirtual 42, 3)]
def mm_tL_11 : List (Nat × Instr × Nat) := [(354, .pop, 1), (355, .goto 955, 3), (358, .aload_n 1, 1), (359, .aload_n 0, 1), (360, .iload_n 3, 1), (361, .iconst 1, 1), (362, .iadd, 1), (363, .iaload, 1), (364, .aload_n 0, 1), (365, .iload_n 3, 1), (366, .iconst 2, 1), (367, .iadd, 1), (368, .iaload, 1), (369, .invokevirtual 43, 3), (372, .pop, 1), (373, .aload_n 2, 1), (374, .aload_n 0, 1), (375, .iload_n 3, 1), (376, .iconst 1, 1), (377, .iadd, 1), (378, .iaload, 1), (379, .aload_n 0, 1), (380, .iload_n 3, 1), (381, .iconst 2, 1), (382, .iadd, 1), (383, .iaload, 1)]
def mm_tL_12 : List (Nat × Instr × Nat) := [(384, .invokevirtual 46, 3), (387, .pop, 1), (388, .goto 922, 3), (391, .aload_n 1, 1), (392, .aload_n 0, 1), (393, .iload_n 3, 1), (394, .iconst 1, 1), (395, .iadd, 1), (396, .iaload, 1), (397, .aload_n 0, 1), (398, .iload_n 3, 1), (399, .iconst 2, 1), (400, .iadd, 1), (401, .iaload, 1), (402, .invokevirtual 47, 3), (405, .pop, 1), (406, .aload_n 2, 1), (407, .aload_n 0, 1), (408, .iload_n 3, 1), (409, .iconst 1, 1), (410, .iadd, 1), (411, .iaload, 1), (412, .aload_n 0, 1), (413, .iload_n 3, 1), (414, .iconst 2, 1), (415, .iadd, 1)]
def mm_tL_13 : List (Nat × Instr × Nat) := [(416, .iaload, 1), (417, .invokevirtual 50, 3), (420, .pop, 1), (421, .goto 889, 3), (424, .aload_n 1, 1), (425, .aload_n 0, 1), (426, .iload_n 3, 1), (427, .iconst 1, 1), (428, .iadd, 1), (429, .iaload, 1), (430, .aload_n 0, 1), (431, .iload_n 3, 1), (432, .iconst 2, 1), (433, .iadd, 1), (434, .iaload, 1), (435, .ifCond .eq 7, 3), (438, .iconst 1, 1), (439, .goto 4, 3), (442, .iconst 0, 1), (443, .invokevirtual 51, 3), (446, .pop, 1), (447, .aload_n 2, 1)]
def mm_tL_14 : List (Nat × Instr × Nat) := [(448, .aload_n 0, 1), (449, .iload_n 3, 1), (450, .iconst 1, 1), (451, .iadd, 1), (452, .iaload, 1), (453, .aload_n 0, 1), (454, .iload_n 3, 1), (455, .iconst 2, 1), (456, .iadd, 1), (457, .iaload, 1), (458, .ifCond .eq 7, 3), (461, .iconst 1, 1), (462, .goto 4, 3), (465, .iconst 0, 1), (466, .invokevirtual 55, 3), (469, .pop, 1), (470, .goto 840, 3), (473, .aload_n 1, 1), (474, .aload_n 0, 1), (475, .iload_n 3, 1), (476, .iconst 1, 1), (477, .iadd, 1), (478, .iaload, 1), (479, .aload_n 0, 1)]
def mm_tL_15 : List (Nat × Instr × Nat) := [(480, .iload_n 3, 1), (481, .iconst 2, 1), (482, .iadd, 1), (483, .iaload, 1), (484, .invokevirtual 56, 3), (487, .pop, 1), (488, .aload_n 2, 1), (489, .aload_n 0, 1), (490, .iload_n 3, 1), (491, .iconst 1, 1), (492, .iadd, 1), (493, .iaload, 1), (494, .aload_n 0, 1), (495, .iload_n 3, 1), (496, .iconst 2, 1), (497, .iadd, 1), (498, .iaload, 1), (499, .invokevirtual 59, 3), (502, .pop, 1), (503, .goto 807, 3), (506, .aload_n 1, 1), (507, .aload_n 0, 1), (508, .iload_n 3, 1), (509, .iconst 1, 1), (510, .iadd, 1), (511, .iaload, 1)]
def mm_tL_16 : List (Nat × Instr × Nat) := [(512, .invokevirtual 60, 3), (515, .pop, 1), (516, .aload_n 2, 1), (517, .aload_n 0, 1), (518, .iload_n 3, 1), (519, .iconst 1, 1), (520, .iadd, 1), (521, .iaload, 1), (522, .invokevirtual 63, 3), (525, .pop, 1), (526, .goto 784, 3), (529, .aload_n 1, 1), (530, .aload_n 0, 1), (531, .iload_n 3, 1), (532, .iconst 1, 1), (533, .iadd, 1), (534, .iaload, 1), (535, .invokevirtual 64, 3), (538, .pop, 1), (539, .aload_n 2, 1), (540, .aload_n 0, 1), (541, .iload_n 3, 1), (542, .iconst 1, 1), (543, .iadd, 1)]
def mm_tL_17 : List (Nat × Instr × Nat) := [(544, .iaload, 1), (545, .invokevirtual 67, 3), (548, .pop, 1), (549, .goto 761, 3), (552, .aload_n 1, 1), (553, .invokevirtual 68, 3), (556, .pop, 1), (557, .aload_n 2, 1), (558, .invokevirtual 71, 3), (561, .pop, 1), (562, .goto 748, 3), (565, .aload_n 1, 1), (566, .aload_n 0, 1), (567, .iload_n 3, 1), (568, .iconst 1, 1), (569, .iadd, 1), (570, .iaload, 1), (571, .invokevirtual 72, 3), (574, .pop, 1), (575, .aload_n 2, 1)]
def mm_tL_18 : List (Nat × Instr × Nat) := [(576, .aload_n 0, 1), (577, .iload_n 3, 1), (578, .iconst 1, 1), (579, .iadd, 1), (580, .iaload, 1), (581, .invokevirtual 75, 3), (584, .pop, 1), (585, .goto 725, 3), (588, .aload_n 1, 1), (589, .aload_n 0, 1), (590, .iload_n 3, 1), (591, .iconst 1, 1), (592, .iadd, 1), (593, .iaload, 1), (594, .invokevirtual 76, 3), (597, .pop, 1), (598, .aload_n 2, 1), (599, .aload_n 0, 1), (600, .iload_n 3, 1), (601, .iconst 1, 1), (602, .iadd, 1), (603, .iaload, 1), (604, .invokevirtual 79, 3), (607, .pop, 1)]
def mm_tL_19 : List (Nat × Instr × Nat) := [(608, .goto 702, 3), (611, .aload_n 1, 1), (612, .aload_n 0, 1), (613, .iload_n 3, 1), (614, .iconst 1, 1), (615, .iadd, 1), (616, .iaload, 1), (617, .aload_n 0, 1), (618, .iload_n 3, 1), (619, .iconst 2, 1), (620, .iadd, 1), (621, .iaload, 1), (622, .invokevirtual 80, 3), (625, .pop, 1), (626, .aload_n 2, 1), (627, .aload_n 0, 1), (628, .iload_n 3, 1), (629, .iconst 1, 1), (630, .iadd, 1), (631, .iaload, 1), (632, .aload_n 0, 1), (633, .iload_n 3, 1), (634, .iconst 2, 1), (635, .iadd, 1), (636, .iaload, 1), (637, .invokevirtual 83, 3)]
def mm_tL_20 : List (Nat × Instr × Nat) := [(640, .pop, 1), (641, .goto 669, 3), (644, .aload_n 1, 1), (645, .aload_n 0, 1), (646, .iload_n 3, 1), (647, .iconst 1, 1), (648, .iadd, 1), (649, .iaload, 1), (650, .aload_n 0, 1), (651, .iload_n 3, 1), (652, .iconst 2, 1), (653, .iadd, 1), (654, .iaload, 1), (655, .invokevirtual 84, 3), (658, .pop, 1), (659, .aload_n 2, 1), (660, .aload_n 0, 1), (661, .iload_n 3, 1), (662, .iconst 1, 1), (663, .iadd, 1), (664, .iaload, 1), (665, .aload_n 0, 1), (666, .iload_n 3, 1), (667, .iconst 2, 1), (668, .iadd, 1), (669, .iaload, 1), (670, .invokevirtual 87, 3)]
def mm_tL_21 : List (Nat × Instr × Nat) := [(673, .pop, 1), (674, .goto 636, 3), (677, .aload_n 1, 1), (678, .aload_n 0, 1), (679, .iload_n 3, 1), (680, .iconst 1, 1), (681, .iadd, 1), (682, .iaload, 1), (683, .aload_n 0, 1), (684, .iload_n 3, 1), (685, .iconst 2, 1), (686, .iadd, 1), (687, .iaload, 1), (688, .invokevirtual 88, 3), (691, .pop, 1), (692, .aload_n 2, 1), (693, .aload_n 0, 1), (694, .iload_n 3, 1), (695, .iconst 1, 1), (696, .iadd, 1), (697, .iaload, 1), (698, .aload_n 0, 1), (699, .iload_n 3, 1), (700, .iconst 2, 1), (701, .iadd, 1), (702, .iaload, 1), (703, .invokevirtual 91, 3)]
def mm_tL_22 : List (Nat × Instr × Nat) := [(706, .pop, 1), (707, .goto 603, 3), (710, .aload_n 1, 1), (711, .aload_n 0, 1), (712, .iload_n 3, 1), (713, .iconst 1, 1), (714, .iadd, 1), (715, .iaload, 1), (716, .invokevirtual 92, 3), (719, .pop, 1), (720, .aload_n 2, 1), (721, .aload_n 0, 1), (722, .iload_n 3, 1), (723, .iconst 1, 1), (724, .iadd, 1), (725, .iaload, 1), (726, .invokevirtual 95, 3), (729, .pop, 1), (730, .goto 580, 3), (733, .aload_n 1, 1), (734, .aload_n 0, 1), (735, .iload_n 3, 1)]
def mm_tL_23 : List (Nat × Instr × Nat) := [(736, .iconst 1, 1), (737, .iadd, 1), (738, .iaload, 1), (739, .aload_n 0, 1), (740, .iload_n 3, 1), (741, .iconst 2, 1), (742, .iadd, 1), (743, .iaload, 1), (744, .invokevirtual 96, 3), (747, .pop, 1), (748, .aload_n 2, 1), (749, .aload_n 0, 1), (750, .iload_n 3, 1), (751, .iconst 1, 1), (752, .iadd, 1), (753, .iaload, 1), (754, .aload_n 0, 1), (755, .iload_n 3, 1), (756, .iconst 2, 1), (757, .iadd, 1), (758, .iaload, 1), (759, .invokevirtual 99, 3), (762, .pop, 1), (763, .goto 547, 3), (766, .aload_n 1, 1), (767, .aload_n 0, 1)]
def mm_tL_24 : List (Nat × Instr × Nat) := [(768, .iload_n 3, 1), (769, .iconst 1, 1), (770, .iadd, 1), (771, .iaload, 1), (772, .invokevirtual 100, 3), (775, .pop, 1), (776, .aload_n 2, 1), (777, .aload_n 0, 1), (778, .iload_n 3, 1), (779, .iconst 1, 1), (780, .iadd, 1), (781, .iaload, 1), (782, .invokevirtual 103, 3), (785, .pop, 1), (786, .goto 524, 3), (789, .aload_n 1, 1), (790, .aload_n 0, 1), (791, .iload_n 3, 1), (792, .iconst 1, 1), (793, .iadd, 1), (794, .iaload, 1), (795, .aload_n 0, 1), (796, .iload_n 3, 1), (797, .iconst 2, 1), (798, .iadd, 1), (799, .iaload, 1)]
def mm_tL_25 : List (Nat × Instr × Nat) := [(800, .invokevirtual 104, 3), (803, .pop, 1), (804, .aload_n 2, 1), (805, .aload_n 0, 1), (806, .iload_n 3, 1), (807, .iconst 1, 1), (808, .iadd, 1), (809, .iaload, 1), (810, .aload_n 0, 1), (811, .iload_n 3, 1), (812, .iconst 2, 1), (813, .iadd, 1), (814, .iaload, 1), (815, .invokevirtual 107, 3), (818, .pop, 1), (819, .goto 491, 3), (822, .aload_n 1, 1), (823, .aload_n 0, 1), (824, .iload_n 3, 1), (825, .iconst 1, 1), (826, .iadd, 1), (827, .iaload, 1), (828, .aload_n 0, 1), (829, .iload_n 3, 1), (830, .iconst 2, 1), (831, .iadd, 1)]
def mm_tL_26 : List (Nat × Instr × Nat) := [(832, .iaload, 1), (833, .invokevirtual 108, 3), (836, .pop, 1), (837, .aload_n 2, 1), (838, .aload_n 0, 1), (839, .iload_n 3, 1), (840, .iconst 1, 1), (841, .iadd, 1), (842, .iaload, 1), (843, .aload_n 0, 1), (844, .iload_n 3, 1), (845, .iconst 2, 1), (846, .iadd, 1), (847, .iaload, 1), (848, .invokevirtual 111, 3), (851, .pop, 1), (852, .goto 458, 3), (855, .aload_n 1, 1), (856, .aload_n 0, 1), (857, .iload_n 3, 1), (858, .iconst 1, 1), (859, .iadd, 1), (860, .iaload, 1), (861, .invokevirtual 112, 3)]
def mm_tL_27 : List (Nat × Instr × Nat) := [(864, .pop, 1), (865, .aload_n 2, 1), (866, .aload_n 0, 1), (867, .iload_n 3, 1), (868, .iconst 1, 1), (869, .iadd, 1), (870, .iaload, 1), (871, .invokevirtual 115, 3), (874, .pop, 1), (875, .goto 435, 3), (878, .aload_n 1, 1), (879, .aload_n 0, 1), (880, .iload_n 3, 1), (881, .iconst 1, 1), (882, .iadd, 1), (883, .iaload, 1), (884, .aload_n 0, 1), (885, .iload_n 3, 1), (886, .iconst 2, 1), (887, .iadd, 1), (888, .iaload, 1), (889, .invokevirtual 116, 3), (892, .pop, 1), (893, .aload_n 2, 1), (894, .aload_n 0, 1), (895, .iload_n 3, 1)]
def mm_tL_28 : List (Nat × Instr × Nat) := [(896, .iconst 1, 1), (897, .iadd, 1), (898, .iaload, 1), (899, .aload_n 0, 1), (900, .iload_n 3, 1), (901, .iconst 2, 1), (902, .iadd, 1), (903, .iaload, 1), (904, .invokevirtual 119, 3), (907, .pop, 1), (908, .goto 402, 3), (911, .aload_n 1, 1), (912, .aload_n 0, 1), (913, .iload_n 3, 1), (914, .iconst 1, 1), (915, .iadd, 1), (916, .iaload, 1), (917, .invokevirtual 120, 3), (920, .pop, 1), (921, .aload_n 2, 1), (922, .aload_n 0, 1), (923, .iload_n 3, 1), (924, .iconst 1, 1), (925, .iadd, 1), (926, .iaload, 1), (927, .invokevirtual 123, 3)]
def mm_tL_29 : List (Nat × Instr × Nat) := [(930, .pop, 1), (931, .goto 379, 3), (934, .aload_n 1, 1), (935, .aload_n 0, 1), (936, .iload_n 3, 1), (937, .iconst 1, 1), (938, .iadd, 1), (939, .iaload, 1), (940, .invokevirtual 124, 3), (943, .pop, 1), (944, .aload_n 2, 1), (945, .aload_n 0, 1), (946, .iload_n 3, 1), (947, .iconst 1, 1), (948, .iadd, 1), (949, .iaload, 1), (950, .invokevirtual 127, 3), (953, .pop, 1), (954, .goto 356, 3), (957, .aload_n 1, 1), (958, .aload_n 0, 1), (959, .iload_n 3, 1)]
def mm_tL_30 : List (Nat × Instr × Nat) := [(960, .iconst 1, 1), (961, .iadd, 1), (962, .iaload, 1), (963, .invokevirtual 128, 3), (966, .pop, 1), (967, .aload_n 2, 1), (968, .aload_n 0, 1), (969, .iload_n 3, 1), (970, .iconst 1, 1), (971, .iadd, 1), (972, .iaload, 1), (973, .invokevirtual 131, 3), (976, .pop, 1), (977, .goto 333, 3), (980, .aload_n 1, 1), (981, .aload_n 0, 1), (982, .iload_n 3, 1), (983, .iconst 1, 1), (984, .iadd, 1), (985, .iaload, 1), (986, .invokevirtual 132, 3), (989, .pop, 1), (990, .aload_n 2, 1), (991, .aload_n 0, 1)]
def mm_tL_31 : List (Nat × Instr × Nat) := [(992, .iload_n 3, 1), (993, .iconst 1, 1), (994, .iadd, 1), (995, .iaload, 1), (996, .invokevirtual 135, 3), (999, .pop, 1), (1000, .goto 310, 3), (1003, .aload_n 1, 1), (1004, .aload_n 0, 1), (1005, .iload_n 3, 1), (1006, .iconst 1, 1), (1007, .iadd, 1), (1008, .iaload, 1), (1009, .aload_n 0, 1), (1010, .iload_n 3, 1), (1011, .iconst 2, 1), (1012, .iadd, 1), (1013, .iaload, 1), (1014, .invokevirtual 136, 3), (1017, .pop, 1), (1018, .aload_n 2, 1), (1019, .aload_n 0, 1), (1020, .iload_n 3, 1), (1021, .iconst 1, 1), (1022, .iadd, 1), (1023, .iaload, 1)]
def mm_tL_32 : List (Nat × Instr × Nat) := [(1024, .aload_n 0, 1), (1025, .iload_n 3, 1), (1026, .iconst 2, 1), (1027, .iadd, 1), (1028, .iaload, 1), (1029, .invokevirtual 139, 3), (1032, .pop, 1), (1033, .goto 277, 3), (1036, .aload_n 1, 1), (1037, .aload_n 0, 1), (1038, .iload_n 3, 1), (1039, .iconst 1, 1), (1040, .iadd, 1), (1041, .iaload, 1), (1042, .aload_n 0, 1), (1043, .iload_n 3, 1), (1044, .iconst 2, 1), (1045, .iadd, 1), (1046, .iaload, 1), (1047, .aload_n 0, 1), (1048, .iload_n 3, 1), (1049, .iconst 3, 1), (1050, .iadd, 1), (1051, .iaload, 1), (1052, .aload_n 0, 1), (1053, .iload_n 3, 1), (1054, .iconst 4, 1), (1055, .iadd, 1)]
def mm_tL_33 : List (Nat × Instr × Nat) := [(1056, .iaload, 1), (1057, .invokevirtual 140, 3), (1060, .pop, 1), (1061, .aload_n 2, 1), (1062, .aload_n 0, 1), (1063, .iload_n 3, 1), (1064, .iconst 1, 1), (1065, .iadd, 1), (1066, .iaload, 1), (1067, .aload_n 0, 1), (1068, .iload_n 3, 1), (1069, .iconst 2, 1), (1070, .iadd, 1), (1071, .iaload, 1), (1072, .aload_n 0, 1), (1073, .iload_n 3, 1), (1074, .iconst 3, 1), (1075, .iadd, 1), (1076, .iaload, 1), (1077, .aload_n 0, 1), (1078, .iload_n 3, 1), (1079, .iconst 4, 1), (1080, .iadd, 1), (1081, .iaload, 1), (1082, .invokevirtual 144, 3), (1085, .pop, 1), (1086, .goto 224, 3)]
def mm_tL_34 : List (Nat × Instr × Nat) := [(1089, .aload_n 1, 1), (1090, .aload_n 0, 1), (1091, .iload_n 3, 1), (1092, .iconst 1, 1), (1093, .iadd, 1), (1094, .iaload, 1), (1095, .invokevirtual 145, 3), (1098, .pop, 1), (1099, .aload_n 2, 1), (1100, .aload_n 0, 1), (1101, .iload_n 3, 1), (1102, .iconst 1, 1), (1103, .iadd, 1), (1104, .iaload, 1), (1105, .invokevirtual 148, 3), (1108, .pop, 1), (1109, .goto 201, 3), (1112, .aload_n 1, 1), (1113, .aload_n 0, 1), (1114, .iload_n 3, 1), (1115, .iconst 1, 1), (1116, .iadd, 1), (1117, .iaload, 1), (1118, .invokevirtual 149, 3)]
def mm_tL_35 : List (Nat × Instr × Nat) := [(1121, .pop, 1), (1122, .aload_n 2, 1), (1123, .aload_n 0, 1), (1124, .iload_n 3, 1), (1125, .iconst 1, 1), (1126, .iadd, 1), (1127, .iaload, 1), (1128, .invokevirtual 152, 3), (1131, .pop, 1), (1132, .goto 178, 3), (1135, .aload_n 1, 1), (1136, .aload_n 0, 1), (1137, .iload_n 3, 1), (1138, .iconst 1, 1), (1139, .iadd, 1), (1140, .iaload, 1), (1141, .aload_n 0, 1), (1142, .iload_n 3, 1), (1143, .iconst 2, 1), (1144, .iadd, 1), (1145, .iaload, 1), (1146, .aload_n 0, 1), (1147, .iload_n 3, 1), (1148, .iconst 3, 1), (1149, .iadd, 1), (1150, .iaload, 1), (1151, .invokevirtual 153, 3)]
def mm_tL_36 : List (Nat × Instr × Nat) := [(1154, .pop, 1), (1155, .aload_n 2, 1), (1156, .aload_n 0, 1), (1157, .iload_n 3, 1), (1158, .iconst 1, 1), (1159, .iadd, 1), (1160, .iaload, 1), (1161, .aload_n 0, 1), (1162, .iload_n 3, 1), (1163, .iconst 2, 1), (1164, .iadd, 1), (1165, .iaload, 1), (1166, .aload_n 0, 1), (1167, .iload_n 3, 1), (1168, .iconst 3, 1), (1169, .iadd, 1), (1170, .iaload, 1), (1171, .invokevirtual 157, 3), (1174, .pop, 1), (1175, .goto 135, 3), (1178, .aload_n 1, 1), (1179, .aload_n 0, 1), (1180, .iload_n 3, 1), (1181, .iconst 1, 1), (1182, .iadd, 1), (1183, .iaload, 1)]
def mm_tL_37 : List (Nat × Instr × Nat) := [(1184, .aload_n 0, 1), (1185, .iload_n 3, 1), (1186, .iconst 2, 1), (1187, .iadd, 1), (1188, .iaload, 1), (1189, .aload_n 0, 1), (1190, .iload_n 3, 1), (1191, .iconst 3, 1), (1192, .iadd, 1), (1193, .iaload, 1), (1194, .invokevirtual 158, 3), (1197, .pop, 1), (1198, .aload_n 2, 1), (1199, .aload_n 0, 1), (1200, .iload_n 3, 1), (1201, .iconst 1, 1), (1202, .iadd, 1), (1203, .iaload, 1), (1204, .aload_n 0, 1), (1205, .iload_n 3, 1), (1206, .iconst 2, 1), (1207, .iadd, 1), (1208, .iaload, 1), (1209, .aload_n 0, 1), (1210, .iload_n 3, 1), (1211, .iconst 3, 1), (1212, .iadd, 1), (1213, .iaload, 1), (1214, .invokevirtual 161, 3)]
def mm_tL_38 : List (Nat × Instr × Nat) := [(1217, .pop, 1), (1218, .goto 92, 3), (1221, .aload_n 1, 1), (1222, .aload_n 0, 1), (1223, .iload_n 3, 1), (1224, .iconst 1, 1), (1225, .iadd, 1), (1226, .iaload, 1), (1227, .aload_n 0, 1), (1228, .iload_n 3, 1), (1229, .iconst 2, 1), (1230, .iadd, 1), (1231, .iaload, 1), (1232, .aload_n 0, 1), (1233, .iload_n 3, 1), (1234, .iconst 3, 1), (1235, .iadd, 1), (1236, .iaload, 1), (1237, .aload_n 0, 1), (1238, .iload_n 3, 1), (1239, .iconst 4, 1), (1240, .iadd, 1), (1241, .iaload, 1), (1242, .invokevirtual 162, 3), (1245, .pop, 1), (1246, .aload_n 2, 1), (1247, .aload_n 0, 1)]
def mm_tL_39 : List (Nat × Instr × Nat) := [(1248, .iload_n 3, 1), (1249, .iconst 1, 1), (1250, .iadd, 1), (1251, .iaload, 1), (1252, .aload_n 0, 1), (1253, .iload_n 3, 1), (1254, .iconst 2, 1), (1255, .iadd, 1), (1256, .iaload, 1), (1257, .aload_n 0, 1), (1258, .iload_n 3, 1), (1259, .iconst 3, 1), (1260, .iadd, 1), (1261, .iaload, 1), (1262, .aload_n 0, 1), (1263, .iload_n 3, 1), (1264, .iconst 4, 1), (1265, .iadd, 1), (1266, .iaload, 1), (1267, .invokevirtual 165, 3), (1270, .pop, 1), (1271, .goto 39, 3), (1274, .aload_n 1, 1), (1275, .invokevirtual 166, 3), (1278, .pop, 1), (1279, .aload_n 2, 1)]
def mm_tL_40 : List (Nat × Instr × Nat) := [(1280, .invokevirtual 169, 3), (1283, .pop, 1), (1284, .goto 26, 3), (1287, .aload_n 1, 1), (1288, .aload_n 0, 1), (1289, .iload_n 3, 1), (1290, .iconst 1, 1), (1291, .iadd, 1), (1292, .iaload, 1), (1293, .invokevirtual 170, 3), (1296, .pop, 1), (1297, .aload_n 2, 1), (1298, .aload_n 0, 1), (1299, .iload_n 3, 1), (1300, .iconst 1, 1), (1301, .iadd, 1), (1302, .iaload, 1), (1303, .invokevirtual 173, 3), (1306, .pop, 1), (1307, .goto 3, 3), (1310, .iinc 3 5, 3)]
def mm_tL_41 : List (Nat × Instr × Nat) := [(1313, .goto (-1295), 3), (1316, .iconst 1, 1), (1317, .ireturn, 1)]
def mm_t202 : mm_T := [mm_tL_0, mm_tL_1, mm_tL_2, mm_tL_3, mm_tL_4, mm_tL_5, mm_tL_6, mm_tL_7, mm_tL_8, mm_tL_9, mm_tL_10, mm_tL_11, mm_tL_12, mm_tL_13, mm_tL_14, mm_tL_15, mm_tL_16, mm_tL_17, mm_tL_18, mm_tL_19, mm_tL_20, mm_tL_21, mm_tL_22, mm_tL_23, mm_tL_24, mm_tL_25, mm_tL_26, mm_tL_27, mm_tL_28, mm_tL_29, mm_tL_30, mm_tL_31, mm_tL_32, mm_tL_33, mm_tL_34, mm_tL_35, mm_tL_36, mm_tL_37, mm_tL_38, mm_tL_39, mm_tL_40, mm_tL_41]
def mm_r202 : mm_R := ((yL_law, cL_law, 4, (some .boolean), 1, true, [], (9, 0)),
   RL, mm_t202, [(7, 7, 9, 0, 0, [(1, 19), (1, 20), (1, 1)]),
    (9, 3, 63, 9, 0, [(1, 21)]),
    (10, 7, 10, 0, 0, [(4, 226), (4, 227), (1, 11)]),
    (12, 3, 119, 10, 0, [(4, 228)]),
    (13, 11, 0, 0, 4294967295, [(6, 193)]),
    (15, 1, 64, 9, 0, [(2, 188)]),
    (19, 1, 121, 10, 0, [(5, 132)]),
    (20, 1, 65, 9, 0, [(2, 192)]),
    (24, 1, 122, 10, 0, [(5, 136)]),
    (25, 1, 66, 9, 0, [(2, 196)]),
    (29, 1, 135, 10, 0, [(5, 143)]),
    (30, 1, 68, 9, 0, [(3, 141)]),
    (33, 1, 136, 10, 0, [(5, 202)]),
    (34, 1, 69, 9, 0, [(3, 145)]),
    (37, 1, 137, 10, 0, [(5, 206)]),
    (38, 1, 70, 9, 0, [(3, 149)]),
    (42, 1, 141, 10, 0, [(5, 210)]),
    (43, 1, 71, 9, 0, [(3, 157)]),
    (46, 1, 142, 10, 0, [(5, 218)]),
    (47, 1, 72, 9, 0, [(3, 170)]),
    (50, 1, 143, 10, 0, [(5, 226)]),
    (51, 1, 73, 9, 0, [(3, 174)]),
    (55, 1, 144, 10, 0, [(5, 231)]),
    (56, 1, 74, 9, 0, [(3, 178)]),
    (59, 1, 145, 10, 0, [(5, 235)]),
    (60, 1, 75, 9, 0, [(3, 186)]),
    (63, 1, 149, 10, 0, [(5, 239)]),
    (64, 1, 76, 9, 0, [(3, 202)]),
    (67, 1, 156, 10, 0, [(6, 15)]),
    (68, 1, 77, 9, 0, [(4, 13)]),
    (71, 1, 157, 10, 0, [(6, 36)]),
    (72, 1, 78, 9, 0, [(4, 17)]),
    (75, 1, 158, 10, 0, [(6, 44)]),
    (76, 1, 79, 9, 0, [(4, 24)]),
    (79, 1, 159, 10, 0, [(6, 52)]),
    (80, 1, 80, 9, 0, [(4, 28)]),
    (83, 1, 163, 10, 0, [(6, 56)]),
    (84, 1, 81, 9, 0, [(4, 36)]),
    (87, 1, 164, 10, 0, [(6, 68)]),
    (88, 1, 82, 9, 0, [(4, 46)]),
    (91, 1, 165, 10, 0, [(6, 80)]),
    (92, 1, 83, 9, 0, [(4, 62)]),
    (95, 1, 166, 10, 0, [(6, 85)]),
    (96, 1, 84, 9, 0, [(4, 66)]),
    (99, 1, 167, 10, 0, [(6, 89)]),
    (100, 1, 85, 9, 0, [(4, 70)]),
    (103, 1, 170, 10, 0, [(6, 94)]),
    (104, 1, 86, 9, 0, [(4, 88)]),
    (107, 1, 172, 10, 0, [(6, 105)]),
    (108, 1, 87, 9, 0, [(4, 112)]),
    (111, 1, 174, 10, 0, [(6, 113)]),
    (112, 1, 88, 9, 0, [(4, 116)]),
    (115, 1, 175, 10, 0, [(6, 121)]),
    (116, 1, 89, 9, 0, [(4, 124)]),
    (119, 1, 177, 10, 0, [(6, 125)]),
    (120, 1, 90, 9, 0, [(4, 128)]),
    (123, 1, 178, 10, 0, [(6, 133)]),
    (124, 1, 91, 9, 0, [(4, 132)]),
    (127, 1, 179, 10, 0, [(6, 137)]),
    (128, 1, 92, 9, 0, [(4, 140)]),
    (131, 1, 180, 10, 0, [(6, 141)]),
    (132, 1, 93, 9, 0, [(4, 144)]),
    (135, 1, 181, 10, 0, [(6, 145)]),
    (136, 1, 94, 9, 0, [(4, 148)]),
    (139, 1, 182, 10, 0, [(6, 149)]),
    (140, 1, 95, 9, 0, [(4, 152)]),
    (144, 1, 183, 10, 0, [(6, 153)]),
    (145, 1, 96, 9, 0, [(4, 157)]),
    (148, 1, 185, 10, 0, [(6, 160)]),
    (149, 1, 97, 9, 0, [(4, 173)]),
    (152, 1, 186, 10, 0, [(6, 168)]),
    (153, 1, 98, 9, 0, [(4, 177)]),
    (157, 1, 187, 10, 0, [(6, 172)]),
    (158, 1, 99, 9, 0, [(4, 192)]),
    (161, 1, 188, 10, 0, [(6, 177)]),
    (162, 1, 100, 9, 0, [(4, 208)]),
    (165, 1, 189, 10, 0, [(6, 181)]),
    (166, 1, 101, 9, 0, [(4, 212)]),
    (169, 1, 190, 10, 0, [(6, 185)]),
    (170, 1, 102, 9, 0, [(4, 216)]),
    (173, 1, 191, 10, 0, [(6, 189)])])
def mm_rs : List mm_R := [mm_r0, mm_r1, mm_r2, mm_r3, mm_r4, mm_r5, mm_r6, mm_r7, mm_r8, mm_r9, mm_r10, mm_r11, mm_r12, mm_r13, mm_r14, mm_r15, mm_r16, mm_r17, mm_r18, mm_r19, mm_r20, mm_r21, mm_r22, mm_r23, mm_r24, mm_r25, mm_r26, mm_r27, mm_r28, mm_r29, mm_r30, mm_r31, mm_r32, mm_r33, mm_r34, mm_r35, mm_r36, mm_r37, mm_r38, mm_r39, mm_r40, mm_r41, mm_r42, mm_r43, mm_r44, mm_r45, mm_r46, mm_r47, mm_r48, mm_r49, mm_r50, mm_r51, mm_r52, mm_r53, mm_r54, mm_r55, mm_r56, mm_r57, mm_r58, mm_r59, mm_r60, mm_r61, mm_r62, mm_r63, mm_r64, mm_r65, mm_r66, mm_r67, mm_r68, mm_r69, mm_r70, mm_r71, mm_r72, mm_r73, mm_r74, mm_r75, mm_r76, mm_r77, mm_r78, mm_r79, mm_r80, mm_r81, mm_r82, mm_r83, mm_r84, mm_r85, mm_r86, mm_r87, mm_r88, mm_r89, mm_r90, mm_r91, mm_r92, mm_r93, mm_r94, mm_r95, mm_r96, mm_r97, mm_r98, mm_r99, mm_r100, mm_r101, mm_r102, mm_r103, mm_r104, mm_r105, mm_r106, mm_r107, mm_r108, mm_r109, mm_r110, mm_r111, mm_r112, mm_r113, mm_r114, mm_r115, mm_r116, mm_r117, mm_r118, mm_r119, mm_r120, mm_r121, mm_r122, mm_r123, mm_r124, mm_r125, mm_r126, mm_r127, mm_r128, mm_r129, mm_r130, mm_r131, mm_r132, mm_r133, mm_r134, mm_r135, mm_r136, mm_r137, mm_r138, mm_r139, mm_r140, mm_r141, mm_r142, mm_r143, mm_r144, mm_r145, mm_r146, mm_r147, mm_r148, mm_r149, mm_r150, mm_r151, mm_r152, mm_r153, mm_r154, mm_r155, mm_r156, mm_r157, mm_r158, mm_r159, mm_r160, mm_r161, mm_r162, mm_r163, mm_r164, mm_r165, mm_r166, mm_r167, mm_r168, mm_r169, mm_r170, mm_r171, mm_r172, mm_r173, mm_r174, mm_r175, mm_r176, mm_r177, mm_r178, mm_r179, mm_r180, mm_r181, mm_r182, mm_r183, mm_r184, mm_r185, mm_r186, mm_r187, mm_r188, mm_r189, mm_r190, mm_r191, mm_r192, mm_r193, mm_r194, mm_r195, mm_r196, mm_r197, mm_r198, mm_r199, mm_r200, mm_r201]
abbrev mm_rL : mm_R := mm_r202
end
section
/-! A MINI-MACHINE over the class's own bytecode: heap cells are numbered from 0 as they are made; '.retAddr 0' stands for the law's script, '.retAddr (1 + i)' for the i-th text constant, '.retAddr (100 + i)' for its bytes, a float for a static of which nothing is known -/
abbrev mm_A : Type := List Int32 ⊕ List Int64 ⊕ List (Option Nat)
abbrev mm_E : Type := (Nat × mm_A) ⊕ (Nat × List Value)
abbrev mm_H : Type := List mm_E
abbrev mm_L : Type := List (Option Value)
def mm_lk : List (Nat × Instr × Nat) → Nat → Option (Instr × Nat)
  | [], _ => none
  | q :: t, pc => bif Nat.beq q.1 pc then some q.2 else mm_lk t pc
def mm_at (r : mm_R) (pc : Nat) : Option (Instr × Nat) := match (r.2.2.1)[pc / 32]? with
  | some l => mm_lk l pc
  | none => none
def mm_rk : List mm_K → Nat → Option mm_K
  | [], _ => none
  | q :: t, i => bif Nat.beq q.1 i then some q else mm_rk t i
-- the kind of an instruction, and how long it is
def mm_kd : Instr → Nat
  | .iconst _ | .bipush _ | .sipush _ | .lconst _ => 0
  | .iadd | .isub | .imul | .iand | .ior | .ixor | .ishl | .ishr | .iushr | .idiv | .irem => 1
  | .i2l | .l2i | .i2b | .i2s | .i2c => 2
  | .ladd | .land | .lor | .lcmp | .lshl | .lshr | .lushr => 3
  | .dup | .pop | .dup2 => 4
  | .iload_n _ | .iload _ | .lload_n _ | .lload _ | .aload_n _ | .aload _ => 5
  | .istore_n _ | .istore _ | .astore_n _ | .astore _ | .iinc _ _ => 6
  | .goto _ | .ifCond _ _ | .if_icmp _ _ | .tableswitch _ _ _ _ | .lookupswitch _ _ => 7
  | .getfield _ | .putfield _ | .getstatic _ => 8
  | .iaload | .baload | .laload | .aaload | .iastore | .bastore | .lastore | .aastore | .arraylength => 9
  | .new _ | .newarray _ | .anewarray _ | .multianewarray _ _ => 10
  | .ldc _ | .ldc_w _ | .ldc2_w _ => 11
  | .ireturn | .return_ => 12
  | .invokevirtual _ | .invokestatic _ | .invokespecial _ => 13
  | _ => 14
def mm_s1 (i : Instr) (n : Nat) (st : List Value) : Option (List Value) := match i, n with
  | .iconst n, 1 => some (.int (Int32.ofInt n) :: st)
  | .bipush n, 2 => some (.int (Int8.ofInt n).toInt32 :: st)
  | .sipush n, 3 => some (.int (Int16.ofInt n).toInt32 :: st)
  | .lconst n, 1 => some (.long (Int64.ofNat (n : Nat)) :: st)
  | _, _ => none
def mm_s2 (i : Instr) (x y : Int32) : Option Int32 := match i with
  | .iadd => some (x + y)
  | .isub => some (x - y)
  | .imul => some (x * y)
  | .iand => some (x &&& y)
  | .ior => some (x ||| y)
  | .ixor => some (x ^^^ y)
  | .ishl => some (x <<< (y &&& 31))
  | .ishr => some (x >>> (y &&& 31))
  | .iushr => some ((x.toUInt32 >>> (y.toUInt32 &&& Int32.toUInt32 31)).toInt32)
  | .idiv => if y = 0 then none else some (x / y)
  | .irem => if y = 0 then none else some (x - x / y * y)
  | _ => none
def mm_s3 (i : Instr) (v : Value) : Option Value := match i, v with
  | .i2l, .int x => some (.long x.toInt64)
  | .i2b, .int x => some (.int x.toInt8.toInt32)
  | .i2s, .int x => some (.int x.toInt16.toInt32)
  | .i2c, .int x => some (.int (x.toUInt32 % 65536).toInt32)
  | .l2i, .long x => some (.int x.toInt32)
  | _, _ => none
def mm_s4 (i : Instr) (v w : Value) : Option Value := match i, v, w with
  | .ladd, .long x, .long y => some (.long (x + y))
  | .land, .long x, .long y => some (.long (x &&& y))
  | .lor, .long x, .long y => some (.long (x ||| y))
  | .lcmp, .long x, .long y => some (.int (lg_cmp x y))
  | .lshl, .long x, .int y => some (.long (x <<< (y.toInt64 &&& 63)))
  | .lshr, .long x, .int y => some (.long (x >>> (y.toInt64 &&& 63)))
  | .lushr, .long x, .int y => some (.long (x.toUInt64 >>> (y.toInt64.toUInt64 &&& Int64.toUInt64 63)).toInt64)
  | _, _, _ => none
def mm_c1 (v : Value) : Bool := match v with
  | .long _ | .double _ => false
  | _ => true
def mm_s5 (i : Instr) (st : List Value) : Option (List Value) := match i, st with
  | .dup, v :: t => bif mm_c1 v then some (v :: v :: t) else none
  | .pop, v :: t => bif mm_c1 v then some t else none
  | .dup2, v :: w :: t => bif mm_c1 v && mm_c1 w then some (v :: w :: v :: w :: t) else none
  | _, _ => none
def mm_ld (ls : mm_L) (k : Nat) : Option Value := match ls[k]? with
  | some (some v) => some v
  | _ => none
def mm_li (v : Option Value) : Option Value := match v with
  | some (.int x) => some (.int x)
  | _ => none
def mm_ll (v : Option Value) : Option Value := match v with
  | some (.long x) => some (.long x)
  | _ => none
def mm_lr (v : Option Value) : Option Value := match v with
  | some (.ref x) => some (.ref x)
  | some (.retAddr x) => some (.retAddr x)
  | _ => none
def mm_s6 (i : Instr) (n : Nat) (ls : mm_L) : Option Value := match i, n with
  | .iload_n k, 1 => mm_li (mm_ld ls k)
  | .iload k, 2 => mm_li (mm_ld ls k)
  | .lload_n k, 1 => mm_ll (mm_ld ls k)
  | .lload k, 2 => mm_ll (mm_ld ls k)
  | .aload_n k, 1 => mm_lr (mm_ld ls k)
  | .aload k, 2 => mm_lr (mm_ld ls k)
  | _, _ => none
def mm_lg (ls : mm_L) (k : Nat) : Bool := match k with
  | 0 => true
  | j + 1 => match ls[j]? with
    | some (some v) => mm_c1 v
    | _ => true
def mm_sv (ls : mm_L) (k : Nat) (v : Value) : Option mm_L := bif Nat.blt k ls.length && mm_lg ls k then some (ls.set k (some v)) else none
def mm_s7 (i : Instr) (n : Nat) (ls : mm_L) (st : List Value) : Option (mm_L × List Value) := match i, n, st with
  | .istore_n k, 1, .int x :: t => (mm_sv ls k (.int x)).map (·, t)
  | .istore k, 2, .int x :: t => (mm_sv ls k (.int x)).map (·, t)
  | .astore_n k, 1, .ref x :: t => (mm_sv ls k (.ref x)).map (·, t)
  | .astore k, 2, .ref x :: t => (mm_sv ls k (.ref x)).map (·, t)
  | .iinc k d, 3, t => match mm_ld ls k with
    | some (.int x) => (mm_sv ls k (.int (x + Int32.ofInt d))).map (·, t)
    | _ => none
  | _, _, _ => none
def mm_tg (pc : Nat) (off : Int) : Option Nat := match (pc : Int) + off with
  | .ofNat k => some k
  | _ => none
def mm_cc (c : ClassFile.Cond) (x y : Int32) : Bool := match c with
  | .eq => decide (x = y)
  | .ne => !decide (x = y)
  | .lt => decide (x < y)
  | .ge => decide (y ≤ x)
  | .gt => decide (y < x)
  | .le => decide (x ≤ y)
def mm_br (b : Bool) (pc : Nat) (off : Int) (n : Nat) : Option Nat := (mm_tg pc off).map (fun t => bif b then t else pc + n)
def mm_sw (pc : Nat) (d lo hi : Int) (offs : Array Int) (x : Int) : Option Nat := if x < lo ∨ hi < x then mm_tg pc d else match offs[(x - lo).toNat]? with
  | some off => mm_tg pc off
  | none => none
def mm_s8 (i : Instr) (n pc : Nat) (st : List Value) : Option (Nat × List Value) := match i, st with
  | .goto off, t => bif Nat.beq n 3 then (mm_tg pc off).map (·, t) else none
  | .ifCond c off, .int x :: t => bif Nat.beq n 3 then (mm_br (mm_cc c x 0) pc off 3).map (·, t) else none
  | .if_icmp c off, .int y :: .int x :: t => bif Nat.beq n 3 then (mm_br (mm_cc c x y) pc off 3).map (·, t) else none
  | .tableswitch d lo hi offs, .int x :: t => (mm_sw pc d lo hi offs x.toInt).map (·, t)
  | .lookupswitch d ps, .int x :: t => bif (ps.toList.zip (ps.toList.drop 1)).all (fun (a, next) => a.1 < next.1) then (mm_tg pc (Op.lookupswitch.offset ps.toList d x.toInt)).map (·, t) else none
  | _, _ => none
-- fields
def mm_tyl : List (Nat → FieldType) := [tyX0, tyX1, tyX2, tyX3, tyX4, tyX5, tyX6, tyX7, tyX8, tyX9, tyX10]
def mm_ft (ci k : Nat) : FieldType := match mm_tyl[ci]? with
  | some t => t k
  | none => .int
def mm_fit (ty : FieldType) (v : Value) : Bool := match ty, v with
  | .int, .int _ => true
  | .boolean, .int x => decide (x = 0) || decide (x = 1)
  | .object _, .ref _ => true
  | .array _, .ref _ => true
  | _, _ => false
def mm_tx (k : Nat) : Bool := Nat.ble 1 k && Nat.ble k 15
def mm_s9 (r : mm_R) (i : Instr) (st : List Value) (h : mm_H) : Option (List Value × mm_H) := match i, st with
  | .getfield idx, .ref a :: t => match mm_rk r.2.2.2 idx with
    | some (_, 0, ci, k, _) => match h[a]? with
      | some (.inr (cj, fs)) => bif Nat.beq ci cj then (match fs[k]? with
        | some v => some (v :: t, h)
        | none => none) else none
      | _ => none
    | _ => none
  | .getfield idx, .retAddr a :: t => bif mm_tx a then (match mm_rk r.2.2.2 idx with
    | some (_, 14, _) => some (.retAddr (99 + a) :: t, h)
    | some (_, 15, _) => some (.int 0 :: t, h)
    | _ => none) else none
  | .getstatic idx, t => match mm_rk r.2.2.2 idx with
    | some (_, 16, _) => some (.int 1 :: t, h)
    | some (_, 17, _) => some (.float 0 :: t, h)
    | _ => none
  | .putfield idx, v :: .ref a :: t => match mm_rk r.2.2.2 idx with
    | some (_, 0, ci, k, .ofNat fin, _) => bif Nat.ble 2 fin then none else match h[a]? with
      | some (.inr (cj, fs)) => bif Nat.beq ci cj && Nat.blt k fs.length && mm_fit (mm_ft ci k) v then some (t, h.set a (.inr (cj, fs.set k v))) else none
      | _ => none
    | _ => none
  | _, _ => none
-- arrays: their kinds: 0 int, 1 long, 2 byte, 3 boolean, 4 int[], 5 Image, 6 Sheet
def mm_in (j : Int32) (n : Nat) : Bool := !decide (j < 0) && Nat.blt j.toNatClampNeg n
def mm_rv (o : Option Nat) : Value := match o with
  | some a => .ref a
  | none => .null
def mm_ec (tag : Nat) : Nat := match tag with
  | 5 => 3
  | 6 => 7
  | _ => 1000
def mm_tc (ci : Nat) : Nat := match ci with
  | 3 => 5
  | 7 => 6
  | _ => 1000
def mm_str (k : Nat) : Option (List Int32) := match k with
  | k + 100 => mm_txt[k]?
  | _ => none
def mm_g1 (X : Option (List Int32)) (i : Instr) (st : List Value) (h : mm_H) : Option (List Value) := match i, st with
  | .iaload, .int j :: .ref a :: t => match h[a]? with
    | some (.inl (0, .inl l)) => bif mm_in j l.length then some (.int (l.getD j.toNatClampNeg 0) :: t) else none
    | _ => none
  | .iaload, .int j :: .retAddr 0 :: t => match X with
    | some l => bif mm_in j l.length then some (.int (l.getD j.toNatClampNeg 0) :: t) else none
    | none => none
  | .baload, .int j :: .ref a :: t => match h[a]? with
    | some (.inl (2, .inl l)) => bif mm_in j l.length then some (.int (l.getD j.toNatClampNeg 0) :: t) else none
    | some (.inl (3, .inl l)) => bif mm_in j l.length then some (.int (l.getD j.toNatClampNeg 0) :: t) else none
    | _ => none
  | .baload, .int j :: .retAddr a :: t => match mm_str a with
    | some l => bif mm_in j l.length then some (.int (l.getD j.toNatClampNeg 0) :: t) else none
    | none => none
  | .laload, .int j :: .ref a :: t => match h[a]? with
    | some (.inl (1, .inr (.inl l))) => bif mm_in j l.length then some (.long (l.getD j.toNatClampNeg 0) :: t) else none
    | _ => none
  | .aaload, .int j :: .ref a :: t => match h[a]? with
    | some (.inl (4, .inr (.inr l))) => bif mm_in j l.length then some (mm_rv (l.getD j.toNatClampNeg none) :: t) else none
    | some (.inl (5, .inr (.inr l))) => bif mm_in j l.length then some (mm_rv (l.getD j.toNatClampNeg none) :: t) else none
    | some (.inl (6, .inr (.inr l))) => bif mm_in j l.length then some (mm_rv (l.getD j.toNatClampNeg none) :: t) else none
    | _ => none
  | .arraylength, .ref a :: t => match h[a]? with
    | some (.inl (0, .inl l)) => some (.int (Int32.ofNat l.length) :: t)
    | some (.inl (1, .inr (.inl l))) => some (.int (Int32.ofNat l.length) :: t)
    | _ => none
  | .arraylength, .retAddr 0 :: t => match X with
    | some l => some (.int (Int32.ofNat l.length) :: t)
    | none => none
  | .arraylength, .retAddr (a + 1) :: t => match mm_str (a + 1) with
    | some l => some (.int (Int32.ofNat l.length) :: t)
    | none => none
  | _, _ => none
def mm_g2 (i : Instr) (st : List Value) (h : mm_H) : Option (List Value × mm_H) := match i, st with
  | .iastore, .int x :: .int j :: .ref a :: t => match h[a]? with
    | some (.inl (0, .inl l)) => bif mm_in j l.length then some (t, h.set a (.inl (0, .inl (l.set j.toNatClampNeg x)))) else none
    | _ => none
  | .bastore, .int x :: .int j :: .ref a :: t => match h[a]? with
    | some (.inl (2, .inl l)) => bif mm_in j l.length then some (t, h.set a (.inl (2, .inl (l.set j.toNatClampNeg x.toInt8.toInt32)))) else none
    | some (.inl (3, .inl l)) => bif mm_in j l.length then some (t, h.set a (.inl (3, .inl (l.set j.toNatClampNeg (x &&& 1))))) else none
    | _ => none
  | .lastore, .long x :: .int j :: .ref a :: t => match h[a]? with
    | some (.inl (1, .inr (.inl l))) => bif mm_in j l.length then some (t, h.set a (.inl (1, .inr (.inl (l.set j.toNatClampNeg x))))) else none
    | _ => none
  | .aastore, .ref v :: .int j :: .ref a :: t => match h[a]?, h[v]? with
    | some (.inl (tag, .inr (.inr l))), some (.inr (cj, _)) => bif mm_in j l.length && Nat.beq cj (mm_ec tag) then some (t, h.set a (.inl (tag, .inr (.inr (l.set j.toNatClampNeg (some v)))))) else none
    | _, _ => none
  | _, _ => none
-- what is made
def mm_dv (t : FieldType) : Value := match t with
  | .int | .boolean => .int 0
  | _ => .null
def mm_dfs (ci : Nat) : List Value := match vwCl[ci]? with
  | some q => (List.range q.2.2).map (fun k => mm_dv (mm_ft ci k))
  | none => []
def mm_na (t : ArrayType) (n : Nat) : Option mm_E := match t with
  | .int => some (.inl (0, .inl (List.replicate n 0)))
  | .long => some (.inl (1, .inr (.inl (List.replicate n 0))))
  | .byte => some (.inl (2, .inl (List.replicate n 0)))
  | .boolean => some (.inl (3, .inl (List.replicate n 0)))
  | _ => none
def mm_nn (n : Int32) : Bool := !decide (n < 0) && Nat.ble n.toNatClampNeg 1000
def mm_g3 (r : mm_R) (i : Instr) (n : Nat) (st : List Value) (h : mm_H) : Option (List Value × mm_H) := match i, n, st with
  | .new idx, 3, t => match mm_rk r.2.2.2 idx with
    | some (_, 7, ci, _) => some (.ref h.length :: t, h ++ [.inr (ci, mm_dfs ci)])
    | _ => none
  | .newarray ty, 2, .int n :: t => bif mm_nn n then (mm_na ty n.toNatClampNeg).map (fun e => (.ref h.length :: t, h ++ [e])) else none
  | .anewarray idx, 3, .int n :: t => match mm_rk r.2.2.2 idx with
    | some (_, 7, ci, _) => bif mm_nn n && Nat.beq (mm_ec (mm_tc ci)) ci then some (.ref h.length :: t, h ++ [.inl (mm_tc ci, .inr (.inr (List.replicate n.toNatClampNeg none)))]) else none
    | _ => none
  | .multianewarray idx 2, 4, .int k :: .int n :: t => match mm_rk r.2.2.2 idx with
    | some (_, 9, _) => bif mm_nn n && mm_nn k then some (.ref h.length :: t, (h ++ [.inl (4, .inr (.inr ((List.range n.toNatClampNeg).map (fun i => some (h.length + 1 + i)))))]) ++ List.replicate n.toNatClampNeg (.inl (0, .inl (List.replicate k.toNatClampNeg 0)))) else none
    | _ => none
  | _, _, _ => none
def mm_g4 (r : mm_R) (i : Instr) (n : Nat) : Option Value := match i, n with
  | .ldc idx, 2 => match mm_rk r.2.2.2 idx with
    | some (_, 10, _, _, v, _) => some (.int (Int32.ofInt v))
    | some (_, 13, i, _) => some (.retAddr (1 + i))
    | _ => none
  | .ldc_w idx, 3 => match mm_rk r.2.2.2 idx with
    | some (_, 10, _, _, v, _) => some (.int (Int32.ofInt v))
    | _ => none
  | .ldc2_w idx, 3 => match mm_rk r.2.2.2 idx with
    | some (_, 11, _, _, v, _) => some (.long (Int64.ofInt v))
    | _ => none
  | _, _ => none
-- the answer
def mm_rt (ty : Option FieldType) (i : Instr) (st : List Value) : Option (Option Value) := match ty, i, st with
  | some .int, .ireturn, [.int x] => some (some (.int x))
  | some .boolean, .ireturn, [.int x] => bif decide (x = 0) || decide (x = 1) then some (some (.int x)) else none
  | some .byte, .ireturn, [.int x] => bif decide (x.toInt8.toInt32 = x) then some (some (.int x)) else none
  | some .char, .ireturn, [.int x] => bif decide (x.toUInt32.toUInt16.toUInt32.toInt32 = x) then some (some (.int x)) else none
  | none, .return_, [] => some none
  | _, _, _ => none
-- calls
def mm_wt : List Value → Nat
  | [] => 0
  | v :: t => v.category + mm_wt t
def mm_tk : Nat → List Value → List Value → Option (List Value × List Value)
  | 0, acc, st => some (acc, st)
  | n + 1, acc, v :: st => mm_tk n (v :: acc) st
  | _ + 1, _, [] => none
def mm_sl : List Value → mm_L
  | [] => []
  | v :: t => bif mm_c1 v then some v :: mm_sl t else some v :: none :: mm_sl t
def mm_en (r : mm_R) (as : List Value) : mm_L := mm_sl as ++ List.replicate (r.1.2.2.1 - (mm_sl as).length) none
def mm_cp {α : Type} (f g : List α) (sp dp n : Nat) : List α := g.take dp ++ (f.drop sp).take n ++ g.drop (dp + n)
def mm_ac (st : List Value) (h : mm_H) : Option (List Value × mm_H) := match st with
  | .int n :: .int dp :: .ref b :: .int sp :: .ref a :: t => bif !decide (sp < 0) && !decide (dp < 0) && !decide (n < 0) && Nat.ble (mm_wt t) 8 then (match h[a]?, h[b]? with
    | some (.inl (0, .inl f)), some (.inl (0, .inl g)) => bif Nat.ble (sp.toNatClampNeg + n.toNatClampNeg) f.length && Nat.ble (dp.toNatClampNeg + n.toNatClampNeg) g.length then some (t, h.set b (.inl (0, .inl (mm_cp f g sp.toNatClampNeg dp.toNatClampNeg n.toNatClampNeg)))) else none
    | some (.inl (1, .inr (.inl f))), some (.inl (1, .inr (.inl g))) => bif Nat.ble (sp.toNatClampNeg + n.toNatClampNeg) f.length && Nat.ble (dp.toNatClampNeg + n.toNatClampNeg) g.length then some (t, h.set b (.inl (1, .inr (.inl (mm_cp f g sp.toNatClampNeg dp.toNatClampNeg n.toNatClampNeg))))) else none
    | _, _ => none) else none
  | _ => none
/-- a step within a frame, an answer, or a call -/
abbrev mm_O : Type := Option (Nat × mm_L × List Value × mm_H) ⊕ (Option Value) ⊕ (Nat × mm_R × List Value × List Value)
def mm_mk (D : Nat) (r' : mm_R) (as rest : List Value) : mm_O := bif Nat.ble (mm_sl as).length r'.1.2.2.1 && Nat.ble (mm_wt rest) 8 then .inr (.inr (D, r', as, rest)) else .inl none
def mm_cl (D : Nat) (r : mm_R) (idx : Nat) (st : List Value) (want : Nat → Bool) (recv : Bool) (h : mm_H) : mm_O := match D, mm_rk r.2.2.2 idx with
  | D + 1, some (_, k, mj, b, _) => bif want k then (match mm_rs[mj]? with
    | none => .inl none
    | some r' => match mm_tk r'.1.2.2.2.2.1 [] st with
      | none => .inl none
      | some (as, rest) => bif recv then (match rest with
          | .ref a :: rest' => (match h[a]? with
            | some (.inr (cj, _)) => bif Nat.beq k 1 && !Nat.beq cj b then .inl none else mm_mk D r' (.ref a :: as) rest'
            | _ => .inl none)
          | .retAddr a :: rest' => bif mm_tx a && Nat.beq k 1 && Nat.beq b 1000 then mm_mk D r' (.retAddr a :: as) rest' else .inl none
          | _ => .inl none) else mm_mk D r' as rest) else .inl none
  | _, _ => .inl none
def mm_iv (D : Nat) (r : mm_R) (i : Instr) (pc : Nat) (ls : mm_L) (st : List Value) (h : mm_H) : mm_O := match i with
  | .invokevirtual idx => mm_cl D r idx st (fun k => Nat.beq k 1) true h
  | .invokespecial idx => match mm_rk r.2.2.2 idx, st, D with
    | some (_, 6, _), .ref _ :: t, _ + 1 => bif Nat.ble (mm_wt t) 8 then .inl (some (pc + 3, ls, t, h)) else .inl none
    | _, _, _ => mm_cl D r idx st (fun k => Nat.beq k 3 || Nat.beq k 4) true h
  | .invokestatic idx => match mm_rk r.2.2.2 idx, D with
    | some (_, 12, _), _ + 1 => .inl ((mm_ac st h).map (fun q => (pc + 3, ls, q.1, q.2)))
    | _, _ => mm_cl D r idx st (fun k => Nat.beq k 2 || Nat.beq k 5) false h
  | _ => .inl none
def mm_go (X : Option (List Int32)) (r : mm_R) (D : Nat) (i : Instr) (n pc : Nat) (ls : mm_L) (st : List Value) (h : mm_H) : mm_O := match mm_kd i with
  | 0 => .inl ((mm_s1 i n st).map (fun t => (pc + n, ls, t, h)))
  | 1 => match n, st with
    | 1, .int y :: .int x :: t => .inl ((mm_s2 i x y).map (fun v => (pc + 1, ls, .int v :: t, h)))
    | _, _ => .inl none
  | 2 => match n, st with
    | 1, v :: t => .inl ((mm_s3 i v).map (fun v => (pc + 1, ls, v :: t, h)))
    | _, _ => .inl none
  | 3 => match n, st with
    | 1, y :: x :: t => .inl ((mm_s4 i x y).map (fun v => (pc + 1, ls, v :: t, h)))
    | _, _ => .inl none
  | 4 => match n with
    | 1 => .inl ((mm_s5 i st).map (fun t => (pc + 1, ls, t, h)))
    | _ => .inl none
  | 5 => .inl ((mm_s6 i n ls).map (fun v => (pc + n, ls, v :: st, h)))
  | 6 => .inl ((mm_s7 i n ls st).map (fun q => (pc + n, q.1, q.2, h)))
  | 7 => .inl ((mm_s8 i n pc st).map (fun q => (q.1, ls, q.2, h)))
  | 8 => match n with
    | 3 => .inl ((mm_s9 r i st h).map (fun q => (pc + 3, ls, q.1, q.2)))
    | _ => .inl none
  | 9 => match n with
    | 1 => match mm_g1 X i st h with
      | some t => .inl (some (pc + 1, ls, t, h))
      | none => .inl ((mm_g2 i st h).map (fun q => (pc + 1, ls, q.1, q.2)))
    | _ => .inl none
  | 10 => .inl ((mm_g3 r i n st h).map (fun q => (pc + n, ls, q.1, q.2)))
  | 11 => .inl ((mm_g4 r i n).map (fun v => (pc + n, ls, v :: st, h)))
  | 12 => match n, mm_rt r.1.2.2.2.1 i st with
    | 1, some v => .inr (.inl v)
    | _, _ => .inl none
  | 13 => match n with
    | 3 => mm_iv D r i pc ls st h
    | _ => .inl none
  | _ => .inl none
def mm_x (X : Option (List Int32)) : Nat → Nat → mm_R → Nat → mm_L → List Value → mm_H → Option (Option Value × mm_H)
  | 0, _, _, _, _, _, _ => none
  | f + 1, D, r, pc, ls, st, h => match mm_at r pc with
    | none => none
    | some (i, n) => match mm_go X r D i n pc ls st h with
      | .inl none => none
      | .inl (some (pc', ls', st', h')) => mm_x X f D r pc' ls' st' h'
      | .inr (.inl v) => some (v, h)
      | .inr (.inr (D', r', as, rest)) => match mm_x X f D' r' 0 (mm_en r' as) [] h with
        | none => none
        | some (v, h') => mm_x X f D r (pc + 3) ls (v.toList ++ rest) h'
end
section
/-! the mini-machine's steps are the machine's: what changes no cell -/
/-- the things outside the heap: where they lie; the static of which nothing is known -/
abbrev mm_X : Type := (Nat → Nat) × Option Nat
def mm_mv (B : Nat) (b0 : mm_X) : Value → Value
  | .ref a => .ref (B + a)
  | .retAddr k => .ref (b0.1 k)
  | .int x => .int x
  | .long x => .long x
  | .float _ => va_rf b0.2
  | .double x => .double x
  | .null => .null
theorem mm_mv_cat (B : Nat) (b0 : mm_X) (v : Value) : (mm_mv B b0 v).category = v.category := by
  cases v <;> first | rfl | (show (va_rf b0.2).category = 1; cases b0.2 <;> rfl)
theorem mm_c1_cat {v : Value} (h : mm_c1 v = true) : v.category = 1 := by cases v <;> first | rfl | cases h
theorem mm_c1_cat' {v : Value} (h : mm_c1 v = false) : v.category = 2 := by cases v <;> first | rfl | cases h
def mm_LR (B : Nat) (b0 : mm_X) (real : Array Slot) (ls : mm_L) : Prop := real.size = ls.length ∧ lv_wf real ∧ ∀ (i : Nat) (v : Value), ls[i]? = some (some v) → real[i]? = some (.val (mm_mv B b0 v))
def mm_lvl (B : Nat) (b0 : mm_X) (ls : mm_L) : List (Nat × Value) := (List.range ls.length).filterMap (fun i => match ls[i]? with
  | some (some v) => some (i, mm_mv B b0 v)
  | _ => none)
theorem mm_lvl_mem {B : Nat} {b0 : mm_X} {ls : mm_L} {q : Nat × Value} (h : q ∈ mm_lvl B b0 ls) : ∃ v, ls[q.1]? = some (some v) ∧ q.2 = mm_mv B b0 v := by
  obtain ⟨i, -, hi⟩ := List.mem_filterMap.mp h
  split at hi
  next v hv => cases hi; exact ⟨v, hv, rfl⟩
  next => cases hi
theorem mm_lvl_in {B : Nat} {b0 : mm_X} {ls : mm_L} {i : Nat} {v : Value} (h : ls[i]? = some (some v)) : (i, mm_mv B b0 v) ∈ mm_lvl B b0 ls := by
  refine List.mem_filterMap.mpr ⟨i, List.mem_range.mpr (List.getElem?_eq_some_iff.mp h).1, ?_⟩
  simp [h]
theorem mm_LR.has {B : Nat} {b0 : mm_X} {real : Array Slot} {ls : mm_L} (h : mm_LR B b0 real ls) : lv_has real ls.length (mm_lvl B b0 ls) := by
  refine ⟨h.1, h.2.1, fun q hq => ?_⟩
  obtain ⟨v, h1, h2⟩ := mm_lvl_mem hq
  rw [h2]
  exact h.2.2 _ _ h1
theorem mm_ld_s {ls : mm_L} {k : Nat} {v : Value} (hk : mm_ld ls k = some v) : ls[k]? = some (some v) := by
  unfold mm_ld at hk
  split at hk
  next w hw => cases hk; exact hw
  next => cases hk
theorem mm_LR.get {B : Nat} {b0 : mm_X} {real : Array Slot} {ls : mm_L} (h : mm_LR B b0 real ls) {k : Nat} {v : Value} (hk : mm_ld ls k = some v) : real[k]? = some (.val (mm_mv B b0 v)) := by
  unfold mm_ld at hk
  split at hk
  next w hw => cases hk; exact h.2.2 _ _ hw
  next => cases hk
theorem mm_sv_spec {ls ls' : mm_L} {k : Nat} {v : Value} (h : mm_sv ls k v = some ls') : k < ls.length ∧ mm_lg ls k = true ∧ ls' = ls.set k (some v) := by
  unfold mm_sv at h
  cases h1 : Nat.blt k ls.length <;> cases h2 : mm_lg ls k <;> simp [h1, h2] at h
  exact ⟨Nat.le_of_ble_eq_true h1, rfl, h.symm⟩
/-- behind a store of a value of one slot -/
theorem mm_LR.set {B : Nat} {b0 : mm_X} {real real' : Array Slot} {ls : mm_L} {k : Nat} {v : Value} (h : mm_LR B b0 real ls) (hk : k < ls.length) (hlg : mm_lg ls k = true)
    (hl : lv_has real' ls.length ((k, mm_mv B b0 v) :: (mm_lvl B b0 ls).filter (fun q => !(q.1 == k) && !(q.1 + 1 == k && q.2.category == 2)))) : mm_LR B b0 real' (ls.set k (some v)) := by
  refine ⟨by rw [hl.1, List.length_set], hl.2.1, fun i w hi => ?_⟩
  by_cases hik : i = k
  · subst hik
    rw [List.getElem?_set_self hk] at hi
    cases hi
    exact hl.2.2 (i, mm_mv B b0 v) List.mem_cons_self
  · rw [List.getElem?_set_ne (Ne.symm hik)] at hi
    refine hl.2.2 (i, mm_mv B b0 w) (List.mem_cons_of_mem _ (List.mem_filter.mpr ⟨mm_lvl_in hi, ?_⟩))
    have h1 : (i == k) = false := by simpa using hik
    by_cases hj : i + 1 = k
    · subst hj
      have : mm_c1 w = true := by simpa [mm_lg, hi] using hlg
      simp [mm_mv_cat, mm_c1_cat this]
    · simp [hik, hj]
section mmA
variable {p : Program} {l : Launch} {e : Env} {R : Room} {s : State} {m : MethodId} {args : Array Value} {below : List Frame} {meth : Method} {c : Code} {H : Heap} {locs : List Loc} {cells slots : Nat} {Q : State → Prop}
variable {cc : ByteArray} {pc n : Nat} {real : Array Slot} {B : Nat} {b0 : mm_X} {i : Instr} {ls ls' : mm_L} {st st' : List Value}
theorem mm_ok1 (hx : p.tables.exec = Jvm.exec) (hb : c.code = cc) (hd : decode cc pc = .ok (i, n)) (hs : mm_s1 i n st = some st')
    (k : W p l e R s m args below meth c H locs cells slots Q (F0 m (pc + n) real (st'.map (mm_mv B b0)))) : W p l e R s m args below meth c H locs cells slots Q (F0 m pc real (st.map (mm_mv B b0))) := by
  unfold mm_s1 at hs
  split at hs
  · cases hs; exact lv_iconst hx hb hd rfl k
  · cases hs; exact lv_bipush hx hb hd rfl k
  · cases hs; exact lv_sipush hx hb hd rfl k
  · cases hs; exact lv_lconst hx hb hd rfl k
  · cases hs
theorem mm_ok2 (hx : p.tables.exec = Jvm.exec) (hb : c.code = cc) {x y v : Int32} {t : List Value} (hd : decode cc pc = .ok (i, 1)) (hs : mm_s2 i x y = some v)
    (k : W p l e R s m args below meth c H locs cells slots Q (F0 m (pc + 1) real (.int v :: t))) : W p l e R s m args below meth c H locs cells slots Q (F0 m pc real (.int y :: .int x :: t)) := by
  unfold mm_s2 at hs
  split at hs
  · cases hs; exact lv_iadd hx hb hd k
  · cases hs; exact lv_isub hx hb hd k
  · cases hs; exact lv_imul hx hb hd k
  · cases hs; exact lv_iand hx hb hd k
  · cases hs; exact lv_ior hx hb hd k
  · cases hs; exact lv_ixor hx hb hd k
  · cases hs; exact lv_ishl hx hb hd k
  · cases hs; exact lv_ishr hx hb hd k
  · cases hs; exact lv_iushr hx hb hd rfl k
  · split at hs
    · cases hs
    · next h0 => cases hs; exact lv_idiv hx hb hd h0 k
  · split at hs
    · cases hs
    · next h0 => cases hs; exact lv_irem hx hb hd h0 k
  · cases hs
theorem mm_ok3 (hx : p.tables.exec = Jvm.exec) (hb : c.code = cc) {v w : Value} {t : List Value} (hd : decode cc pc = .ok (i, 1)) (hs : mm_s3 i v = some w)
    (k : W p l e R s m args below meth c H locs cells slots Q (F0 m (pc + 1) real (mm_mv B b0 w :: t))) : W p l e R s m args below meth c H locs cells slots Q (F0 m pc real (mm_mv B b0 v :: t)) := by
  unfold mm_s3 at hs
  split at hs
  · cases hs; exact lv_i2l hx hb hd rfl k
  · cases hs; exact lv_i2b hx hb hd rfl k
  · cases hs; exact lv_i2s hx hb hd rfl k
  · cases hs; exact lv_i2c hx hb hd rfl k
  · cases hs; exact lv_l2i hx hb hd rfl k
  · cases hs
theorem mm_ok4 (hx : p.tables.exec = Jvm.exec) (hb : c.code = cc) {x y w : Value} {t : List Value} (hd : decode cc pc = .ok (i, 1)) (hs : mm_s4 i x y = some w)
    (k : W p l e R s m args below meth c H locs cells slots Q (F0 m (pc + 1) real (mm_mv B b0 w :: t))) : W p l e R s m args below meth c H locs cells slots Q (F0 m pc real (mm_mv B b0 y :: mm_mv B b0 x :: t)) := by
  unfold mm_s4 at hs
  split at hs
  · cases hs; exact lv_ladd hx hb hd k
  · cases hs; exact lv_land hx hb hd k
  · cases hs; exact lv_lor hx hb hd k
  · cases hs; exact W.lcmp hx hb hd k
  · cases hs; exact lv_lshl hx hb hd rfl k
  · cases hs; exact lv_lshr hx hb hd rfl k
  · cases hs; exact lv_lushr hx hb hd rfl k
  · cases hs
theorem mm_ok5 (hx : p.tables.exec = Jvm.exec) (hb : c.code = cc) (hd : decode cc pc = .ok (i, 1)) (hs : mm_s5 i st = some st')
    (k : W p l e R s m args below meth c H locs cells slots Q (F0 m (pc + 1) real (st'.map (mm_mv B b0)))) : W p l e R s m args below meth c H locs cells slots Q (F0 m pc real (st.map (mm_mv B b0))) := by
  unfold mm_s5 at hs
  split at hs
  · next v t =>
    cases h1 : mm_c1 v <;> simp [h1] at hs
    subst hs
    exact lv_dup hx hb hd ((mm_mv_cat B b0 v).trans (mm_c1_cat h1)) k
  · next v t =>
    cases h1 : mm_c1 v <;> simp [h1] at hs
    subst hs
    exact lv_pop (va := mm_mv B b0 v) hx hb hd ((mm_mv_cat B b0 v).trans (mm_c1_cat h1)) k
  · next v w t =>
    cases h1 : mm_c1 v <;> cases h2 : mm_c1 w <;> simp [h1, h2] at hs
    subst hs
    exact lv_dup2_11 hx hb hd ((mm_mv_cat B b0 v).trans (mm_c1_cat h1)) ((mm_mv_cat B b0 w).trans (mm_c1_cat h2)) k
  · cases hs
theorem mm_li_s {o : Option Value} {v : Value} (h : mm_li o = some v) : ∃ x, o = some (.int x) ∧ v = .int x := by
  unfold mm_li at h
  split at h
  · cases h; exact ⟨_, rfl, rfl⟩
  · cases h
theorem mm_ll_s {o : Option Value} {v : Value} (h : mm_ll o = some v) : ∃ x, o = some (.long x) ∧ v = .long x := by
  unfold mm_ll at h
  split at h
  · cases h; exact ⟨_, rfl, rfl⟩
  · cases h
theorem mm_lr_s {o : Option Value} {v : Value} (h : mm_lr o = some v) : o = some v ∧ ∃ a, mm_mv B b0 v = .ref a := by
  unfold mm_lr at h
  split at h
  · cases h; exact ⟨rfl, _, rfl⟩
  · cases h; exact ⟨rfl, _, rfl⟩
  · cases h
theorem mm_ok6 (hx : p.tables.exec = Jvm.exec) (hb : c.code = cc) {v : Value} {t : List Value} (hd : decode cc pc = .ok (i, n)) (hl : mm_LR B b0 real ls) (hs : mm_s6 i n ls = some v)
    (k : W p l e R s m args below meth c H locs cells slots Q (F0 m (pc + n) real (mm_mv B b0 v :: t))) : W p l e R s m args below meth c H locs cells slots Q (F0 m pc real t) := by
  unfold mm_s6 at hs
  split at hs
  · obtain ⟨x, h1, rfl⟩ := mm_li_s hs; exact lv_iload_n hx hb hd rfl (hl.get h1) k
  · obtain ⟨x, h1, rfl⟩ := mm_li_s hs; exact lv_iload hx hb hd (hl.get h1) k
  · obtain ⟨x, h1, rfl⟩ := mm_ll_s hs; exact lv_lload_n hx hb hd rfl (hl.get h1) k
  · obtain ⟨x, h1, rfl⟩ := mm_ll_s hs; exact lv_lload hx hb hd (hl.get h1) k
  · obtain ⟨h1, a, h2⟩ := mm_lr_s (B := B) (b0 := b0) hs
    have h3 := hl.get h1
    rw [h2] at h3 k
    exact lv_aload_n hx hb hd rfl h3 k
  · obtain ⟨h1, a, h2⟩ := mm_lr_s (B := B) (b0 := b0) hs
    have h3 := hl.get h1
    rw [h2] at h3 k
    exact lv_aload hx hb hd h3 k
  · cases hs
theorem mm_map_s {α β : Type} {o : Option α} {f : α → β} {b : β} (h : o.map f = some b) : ∃ a, o = some a ∧ f a = b := by
  cases o with
  | none => cases h
  | some a => exact ⟨a, rfl, Option.some.inj h⟩
theorem mm_ok7 (hx : p.tables.exec = Jvm.exec) (hb : c.code = cc) (hd : decode cc pc = .ok (i, n)) (hl : mm_LR B b0 real ls) {q : mm_L × List Value} (hs : mm_s7 i n ls st = some q)
    (k : ∀ real', mm_LR B b0 real' q.1 → W p l e R s m args below meth c H locs cells slots Q (F0 m (pc + n) real' (q.2.map (mm_mv B b0)))) : W p l e R s m args below meth c H locs cells slots Q (F0 m pc real (st.map (mm_mv B b0))) := by
  unfold mm_s7 at hs
  split at hs
  · obtain ⟨ls', h1, rfl⟩ := mm_map_s hs
    obtain ⟨h2, h3, rfl⟩ := mm_sv_spec h1
    exact lv_istore_n hx hb hd rfl hl.has h2 rfl (fun real' h4 => k real' (hl.set h2 h3 h4))
  · obtain ⟨ls', h1, rfl⟩ := mm_map_s hs
    obtain ⟨h2, h3, rfl⟩ := mm_sv_spec h1
    exact lv_istore hx hb hd hl.has h2 rfl (fun real' h4 => k real' (hl.set h2 h3 h4))
  · obtain ⟨ls', h1, rfl⟩ := mm_map_s hs
    obtain ⟨h2, h3, rfl⟩ := mm_sv_spec h1
    exact lv_astore_n hx hb hd rfl hl.has h2 rfl (fun real' h4 => k real' (hl.set h2 h3 h4))
  · obtain ⟨ls', h1, rfl⟩ := mm_map_s hs
    obtain ⟨h2, h3, rfl⟩ := mm_sv_spec h1
    exact lv_astore hx hb hd hl.has h2 rfl (fun real' h4 => k real' (hl.set h2 h3 h4))
  · split at hs
    · next x hx0 =>
      obtain ⟨ls', h1, rfl⟩ := mm_map_s hs
      obtain ⟨h2, h3, rfl⟩ := mm_sv_spec h1
      have h5 := mm_ld_s hx0
      obtain ⟨kk, hkk⟩ := List.getElem?_of_mem (mm_lvl_in (B := B) (b0 := b0) h5)
      exact lv_iinc hx hb hd hl.has hkk rfl h2 rfl (fun real' h4 => k real' (hl.set h2 h3 h4))
    · cases hs
  · cases hs
theorem mm_tg_s {pc t : Nat} {off : Int} (h : mm_tg pc off = some t) : (pc : Int) + off = (t : Int) := by
  unfold mm_tg at h
  split at h
  · next k hk => cases h; exact hk
  · cases h
theorem mm_br_s {b : Bool} {pc t n : Nat} {off : Int} (h : mm_br b pc off n = some t) : ∃ t0 : Nat, (pc : Int) + off = (t0 : Int) ∧ ((b = true ∧ t = t0) ∨ (b = false ∧ t = pc + n)) := by
  obtain ⟨t0, h1, h2⟩ := mm_map_s h
  refine ⟨t0, mm_tg_s h1, ?_⟩
  cases b
  · exact Or.inr ⟨rfl, h2.symm⟩
  · exact Or.inl ⟨rfl, h2.symm⟩
theorem mm_br1 (hx : p.tables.exec = Jvm.exec) (hb : c.code = cc) {cnd : ClassFile.Cond} {off : Int} {x : Int32} {t : Nat} {rest : List Value} (hd : decode cc pc = .ok (.ifCond cnd off, 3)) (hs : mm_br (mm_cc cnd x 0) pc off 3 = some t)
    (k : W p l e R s m args below meth c H locs cells slots Q (F0 m t real rest)) : W p l e R s m args below meth c H locs cells slots Q (F0 m pc real (.int x :: rest)) := by
  obtain ⟨t0, h4, ⟨h2, rfl⟩ | ⟨h2, rfl⟩⟩ := mm_br_s hs
  · cases cnd <;> simp only [mm_cc, decide_eq_true_eq, Bool.not_eq_true', decide_eq_false_iff_not] at h2
    · exact lv_if_eq hx hb hd h4 (fun _ => k) (fun h => absurd h2 h)
    · exact lv_if_ne hx hb hd h4 (fun _ => k) (fun h => by first | exact absurd h2 h | exact absurd h h2)
    · exact lv_if_lt hx hb hd h4 (fun _ => k) (fun h => absurd h2 h)
    · exact lv_if_ge hx hb hd h4 (fun _ => k) (fun h => absurd h2 h)
    · exact lv_if_gt hx hb hd h4 (fun _ => k) (fun h => absurd h2 h)
    · exact lv_if_le hx hb hd h4 (fun _ => k) (fun h => absurd h2 h)
  · cases cnd <;> simp only [mm_cc, decide_eq_false_iff_not, Bool.not_eq_false', decide_eq_true_eq] at h2
    · exact lv_if_eq hx hb hd h4 (fun h => absurd h h2) (fun _ => k)
    · exact lv_if_ne hx hb hd h4 (fun h => by first | exact absurd h2 h | exact absurd h h2) (fun _ => k)
    · exact lv_if_lt hx hb hd h4 (fun h => absurd h h2) (fun _ => k)
    · exact lv_if_ge hx hb hd h4 (fun h => absurd h h2) (fun _ => k)
    · exact lv_if_gt hx hb hd h4 (fun h => absurd h h2) (fun _ => k)
    · exact lv_if_le hx hb hd h4 (fun h => absurd h h2) (fun _ => k)
theorem mm_br2 (hx : p.tables.exec = Jvm.exec) (hb : c.code = cc) {cnd : ClassFile.Cond} {off : Int} {x y : Int32} {t : Nat} {rest : List Value} (hd : decode cc pc = .ok (.if_icmp cnd off, 3)) (hs : mm_br (mm_cc cnd x y) pc off 3 = some t)
    (k : W p l e R s m args below meth c H locs cells slots Q (F0 m t real rest)) : W p l e R s m args below meth c H locs cells slots Q (F0 m pc real (.int y :: .int x :: rest)) := by
  obtain ⟨t0, h4, ⟨h2, rfl⟩ | ⟨h2, rfl⟩⟩ := mm_br_s hs
  · cases cnd <;> simp only [mm_cc, decide_eq_true_eq, Bool.not_eq_true', decide_eq_false_iff_not] at h2
    · exact lv_icmp_eq hx hb hd h4 (fun _ => k) (fun h => absurd h2 h)
    · exact lv_icmp_ne hx hb hd h4 (fun _ => k) (fun h => by first | exact absurd h2 h | exact absurd h h2)
    · exact lv_icmp_lt hx hb hd h4 (fun _ => k) (fun h => absurd h2 h)
    · exact lv_icmp_ge hx hb hd h4 (fun _ => k) (fun h => absurd h2 h)
    · exact lv_icmp_gt hx hb hd h4 (fun _ => k) (fun h => absurd h2 h)
    · exact lv_icmp_le hx hb hd h4 (fun _ => k) (fun h => absurd h2 h)
  · cases cnd <;> simp only [mm_cc, decide_eq_false_iff_not, Bool.not_eq_false', decide_eq_true_eq] at h2
    · exact lv_icmp_eq hx hb hd h4 (fun h => absurd h h2) (fun _ => k)
    · exact lv_icmp_ne hx hb hd h4 (fun h => by first | exact absurd h2 h | exact absurd h h2) (fun _ => k)
    · exact lv_icmp_lt hx hb hd h4 (fun h => absurd h h2) (fun _ => k)
    · exact lv_icmp_ge hx hb hd h4 (fun h => absurd h h2) (fun _ => k)
    · exact lv_icmp_gt hx hb hd h4 (fun h => absurd h h2) (fun _ => k)
    · exact lv_icmp_le hx hb hd h4 (fun h => absurd h h2) (fun _ => k)
theorem mm_ok8 (hx : p.tables.exec = Jvm.exec) (hb : c.code = cc) (hd : decode cc pc = .ok (i, n)) {q : Nat × List Value} (hs : mm_s8 i n pc st = some q)
    (k : W p l e R s m args below meth c H locs cells slots Q (F0 m q.1 real (q.2.map (mm_mv B b0)))) : W p l e R s m args below meth c H locs cells slots Q (F0 m pc real (st.map (mm_mv B b0))) := by
  unfold mm_s8 at hs
  split at hs
  · cases h3 : Nat.beq n 3 <;> simp only [h3, cond_true, cond_false] at hs
    · cases hs
    · have := Nat.eq_of_beq_eq_true h3; subst this
      obtain ⟨t, h1, rfl⟩ := mm_map_s hs
      exact lv_goto hx hb hd (mm_tg_s h1) k
  · cases h3 : Nat.beq n 3 <;> simp only [h3, cond_true, cond_false] at hs
    · cases hs
    · have := Nat.eq_of_beq_eq_true h3; subst this
      obtain ⟨t, h1, rfl⟩ := mm_map_s hs
      exact mm_br1 hx hb hd h1 k
  · cases h3 : Nat.beq n 3 <;> simp only [h3, cond_true, cond_false] at hs
    · cases hs
    · have := Nat.eq_of_beq_eq_true h3; subst this
      obtain ⟨t, h1, rfl⟩ := mm_map_s hs
      exact mm_br2 hx hb hd h1 k
  · next d lo hi offs x t =>
    obtain ⟨tg, h1, rfl⟩ := mm_map_s hs
    unfold mm_sw at h1
    split at h1
    · next h2 => exact lv_tableOut hx hb hd h2 (mm_tg_s h1) k
    · next h2 =>
      split at h1
      · next off h3 => exact lv_tableIn hx hb hd (fun h => h2 (Or.inl h)) (fun h => h2 (Or.inr h)) h3 (mm_tg_s h1) k
      · cases h1
  · next d ps x t =>
    cases h3 : (ps.toList.zip (ps.toList.drop 1)).all (fun (a, next) => a.1 < next.1) <;> simp only [h3, cond_true, cond_false] at hs
    · cases hs
    · obtain ⟨tg, h1, rfl⟩ := mm_map_s hs
      exact lv_lookup hx hb hd h3 rfl (mm_tg_s h1) k
  · cases hs
end mmA
end
section
/-! cells: what the mini-machine's heap says of the machine's -/
def mm_W : List Cond := lw_tbl.filter goodWord
theorem mm_W_in {w : Cond} (h : w ∈ lw_tbl) (g : goodWord w = true) : w ∈ mm_W := List.mem_filter.mpr ⟨h, g⟩
theorem mm_W_has {ps : List (Nat × Nat)} {ws : List Cond} (h : mm_has ps ws = true) (g : ws.all goodWord = true) : ∀ w ∈ ws, w ∈ mm_W := fun w hw => mm_W_in (mm_has_in h w hw) (List.all_eq_true.mp g w hw)
theorem mm_W_good {w : Cond} (h : w ∈ mm_W) : (w.onTables && w.keeps) = true ∨ ∃ ty, w = .arrayClass ty := good_of_word (List.mem_filter.mp h).2
theorem mm_lay {ci : Nat} {q : vw_C} (h : vwCl[ci]? = some q) : ∀ w ∈ u_ws q.1 q.2.1 q.2.2, w ∈ mm_W := by
  match ci, h with
  | 0, h => cases h; exact fun w hw => mm_W_in (inX0 w hw) (List.all_eq_true.mp (show (u_ws RX0 TX0 8).all goodWord = true by decide +kernel) w hw)
  | 1, h => cases h; exact fun w hw => mm_W_in (inX1 w hw) (List.all_eq_true.mp (show (u_ws RX1 TX1 4).all goodWord = true by decide +kernel) w hw)
  | 2, h => cases h; exact fun w hw => mm_W_in (inX2 w hw) (List.all_eq_true.mp (show (u_ws RX2 TX2 12).all goodWord = true by decide +kernel) w hw)
  | 3, h => cases h; exact fun w hw => mm_W_in (inX3 w hw) (List.all_eq_true.mp (show (u_ws RX3 TX3 3).all goodWord = true by decide +kernel) w hw)
  | 4, h => cases h; exact fun w hw => mm_W_in (inX4 w hw) (List.all_eq_true.mp (show (u_ws RX4 TX4 16).all goodWord = true by decide +kernel) w hw)
  | 5, h => cases h; exact fun w hw => mm_W_in (inX5 w hw) (List.all_eq_true.mp (show (u_ws RX5 TX5 10).all goodWord = true by decide +kernel) w hw)
  | 6, h => cases h; exact fun w hw => mm_W_in (inX6 w hw) (List.all_eq_true.mp (show (u_ws RX6 TX6 7).all goodWord = true by decide +kernel) w hw)
  | 7, h => cases h; exact fun w hw => mm_W_in (inX7 w hw) (List.all_eq_true.mp (show (u_ws RX7 TX7 3).all goodWord = true by decide +kernel) w hw)
  | 8, h => cases h; exact fun w hw => mm_W_in (inX8 w hw) (List.all_eq_true.mp (show (u_ws RX8 TX8 2).all goodWord = true by decide +kernel) w hw)
  | 9, h => cases h; exact fun w hw => mm_W_in (inX9 w hw) (List.all_eq_true.mp (show (u_ws RX9 TX9 11).all goodWord = true by decide +kernel) w hw)
  | 10, h => cases h; exact fun w hw => mm_W_in (inX10 w hw) (List.all_eq_true.mp (show (u_ws RX10 TX10 46).all goodWord = true by decide +kernel) w hw)
  | k + 11, h => simp [vwCl] at h
theorem mm_tyok {ci : Nat} {q : vw_C} (h : vwCl[ci]? = some q) : ∀ k, k < q.2.2 → parseFieldDescriptor (q.2.1 k).2.2.1 = some (mm_ft ci k) := by
  match ci, h with
  | 0, h => cases h; exact tyX0_ok
  | 1, h => cases h; exact tyX1_ok
  | 2, h => cases h; exact tyX2_ok
  | 3, h => cases h; exact tyX3_ok
  | 4, h => cases h; exact tyX4_ok
  | 5, h => cases h; exact tyX5_ok
  | 6, h => cases h; exact tyX6_ok
  | 7, h => cases h; exact tyX7_ok
  | 8, h => cases h; exact tyX8_ok
  | 9, h => cases h; exact tyX9_ok
  | 10, h => cases h; exact tyX10_ok
  | k + 11, h => simp [vwCl] at h
theorem mm_nm {ci : Nat} {q : vw_C} (h : vwCl[ci]? = some q) : ∀ a, a < q.2.2 → ∀ b, b < q.2.2 → a ≠ b → (q.2.1 a).2.1 ≠ (q.2.1 b).2.1 := by
  match ci, h with
  | 0, h => cases h; exact nmX0
  | 1, h => cases h; exact nmX1
  | 2, h => cases h; exact nmX2
  | 3, h => cases h; exact nmX3
  | 4, h => cases h; exact nmX4
  | 5, h => cases h; exact nmX5
  | 6, h => cases h; exact nmX6
  | 7, h => cases h; exact nmX7
  | 8, h => cases h; exact nmX8
  | 9, h => cases h; exact nmX9
  | 10, h => cases h; exact nmX10
  | k + 11, h => simp [vwCl] at h
theorem mm_fit_s {ty : FieldType} {v : Value} (B : Nat) (b0 : mm_X) (h : mm_fit ty v = true) : narrow ty (mm_mv B b0 v) = mm_mv B b0 v ∧ fits ty (mm_mv B b0 v) = true := by
  unfold mm_fit at h
  split at h
  · exact ⟨rfl, rfl⟩
  · simp only [Bool.or_eq_true, decide_eq_true_eq] at h
    rcases h with rfl | rfl
    · exact ⟨(show narrow .boolean (.int 0) = .int 0 by decide +kernel), (show fits .boolean (.int 0) = true by decide +kernel)⟩
    · exact ⟨(show narrow .boolean (.int 1) = .int 1 by decide +kernel), (show fits .boolean (.int 1) = true by decide +kernel)⟩
  · exact ⟨rfl, rfl⟩
  · exact ⟨rfl, rfl⟩
  · cases h
def mm_ma (B : Nat) : mm_A → vp_A
  | .inl l => (l.length, .inl (fun j => l.getD j 0))
  | .inr (.inl l) => (l.length, .inr (.inl (fun j => l.getD j 0)))
  | .inr (.inr l) => (l.length, .inr (.inr (.inr (.inr (fun j => (l.getD j none).map (fun a => B + a))))))
def mm_me (dA : Nat → ClassId) (B : Nat) (b0 : mm_X) : mm_E → va_E
  | .inl (t, a) => .inl (dA t, mm_ma B a)
  | .inr (ci, fs) => .inr (ci, fs.map (mm_mv B b0))
def mm_Sim (D : va_G) (dA : Nat → ClassId) (B : Nat) (b0 : mm_X) (H0 H : Heap) (h : mm_H) : Prop :=
  H.size = B + h.length ∧ (∀ (k : Nat) (e : mm_E), h[k]? = some e → va_at D vwCl (B + k, mm_me dA B b0 e) H) ∧ ∀ q : Nat, q < B → H[q]? = H0[q]?
theorem mm_lt {α : Type} {l : List α} {k : Nat} {x : α} (h : l[k]? = some x) : k < l.length := (List.getElem?_eq_some_iff.mp h).1
theorem mm_Sim.set {D : va_G} {dA : Nat → ClassId} {B : Nat} {b0 : mm_X} {H0 H H1 : Heap} {h : mm_H} {a : Nat} {e e' : mm_E} (S : mm_Sim D dA B b0 H0 H h) (ha : h[a]? = some e) (he : va_at D vwCl (B + a, mm_me dA B b0 e') H1) (z : H1.size = H.size) (o : ∀ q : Nat, q ≠ B + a → H1[q]? = H[q]?) : mm_Sim D dA B b0 H0 H1 (h.set a e') := by
  refine ⟨by rw [z, S.1, List.length_set], fun k x hk => ?_, fun q hq => by rw [o q (by omega)]; exact S.2.2 q hq⟩
  by_cases hka : k = a
  · subst hka
    rw [List.getElem?_set_self (mm_lt ha)] at hk
    cases hk
    exact he
  · rw [List.getElem?_set_ne (Ne.symm hka)] at hk
    exact (S.2.1 k x hk).kept (o _ (by show B + k ≠ B + a; omega))
theorem mm_Sim.push {D : va_G} {dA : Nat → ClassId} {B : Nat} {b0 : mm_X} {H0 H H1 : Heap} {h : mm_H} {e' : mm_E} (S : mm_Sim D dA B b0 H0 H h) (he : va_at D vwCl (H.size, mm_me dA B b0 e') H1) (z : H1.size = H.size + 1) (o : ∀ q : Nat, q < H.size → H1[q]? = H[q]?) : mm_Sim D dA B b0 H0 H1 (h ++ [e']) := by
  refine ⟨by rw [z, S.1, List.length_append]; rfl, fun k x hk => ?_, fun q hq => by rw [o q (by rw [S.1]; omega)]; exact S.2.2 q hq⟩
  by_cases hl : k < h.length
  · rw [List.getElem?_append_left hl] at hk
    exact (S.2.1 k x hk).kept (o _ (by show B + k < H.size; rw [S.1]; omega))
  · rw [List.getElem?_append_right (by omega)] at hk
    have h0 : k = h.length := by have := mm_lt hk; simp at this; omega
    subst h0
    rw [Nat.sub_self] at hk
    cases hk
    rw [← S.1]
    exact he
-- how many places the cells have
def mm_al : mm_A → Nat
  | .inl l => l.length
  | .inr (.inl l) => l.length
  | .inr (.inr l) => l.length
def mm_cs : mm_E → Nat
  | .inl (_, a) => mm_al a
  | .inr (ci, _) => match vwCl[ci]? with
    | some q => q.2.2
    | none => 0
def mm_sz (h : mm_H) : Nat := (h.map mm_cs).sum
theorem mm_sz_set {h : mm_H} {a : Nat} {e e' : mm_E} (ha : h[a]? = some e) (hc : mm_cs e' = mm_cs e) : mm_sz (h.set a e') = mm_sz h := by
  unfold mm_sz
  rw [List.map_set]
  congr 1
  apply List.ext_getElem?
  intro k
  by_cases hk : k = a
  · subst hk
    rw [List.getElem?_set_self (by rw [List.length_map]; exact mm_lt ha), List.getElem?_map, ha, hc]
    rfl
  · rw [List.getElem?_set_ne (Ne.symm hk)]
theorem mm_sz_app (h h' : mm_H) : mm_sz (h ++ h') = mm_sz h + mm_sz h' := by simp [mm_sz]
/-- the machine between two steps: the heap, the places written, the cells and slots since the method's entry -/
def mm_CF (D : va_G) (dA : Nat → ClassId) (B : Nat) (b0 : mm_X) (H0 : Heap) (n0 s0 : Nat) (H : Heap) (locs : List Loc) (cells slots : Nat) (h : mm_H) : Prop :=
  mm_Sim D dA B b0 H0 H h ∧ (∀ q ∈ locs, B ≤ q.base) ∧ n0 + cells = h.length ∧ s0 + slots = mm_sz h
theorem mm_CF.set {D : va_G} {dA : Nat → ClassId} {B n0 s0 : Nat} {b0 : mm_X} {H0 H H1 : Heap} {locs : List Loc} {cells slots : Nat} {h : mm_H} {a k : Nat} {e e' : mm_E} (S : mm_CF D dA B b0 H0 n0 s0 H locs cells slots h) (ha : h[a]? = some e) (he : va_at D vwCl (B + a, mm_me dA B b0 e') H1) (z : H1.size = H.size) (o : ∀ q : Nat, q ≠ B + a → H1[q]? = H[q]?) (hc : mm_cs e' = mm_cs e) :
    mm_CF D dA B b0 H0 n0 s0 H1 (locs ++ [⟨B + a, k⟩]) cells slots (h.set a e') := by
  refine ⟨S.1.set ha he z o, fun q hq => ?_, by rw [List.length_set]; exact S.2.2.1, by rw [mm_sz_set ha hc]; exact S.2.2.2⟩
  rcases List.mem_append.mp hq with h1 | h1
  · exact S.2.1 q h1
  · rw [List.mem_singleton.mp h1]
    exact Nat.le_add_right B a
theorem mm_CF.push {D : va_G} {dA : Nat → ClassId} {B n0 s0 : Nat} {b0 : mm_X} {H0 H H1 : Heap} {locs : List Loc} {cells slots : Nat} {h : mm_H} {e' : mm_E} {n : Nat} (S : mm_CF D dA B b0 H0 n0 s0 H locs cells slots h) (he : va_at D vwCl (H.size, mm_me dA B b0 e') H1) (z : H1.size = H.size + 1) (o : ∀ q : Nat, q < H.size → H1[q]? = H[q]?) (hc : mm_cs e' = n) :
    mm_CF D dA B b0 H0 n0 s0 H1 locs (cells + 1) (slots + n) (h ++ [e']) := by
  refine ⟨S.1.push he z o, S.2.1, by rw [List.length_append, ← S.2.2.1]; simp; omega, ?_⟩
  rw [mm_sz_app, ← S.2.2.2]
  simp [mm_sz, hc]
  omega
theorem mm_gd {α : Type} (l : List α) (j q : Nat) (x d : α) (hj : j < l.length) : (l.set j x).getD q d = if q = j then x else l.getD q d := by
  by_cases h : q = j
  · subst h
    simp [List.getD_eq_getElem?_getD, hj]
  · simp [List.getD_eq_getElem?_getD, h, List.getElem?_set_ne (Ne.symm h)]
theorem mm_in_s {j : Int32} {n : Nat} (h : mm_in j n = true) : vp_in j n ∧ j.toNatClampNeg < n := by
  unfold mm_in at h
  simp only [Bool.and_eq_true, Bool.not_eq_true', decide_eq_false_iff_not] at h
  have h2 : j.toNatClampNeg < n := Nat.le_of_ble_eq_true h.2
  exact ⟨fun q => q.elim h.1 (fun q => absurd q (Nat.not_le.mpr h2)), h2⟩
theorem mm_P1 {D : va_G} {q : Nat × va_E} {H : Heap} (h : va_at D vwCl q H) : va_P D vwCl [q] H := by
  intro k x hk
  have h0 : k = 0 := by have := mm_lt hk; simp at this; omega
  subst h0
  cases hk
  exact h
-- what is known of the tables
def mm_tys (dA : Nat → ClassId) : List (ClassId × FieldType) := [(dA 0, .int), (dA 1, .long), (dA 2, .byte), (dA 3, .boolean), (dA 4, .array .int), (dA 5, .object RX3), (dA 6, .object RX7)]
def mm_AO (t : FieldType) (U : State) : Prop := (Cond.arrayOver t).before #[] U = true
theorem mm_AO.moved {t : FieldType} {u U : State} (hvm : u.vm.Alike U.vm) (h : mm_AO t u) : mm_AO t U := by
  unfold mm_AO at h ⊢
  rw [← Cond.arrayOver_setVmC hvm t] at h
  exact h
def mm_TX (B : Nat) (b0 : mm_X) (H0 : Heap) (U : State) : Prop := (∀ (i : Nat) (q : Nat × String) (l : List Int32), mm_tl[i]? = some q → mm_txt[i]? = some l → va_O "java/lang/String" (b0.1 (1 + i)) (fun x => B ≤ x) U H0 ∧ va_OF "java/lang/String" "coder" "B" (.int 0) (b0.1 (1 + i)) (fun x => B ≤ x) U H0 ∧ va_OF "java/lang/String" "value" "[B" (.ref (b0.1 (100 + i))) (b0.1 (1 + i)) (fun x => B ≤ x) U H0 ∧ va_T .byte (b0.1 (100 + i)) l.length (fun j => .int (l.getD j 0)) (fun x => B ≤ x) U H0 ∧ vk_R RX5 q.1 q.2 (b0.1 (1 + i)) U) ∧
  va_Z "java/lang/String" "COMPACT_STRINGS" "Z" (.int 1) (fun x => B ≤ x) U H0 ∧ va_Z "jdk/internal/util/Preconditions" "SIOOBE_FORMATTER" "Ljava/util/function/BiFunction;" (va_rf b0.2) (fun x => B ≤ x) U H0
theorem mm_TX.warm {B : Nat} {b0 : mm_X} {H0 : Heap} {s U : State} (h : mm_TX B b0 H0 s) (hW : s.WarmedH U.vm) : mm_TX B b0 H0 U :=
  ⟨fun i q l h1 h2 => ⟨va_O.moved hW.alike (h.1 i q l h1 h2).1, va_OF.moved hW.alike (h.1 i q l h1 h2).2.1, va_OF.moved hW.alike (h.1 i q l h1 h2).2.2.1, va_T.moved hW.alike (h.1 i q l h1 h2).2.2.2.1, vk_R.warm hW (h.1 i q l h1 h2).2.2.2.2⟩, va_Z.moved hW.alike h.2.1, va_Z.moved hW.alike h.2.2⟩
theorem mm_TX.same {B : Nat} {b0 : mm_X} {H0 : Heap} {s U : State} (h : mm_TX B b0 H0 s) (hv : s.vm = U.vm) : mm_TX B b0 H0 U := by
  have ha : s.vm.Alike U.vm := by rw [← hv]; exact Vm.Alike.refl _
  exact ⟨fun i q l h1 h2 => ⟨va_O.moved ha (h.1 i q l h1 h2).1, va_OF.moved ha (h.1 i q l h1 h2).2.1, va_OF.moved ha (h.1 i q l h1 h2).2.2.1, va_T.moved ha (h.1 i q l h1 h2).2.2.2.1, vk_R.same hv.symm (h.1 i q l h1 h2).2.2.2.2⟩, va_Z.moved ha h.2.1, va_Z.moved ha h.2.2⟩
def mm_GI (D : va_G) (dA : Nat → ClassId) (B : Nat) (b0 : mm_X) (H0 : Heap) (X : Option (List Int32)) (U : State) : Prop :=
  va_K D vwCl (mm_tys dA) U ∧ (∀ w ∈ mm_nest, va_Nw w U) ∧ (mm_AO (.object RX3) U ∧ mm_AO (.object RX7) U ∧ mm_AO (.array .int) U ∧ mm_TX B b0 H0 U) ∧ (∀ xs, X = some xs → va_X (b0.1 0) xs.length (fun j => xs.getD j 0) U H0 ∧ b0.1 0 < B) ∧ B = H0.size
theorem mm_nest_s {w : Cond} (h : w ∈ mm_nest) : ∃ a i y b, w = .methodLinkNest a i y b := by
  simp only [mm_nest, List.mem_cons, List.not_mem_nil, or_false] at h
  rcases h with rfl | rfl | rfl | rfl | rfl | rfl | rfl | rfl | rfl | rfl | rfl | rfl | rfl | rfl | rfl <;> exact ⟨_, _, _, _, rfl⟩
theorem mm_GI.warm {D : va_G} {dA : Nat → ClassId} {B : Nat} {b0 : mm_X} {H0 : Heap} {X : Option (List Int32)} {s U : State} (h : mm_GI D dA B b0 H0 X s) (hW : s.WarmedH U.vm) : mm_GI D dA B b0 H0 X U := by
  obtain ⟨h1, h2, ⟨h3, h4, h5, h8⟩, h6, h7⟩ := h
  refine ⟨h1.moved hW.alike, fun w hw => ?_, ⟨h3.moved hW.alike, h4.moved hW.alike, h5.moved hW.alike, h8.warm hW⟩, fun xs hx => ⟨(h6 xs hx).1.moved hW.alike, (h6 xs hx).2⟩, h7⟩
  obtain ⟨a, i, y, b, rfl⟩ := mm_nest_s hw
  exact va_Nw.warmM hW (h2 _ hw)
theorem mm_GI.same {D : va_G} {dA : Nat → ClassId} {B : Nat} {b0 : mm_X} {H0 : Heap} {X : Option (List Int32)} {s U : State} (h : mm_GI D dA B b0 H0 X s) (hv : s.vm = U.vm) : mm_GI D dA B b0 H0 X U := by
  have ha : s.vm.Alike U.vm := by rw [← hv]; exact Vm.Alike.refl _
  obtain ⟨h1, h2, ⟨h3, h4, h5, h8⟩, h6, h7⟩ := h
  refine ⟨h1.moved ha, fun w hw => ?_, ⟨h3.moved ha, h4.moved ha, h5.moved ha, h8.same hv⟩, fun xs hx => ⟨(h6 xs hx).1.moved ha, (h6 xs hx).2⟩, h7⟩
  obtain ⟨a, i, y, b, rfl⟩ := mm_nest_s hw
  exact va_Nw.same rfl hv (h2 _ hw)
end
section
/-! fields and arrays -/
def mm_e0 (r : mm_R) (i ci k : Nat) (fin : Int) (ps : List (Nat × Nat)) : Bool := match vwCl[ci]? with
    | some q => Nat.blt k q.2.2 && mm_has ps [.fieldLink r.2.1 i (q.2.1 k).1 (q.2.1 k).2.1 (q.2.1 k).2.2.1] && (match fin with
      | .ofNat 0 => !(q.2.1 k).2.2.2
      | .ofNat 1 => (q.2.1 k).2.2.2 && decide (r.1.1.name = "<init>") && decide ((q.2.1 k).1 = r.2.1)
      | _ => true)
    | none => false
def mm_cn (ci : Nat) : Option String := match ci with
  | 1000 => some "java/lang/String"
  | k => (vwCl[k]?).map (fun q => q.1)
def mm_e1 (r : mm_R) (i mj ci : Nat) (ps : List (Nat × Nat)) : Bool := match mm_rs[mj]?, mm_cn ci with
    | some y, some q => mm_has ps [.methodLink r.2.1 i y.1.1] && decide (q = y.1.1.cls) && !y.1.2.2.2.2.2.1 && !decide (y.1.1.name = "<init>")
    | _, _ => false
def mm_e2 (r : mm_R) (i mj : Nat) (ps : List (Nat × Nat)) : Bool := match mm_rs[mj]? with
    | some y => mm_has ps [.methodLink r.2.1 i y.1.1] && y.1.2.2.2.2.2.1
    | none => false
def mm_e3 (r : mm_R) (i mj : Nat) (ps : List (Nat × Nat)) : Bool := match mm_rs[mj]? with
    | some y => mm_has ps [.methodLink r.2.1 i y.1.1] && !y.1.2.2.2.2.2.1 && decide (y.1.1.name = "<init>") && y.1.2.2.2.1.isNone
    | none => false
def mm_e4 (r : mm_R) (i mj : Nat) (v : Int) : Bool := match mm_rs[mj]? with
    | some y => decide (mm_nest[v.toNat]? = some (.methodLinkNest r.2.1 i y.1.1 "RainOrgan")) && !y.1.2.2.2.2.2.1 && decide (y.1.1.name = "<init>") && y.1.2.2.2.1.isNone
    | none => false
def mm_e5 (r : mm_R) (i mj : Nat) (v : Int) : Bool := match mm_rs[mj]? with
    | some y => decide (mm_nest[v.toNat]? = some (.methodLinkNest r.2.1 i y.1.1 "RainOrgan")) && y.1.2.2.2.2.2.1
    | none => false
def mm_e7 (r : mm_R) (i ci : Nat) (ps : List (Nat × Nat)) : Bool := match vwCl[ci]? with
    | some q => mm_has ps [.classLink r.2.1 i q.1, .instantiable q.1 q.2.2, .initialized q.1]
    | none => false
def mm_ek (r : mm_R) (e : mm_K) : Bool := match e.2.1 with
  | 0 => mm_e0 r e.1 e.2.2.1 e.2.2.2.1 e.2.2.2.2.1 e.2.2.2.2.2
  | 1 => mm_e1 r e.1 e.2.2.1 e.2.2.2.1 e.2.2.2.2.2
  | 2 => mm_e2 r e.1 e.2.2.1 e.2.2.2.2.2
  | 3 => mm_e3 r e.1 e.2.2.1 e.2.2.2.2.2
  | 4 => mm_e4 r e.1 e.2.2.1 e.2.2.2.2.1
  | 5 => mm_e5 r e.1 e.2.2.1 e.2.2.2.2.1
  | 6 => mm_has e.2.2.2.2.2 [.methodLink r.2.1 e.1 objectInit, .instanceMethod objectInit, .code objectInit ⟨#[0xb1]⟩ 1 none]
  | 7 => mm_e7 r e.1 e.2.2.1 e.2.2.2.2.2
  | 9 => mm_has e.2.2.2.2.2 [.classLink r.2.1 e.1 "[[I", .arrayClass .int]
  | 10 => mm_has e.2.2.2.2.2 [.constant r.2.1 e.1 (Int32.ofInt e.2.2.2.2.1)]
  | 11 => mm_has e.2.2.2.2.2 [.constantLong r.2.1 e.1 (Int64.ofInt e.2.2.2.2.1)]
  | 13 => decide (r.2.1 = RX5) && decide ((mm_tl[e.2.2.1]?).map Prod.fst = some e.1)
  | 14 => mm_has e.2.2.2.2.2 [.fieldLink r.2.1 e.1 "java/lang/String" "value" "[B"]
  | 15 => mm_has e.2.2.2.2.2 [.fieldLink r.2.1 e.1 "java/lang/String" "coder" "B"]
  | 16 => mm_has e.2.2.2.2.2 [.fieldLink r.2.1 e.1 "java/lang/String" "COMPACT_STRINGS" "Z"]
  | 17 => mm_has e.2.2.2.2.2 [.fieldLink r.2.1 e.1 "jdk/internal/util/Preconditions" "SIOOBE_FORMATTER" "Ljava/util/function/BiFunction;"]
  | 12 => mm_has e.2.2.2.2.2 [.methodLink r.2.1 e.1 arraycopyName, .native arraycopyName, .static arraycopyName, .initialized "java/lang/System"]
  | _ => true
theorem mm_rk_s {l : List mm_K} {i : Nat} {e : mm_K} (h : mm_rk l i = some e) : e ∈ l ∧ e.1 = i := by
  induction l with
  | nil => cases h
  | cons q t ih =>
    unfold mm_rk at h
    cases hq : Nat.beq q.1 i <;> rw [hq] at h
    · obtain ⟨h1, h2⟩ := ih h
      exact ⟨List.mem_cons_of_mem _ h1, h2⟩
    · cases h
      exact ⟨List.mem_cons_self, Nat.eq_of_beq_eq_true hq⟩
def mm_EOK (r : mm_R) : Prop := ∀ e ∈ r.2.2.2, mm_ek r e = true
theorem mm_one {w : Cond} {ps : List (Nat × Nat)} (h : mm_has ps [w] = true) (g : goodWord w = true) : w ∈ mm_W := mm_W_has h (by simpa using g) w List.mem_cons_self
theorem mm_tx0 : ∀ i, i < 15 → (mm_tl[i]?).isSome = true ∧ (mm_txt[i]?).isSome = true := by decide +kernel
theorem mm_tx_s {a : Nat} (h : mm_tx a = true) : ∃ (i : Nat) (q : Nat × String) (l : List Int32), a = 1 + i ∧ mm_tl[i]? = some q ∧ mm_txt[i]? = some l := by
  unfold mm_tx at h
  simp only [Bool.and_eq_true] at h
  have h1 := Nat.le_of_ble_eq_true h.1
  have h2 := Nat.le_of_ble_eq_true h.2
  obtain ⟨g1, g2⟩ := mm_tx0 (a - 1) (by omega)
  obtain ⟨q, hq⟩ := Option.isSome_iff_exists.mp g1
  obtain ⟨l, hl⟩ := Option.isSome_iff_exists.mp g2
  exact ⟨a - 1, q, l, by omega, hq, hl⟩
section mmB
variable {p : Program} {l : Launch} {e : Env} {R : Room} {s : State} {m : MethodId} {args : Array Value} {below : List Frame} {meth : Method} {c : Code} {H : Heap} {locs : List Loc} {cells slots : Nat} {Q : State → Prop}
variable {cc : ByteArray} {pc n : Nat} {real : Array Slot} {D : va_G} {dA : Nat → ClassId} {B n0 s0 : Nat} {b0 : mm_X} {H0 : Heap} {X : Option (List Int32)} {i : Instr} {st st' : List Value} {h h' : mm_H} {r : mm_R}
theorem mm_ok9 (hx : p.tables.exec = Jvm.exec) (hb : c.code = cc) (hr : mm_EOK r) (hown : s.vm.findClass r.2.1 = some m.cls) (hnm : r.1.1.name = "<init>" → meth.name = "<init>") (hts : ∀ w ∈ mm_W, w.before args s = true) (hG : mm_GI D dA B b0 H0 X s) (hd : decode cc pc = .ok (i, 3)) (S : mm_CF D dA B b0 H0 n0 s0 H locs cells slots h)
    (hs : mm_s9 r i st h = some (st', h')) (k : ∀ H' locs', mm_CF D dA B b0 H0 n0 s0 H' locs' cells slots h' → W p l e R s m args below meth c H' locs' cells slots Q (F0 m (pc + 3) real (st'.map (mm_mv B b0)))) :
    W p l e R s m args below meth c H locs cells slots Q (F0 m pc real (st.map (mm_mv B b0))) := by
  unfold mm_s9 at hs
  split at hs
  · next idx a t =>
    split at hs
    · next i0 ci kf rest hrk =>
      obtain ⟨he1, he2⟩ := mm_rk_s hrk
      obtain ⟨fin, ps⟩ := rest
      have hek : mm_e0 r i0 ci kf fin ps = true := hr _ he1
      simp only at he2
      subst he2
      split at hs
      · next cj fs ha =>
        cases hcc : Nat.beq ci cj <;> rw [hcc] at hs
        · cases hs
        · have := Nat.eq_of_beq_eq_true hcc
          subst this
          simp only [cond_true] at hs
          split at hs
          · next v hv =>
            cases hs
            unfold mm_e0 at hek
            split at hek
            · next q hq =>
              simp only [Bool.and_eq_true] at hek
              obtain ⟨⟨hk, hw⟩, -⟩ := hek
              have hlk := hts _ (mm_one hw (by first | rfl | simp [goodWord, Cond.onTables, Cond.keeps, Cond.steady]))
              exact va_get hx hb hts (mm_lay hq) hown hG.1 (mm_P1 (S.1.2.1 _ _ ha)) 0 rfl hq kf (Nat.le_of_ble_eq_true hk) hlk (fun _ h => h) (by rw [List.getElem?_map, hv]; rfl) hd (k H locs S)
            · cases hek
          · cases hs
      · cases hs
    · cases hs
  · next idx a t =>
    cases htx : mm_tx a <;> rw [htx] at hs
    · cases hs
    · simp only [cond_true] at hs
      obtain ⟨i1, q, l, rfl, hq, hl⟩ := mm_tx_s htx
      obtain ⟨-, hco, hva, -, -⟩ := hG.2.2.1.2.2.2.1 i1 q l hq hl
      split at hs
      · next hrk =>
        obtain ⟨he1, he2⟩ := mm_rk_s hrk
        have hek := hr _ he1
        simp only at he2
        subst he2
        cases hs
        have hlk := hts _ (mm_one hek (by first | rfl | simp [goodWord, Cond.onTables, Cond.keeps, Cond.steady]))
        obtain ⟨cf, kk, fi, f, cell, g1, g2, g3, g4, g5, g6⟩ := hva
        have k' := k H locs S
        rw [List.map_cons, show mm_mv B b0 (.retAddr (99 + (1 + i1))) = .ref (b0.1 (100 + i1)) by show Value.ref (b0.1 (99 + (1 + i1))) = _; rw [show 99 + (1 + i1) = 100 + i1 by omega]] at k'
        exact W.getf hx hb hown hlk g1 g2 (by rw [S.1.2.2 _ (Nat.not_le.mp g6)]; exact g3) g4 g5 rfl rfl hd k'
      · next hrk =>
        obtain ⟨he1, he2⟩ := mm_rk_s hrk
        have hek := hr _ he1
        simp only at he2
        subst he2
        cases hs
        have hlk := hts _ (mm_one hek (by first | rfl | simp [goodWord, Cond.onTables, Cond.keeps, Cond.steady]))
        obtain ⟨cf, kk, fi, f, cell, g1, g2, g3, g4, g5, g6⟩ := hco
        exact W.getf hx hb hown hlk g1 g2 (by rw [S.1.2.2 _ (Nat.not_le.mp g6)]; exact g3) g4 g5 rfl rfl hd (k H locs S)
      · cases hs
  · split at hs
    · next hrk =>
      obtain ⟨he1, he2⟩ := mm_rk_s hrk
      have hek := hr _ he1
      simp only at he2
      subst he2
      cases hs
      have hlk := hts _ (mm_one hek (by first | rfl | simp [goodWord, Cond.onTables, Cond.keeps, Cond.steady]))
      obtain ⟨cf, kf, fi, f, a, cell, g1, g2, g3, g4, g5, g6, g7, g8⟩ := hG.2.2.1.2.2.2.2.1
      exact W.gets hx hb hown hlk g1 g2 g3 g4 (by rw [S.1.2.2 _ (Nat.not_le.mp g8)]; exact g5) (fun e => by rw [e] at g6; cases g6) g7 rfl hd (k H locs S)
    · next hrk =>
      obtain ⟨he1, he2⟩ := mm_rk_s hrk
      have hek := hr _ he1
      simp only at he2
      subst he2
      cases hs
      have hlk := hts _ (mm_one hek (by first | rfl | simp [goodWord, Cond.onTables, Cond.keeps, Cond.steady]))
      obtain ⟨cf, kf, fi, f, a, cell, g1, g2, g3, g4, g5, g6, g7, g8⟩ := hG.2.2.1.2.2.2.2.2
      exact W.gets hx hb hown hlk g1 g2 g3 g4 (by rw [S.1.2.2 _ (Nat.not_le.mp g8)]; exact g5) (fun e => by rw [e] at g6; cases g6) g7 rfl hd (k H locs S)
    · cases hs
  · next idx v a t =>
    split at hs
    · next i0 ci kf fin ps hrk =>
      obtain ⟨he1, he2⟩ := mm_rk_s hrk
      have hek : mm_e0 r i0 ci kf (.ofNat fin) ps = true := hr _ he1
      simp only at he2
      subst he2
      cases hf2 : Nat.ble 2 fin <;> rw [hf2] at hs
      · simp only [cond_false] at hs
        split at hs
        · next cj fs ha =>
          cases hcc : Nat.beq ci cj && Nat.blt kf fs.length && mm_fit (mm_ft ci kf) v <;> rw [hcc] at hs
          · cases hs
          · simp only [Bool.and_eq_true] at hcc
            obtain ⟨⟨hcc, hkl⟩, hfit⟩ := hcc
            have := Nat.eq_of_beq_eq_true hcc
            subst this
            cases hs
            have hl : kf < (fs.map (mm_mv B b0)).length := by rw [List.length_map]; exact Nat.le_of_ble_eq_true hkl
            obtain ⟨hn, hft⟩ := mm_fit_s B b0 hfit
            unfold mm_e0 at hek
            split at hek
            · next q hq =>
              simp only [Bool.and_eq_true] at hek
              obtain ⟨⟨hk, hw⟩, hfn⟩ := hek
              have hk : kf < q.2.2 := Nat.le_of_ble_eq_true hk
              have hlk := hts _ (mm_one hw (by first | rfl | simp [goodWord, Cond.onTables, Cond.keeps, Cond.steady]))
              have hin := mm_lay hq
              have hap := va_apart (own := r.2.1) hts hin (mm_ft ci) (mm_tyok hq) (mm_nm hq) hG.1 hq
              obtain ⟨r', h1, cell, q1, q2, q3, q4⟩ := S.1.2.1 _ _ ha
              have hr' : r' = q := Option.some.inj (h1.symm.trans hq)
              subst hr'
              obtain ⟨hS, hfc, kC, hkC, hkind⟩ := hG.1.1 ci _ hq
              obtain ⟨cf, kf', fi, f, hi, hsl⟩ := hS kf hk
              have hlays := u_lays hts hin hk
              have hst := (u_facts hfc hkC hlays hi).1
              have hfin : ∀ H' : Heap, H'[B + a]? = some (cell.setSlot f.slot (mm_mv B b0 v)) → H'.size = H.size → (∀ q, q ≠ B + a → H'[q]? = H[q]?) → W p l e R s m args below meth c H' (locs ++ [⟨B + a, f.slot⟩]) cells slots Q (F0 m (pc + 3) real (st'.map (mm_mv B b0))) := by
                intro H' e1 e2 e3
                rw [hsl] at e1
                refine k H' _ (S.set ha ?_ e2 e3 rfl)
                refine ⟨_, hq, ?_⟩
                show t_OB (B + a) (D.1 ci) _ (D.2 ci) H' (vp_V ((fs.set kf v).map (mm_mv B b0)))
                rw [List.map_set]
                exact t_OB.to (V := updV (vp_V (fs.map (mm_mv B b0))) kf (mm_mv B b0 v)) ⟨_, e1, q2, q3, t_set q4 hap hk _⟩ (fun j _ => vp_updV_set hl _ j)
              have hlay := hts _ (hin _ (u_in_lay hk))
              unfold u_lay at hlay
              split at hfn
              · have hf0 : (r'.2.1 kf).2.2.2 = false := by simpa using hfn
                rw [if_neg (by rw [hf0]; decide)] at hlay
                have h6 := u_store hfc hkC hkind hlay hi (mm_tyok hq kf hk) hn hft
                exact W.putK hx hb (f := f) ⟨hown, hlk, ⟨_, _, _, hi⟩, hst⟩ (by rw [q2]; exact h6) q1 q3 (by rw [hsl]; exact k2_hasslot (q4 kf hk)) rfl rfl hd hfin
              · simp only [Bool.and_eq_true, decide_eq_true_eq] at hfn
                obtain ⟨⟨hf0, hin2⟩, hdecl⟩ := hfn
                rw [if_pos hf0] at hlay
                have h6 := u_fits hfc hkC hkind hlays hi (mm_tyok hq kf hk) hn hft
                have hcf : m.cls = cf := by
                  obtain ⟨_, _, c', _, _, _, -, -, hf', -, -, -, hown2, -⟩ := Cond.laysFinal_spec hlay
                  have e1 : c' = cf := by have := hi.symm.trans hf'; simp at this; exact this.1.symm
                  rw [hdecl] at hown2
                  rw [← e1]; exact Option.some.inj (hown.symm.trans hown2)
                exact W.putFinK hx hb hown hlk hi hst hcf (hnm hin2) (by rw [q2]; exact h6) q1 q3 (by rw [hsl]; exact k2_hasslot (q4 kf hk)) rfl rfl hd hfin
              · next f0 f1 =>
                exfalso
                match fin, hf2, f0, f1 with
                | 0, _, f0, _ => exact f0 rfl
                | 1, _, _, f1 => exact f1 rfl
                | k + 2, hf2, _, _ => exact absurd (Nat.le_of_ble_eq_true (show Nat.ble 2 (k + 2) = true from by simp)) (fun h => by rw [show Nat.ble 2 (k + 2) = true by simp] at hf2; cases hf2)
            · cases hek
        · cases hs
      · cases hs
    · cases hs
  · cases hs
end mmB
end
section
/-! arrays: reads and writes, constants -/
theorem mm_setB {b : Bool} {α : Type} {x y : α} (h : (bif b then some x else none) = some y) : b = true ∧ x = y := by
  cases b
  · cases h
  · exact ⟨rfl, Option.some.inj h⟩
theorem mm_rv_mv (B : Nat) (b0 : mm_X) (o : Option Nat) : mm_mv B b0 (mm_rv o) = va_rf (o.map (fun a => B + a)) := by cases o <;> rfl
theorem mm_str_s {a : Nat} {l : List Int32} (h : mm_str a = some l) : ∃ (i : Nat) (q : Nat × String), a = i + 100 ∧ mm_tl[i]? = some q ∧ mm_txt[i]? = some l := by
  unfold mm_str at h
  split at h
  · next k =>
    have hk : k < 15 := by have := mm_lt h; simpa [mm_txt] using this
    obtain ⟨q, hq⟩ := Option.isSome_iff_exists.mp (mm_tx0 k hk).1
    exact ⟨k, q, rfl, hq, h⟩
  · cases h
section mmC
variable {p : Program} {l : Launch} {e : Env} {R : Room} {s : State} {m : MethodId} {args : Array Value} {below : List Frame} {meth : Method} {c : Code} {H : Heap} {locs : List Loc} {cells slots : Nat} {Q : State → Prop}
variable {cc : ByteArray} {pc n : Nat} {real : Array Slot} {D : va_G} {dA : Nat → ClassId} {B n0 s0 : Nat} {b0 : mm_X} {H0 : Heap} {X : Option (List Int32)} {i : Instr} {st st' : List Value} {h h' : mm_H} {r : mm_R}
theorem mm_nA {q : Nat} (hG : mm_GI D dA B b0 H0 X s) (h : q < B) : ¬ (fun x : Nat => B ≤ x) q := Nat.not_le.mpr h
theorem mm_Sof (hG : mm_GI D dA B b0 H0 X s) (S : mm_CF D dA B b0 H0 n0 s0 H locs cells slots h) : va_S (fun x : Nat => B ≤ x) H0 H locs :=
  ⟨by rw [S.1.1, ← hG.2.2.2.2]; omega, fun q h1 _ => S.1.2.2 q (by rw [hG.2.2.2.2]; exact h1), S.2.1⟩
theorem mm_ok10 (hx : p.tables.exec = Jvm.exec) (hb : c.code = cc) (hG : mm_GI D dA B b0 H0 X s) (hd : decode cc pc = .ok (i, 1)) (S : mm_CF D dA B b0 H0 n0 s0 H locs cells slots h)
    (hs : mm_g1 X i st h = some st') (k : W p l e R s m args below meth c H locs cells slots Q (F0 m (pc + 1) real (st'.map (mm_mv B b0)))) :
    W p l e R s m args below meth c H locs cells slots Q (F0 m pc real (st.map (mm_mv B b0))) := by
  unfold mm_g1 at hs
  split at hs
  · split at hs
    · next l0 ha =>
      obtain ⟨h1, rfl⟩ := mm_setB hs
      exact va_iald hx hb hG.1 (mm_P1 (S.1.2.1 _ _ ha)) 0 0 rfl rfl (mm_in_s h1).1 hd k
    · cases hs
  · split at hs
    · next xs =>
      obtain ⟨h1, rfl⟩ := mm_setB hs
      obtain ⟨hX, hlt⟩ := hG.2.2.2.1 _ rfl
      exact va_sld hx hb hX (by rw [← hG.2.2.2.2]; exact hlt) (mm_nA hG hlt) (mm_Sof hG S) (mm_in_s h1).1 hd k
    · cases hs
  · split at hs
    · next l0 ha =>
      obtain ⟨h1, rfl⟩ := mm_setB hs
      exact va_bald hx hb hG.1 (mm_P1 (S.1.2.1 _ _ ha)) 0 2 rfl rfl (mm_in_s h1).1 hd k
    · next l0 ha =>
      obtain ⟨h1, rfl⟩ := mm_setB hs
      exact va_zald hx hb hG.1 (mm_P1 (S.1.2.1 _ _ ha)) 0 3 rfl rfl (mm_in_s h1).1 hd k
    · cases hs
  · next j a t =>
    split at hs
    · next l0 hl0 =>
      obtain ⟨h1, rfl⟩ := mm_setB hs
      obtain ⟨i1, q, rfl, hq, hl⟩ := mm_str_s hl0
      obtain ⟨-, -, -, ⟨cell, g1, g2, g3, g4, g5, g6, g7⟩, -⟩ := hG.2.2.1.2.2.2.1 i1 q l0 hq hl
      obtain ⟨h2, h3⟩ := mm_in_s h1
      have k' := k
      exact W.bald hx hb (by rw [show i1 + 100 = 100 + i1 by omega, S.1.2.2 _ (Nat.not_le.mp g7)]; exact g1) g2 g3 (fun z => z.elim (fun z => h2 (Or.inl z)) (fun z => by omega)) (g6 _ h3) rfl rfl hd k'
    · cases hs
  · split at hs
    · next l0 ha =>
      obtain ⟨h1, rfl⟩ := mm_setB hs
      exact va_lald hx hb hG.1 (mm_P1 (S.1.2.1 _ _ ha)) 0 1 rfl rfl (mm_in_s h1).1 hd k
    · cases hs
  · split at hs
    · next l0 ha =>
      obtain ⟨h1, rfl⟩ := mm_setB hs
      obtain ⟨h2, h3⟩ := mm_in_s h1
      rw [List.map_cons, mm_rv_mv] at k
      exact W.aald (ty := .array .int) hx hb (S.1.2.1 _ _ ha) ((hG.1.2 4 _ rfl).1 l0.length (fun j => va_rf ((l0.getD j none).map (fun a => B + a)))) rfl (fun q => by cases q) (by show ¬ (_ ∨ (arrV _ _ _).slots.size ≤ _); rw [arrV_size]; exact h2) (arrV_read (dA 4) (fun j => va_rf ((l0.getD j none).map (fun a => B + a))) h3) rfl rfl hd k
    · next l0 ha =>
      obtain ⟨h1, rfl⟩ := mm_setB hs
      rw [List.map_cons, mm_rv_mv] at k
      exact va_aldq hx hb hG.1 (mm_P1 (S.1.2.1 _ _ ha)) 0 5 rfl rfl (mm_in_s h1).1 hd k
    · next l0 ha =>
      obtain ⟨h1, rfl⟩ := mm_setB hs
      rw [List.map_cons, mm_rv_mv] at k
      exact va_aldq hx hb hG.1 (mm_P1 (S.1.2.1 _ _ ha)) 0 6 rfl rfl (mm_in_s h1).1 hd k
    · cases hs
  · split at hs
    · next l0 ha =>
      cases hs
      exact va_alen hx hb hG.1 (mm_P1 (S.1.2.1 _ _ ha)) 0 0 rfl rfl rfl hd k
    · next l0 ha =>
      cases hs
      exact va_alen hx hb hG.1 (mm_P1 (S.1.2.1 _ _ ha)) 0 1 rfl rfl rfl hd k
    · cases hs
  · split at hs
    · next xs =>
      cases hs
      obtain ⟨hX, hlt⟩ := hG.2.2.2.1 _ rfl
      exact va_slen hx hb hX (by rw [← hG.2.2.2.2]; exact hlt) (mm_nA hG hlt) (mm_Sof hG S) hd k
    · cases hs
  · next a t =>
    split at hs
    · next l0 hl0 =>
      cases hs
      obtain ⟨i1, q, he, hq, hl⟩ := mm_str_s hl0
      obtain ⟨-, -, -, ⟨cell, g1, g2, g3, g4, g5, g6, g7⟩, -⟩ := hG.2.2.1.2.2.2.1 i1 q l0 hq hl
      exact W.alen hx hb (by show H[b0.1 (a + 1)]? = some cell; rw [he, show i1 + 100 = 100 + i1 by omega, S.1.2.2 _ (Nat.not_le.mp g7)]; exact g1) g2 g5 rfl rfl hd k
    · cases hs
  · cases hs
theorem mm_atI {tag a j : Nat} {H1 : Heap} {l0 : List Int32} {x : Int32} (hj : j < l0.length) (e1 : H1[B + a]? = some ((vp_cell (dA tag) (l0.length, .inl (fun q => l0.getD q 0))).setSlot j (.int x))) :
    va_at D vwCl (B + a, mm_me dA B b0 (.inl (tag, .inl (l0.set j x)))) H1 := by
  show H1[B + a]? = some (vp_cell _ _)
  rw [e1, vp_cell_i, arrV_store]
  show _ = some (vp_cell (dA tag) ((l0.set j x).length, .inl (fun q => (l0.set j x).getD q 0)))
  rw [vp_cell_i, List.length_set]
  congr 2
  funext q
  rw [mm_gd l0 j q x 0 hj]
  by_cases hq : q = j
  · subst hq; simp [updV]
  · simp [updV, hq]
theorem mm_atL {tag a j : Nat} {H1 : Heap} {l0 : List Int64} {x : Int64} (hj : j < l0.length) (e1 : H1[B + a]? = some ((vp_cell (dA tag) (l0.length, .inr (.inl (fun q => l0.getD q 0)))).setSlot j (.long x))) :
    va_at D vwCl (B + a, mm_me dA B b0 (.inl (tag, .inr (.inl (l0.set j x))))) H1 := by
  show H1[B + a]? = some (vp_cell _ _)
  rw [e1, vp_cell_l, arrV_store]
  show _ = some (vp_cell (dA tag) ((l0.set j x).length, .inr (.inl (fun q => (l0.set j x).getD q 0))))
  rw [vp_cell_l, List.length_set]
  congr 2
  funext q
  rw [mm_gd l0 j q x 0 hj]
  by_cases hq : q = j
  · subst hq; simp [updV]
  · simp [updV, hq]
theorem mm_atR {tag a j v : Nat} {H1 : Heap} {l0 : List (Option Nat)} (hj : j < l0.length) (e1 : H1[B + a]? = some ((vp_cell (dA tag) (l0.length, .inr (.inr (.inr (.inr (fun q => (l0.getD q none).map (fun a => B + a))))))).setSlot j (.ref (B + v)))) :
    va_at D vwCl (B + a, mm_me dA B b0 (.inl (tag, .inr (.inr (l0.set j (some v)))))) H1 := by
  show H1[B + a]? = some (vp_cell _ _)
  rw [e1, vp_cell_q, arrV_store]
  show _ = some (vp_cell (dA tag) ((l0.set j (some v)).length, .inr (.inr (.inr (.inr (fun q => ((l0.set j (some v)).getD q none).map (fun a => B + a)))))))
  rw [vp_cell_q, List.length_set]
  congr 2
  funext q
  rw [mm_gd l0 j q (some v) none hj]
  by_cases hq : q = j
  · subst hq; simp [updV, va_rf]
  · simp [updV, hq]
theorem mm_ec_s {tag cj : Nat} (h : Nat.beq cj (mm_ec tag) = true) (hc : cj < 1000) : ∃ q, vwCl[cj]? = some q ∧ (mm_tys dA)[tag]? = some (dA tag, .object q.1) := by
  have := Nat.eq_of_beq_eq_true h
  unfold mm_ec at this
  split at this
  · subst this; exact ⟨_, rfl, rfl⟩
  · subst this; exact ⟨_, rfl, rfl⟩
  · omega
theorem mm_ok11 (hx : p.tables.exec = Jvm.exec) (hb : c.code = cc) (hG : mm_GI D dA B b0 H0 X s) (hd : decode cc pc = .ok (i, 1)) (S : mm_CF D dA B b0 H0 n0 s0 H locs cells slots h)
    (hs : mm_g2 i st h = some (st', h')) (k : ∀ H' locs', mm_CF D dA B b0 H0 n0 s0 H' locs' cells slots h' → W p l e R s m args below meth c H' locs' cells slots Q (F0 m (pc + 1) real (st'.map (mm_mv B b0)))) :
    W p l e R s m args below meth c H locs cells slots Q (F0 m pc real (st.map (mm_mv B b0))) := by
  unfold mm_g2 at hs
  split at hs
  · split at hs
    · next l0 ha =>
      obtain ⟨h1, h2⟩ := mm_setB hs
      cases h2
      obtain ⟨h2, h3⟩ := mm_in_s h1
      refine W.iast hx hb (S.1.2.1 _ _ ha) ((hG.1.2 0 _ rfl).1 l0.length (fun j => .int (l0.getD j 0))) (fun q => by cases q) (by show ¬ (_ ∨ (arrV _ _ _).slots.size ≤ _); rw [arrV_size]; exact h2) rfl rfl hd fun H1 e1 z o => ?_
      exact k H1 _ (S.set ha (mm_atI h3 e1) z o (by simp [mm_cs, mm_al]))
    · cases hs
  · split at hs
    · next l0 ha =>
      obtain ⟨h1, h2⟩ := mm_setB hs
      cases h2
      obtain ⟨h2, h3⟩ := mm_in_s h1
      refine W.bast hx hb (S.1.2.1 _ _ ha) ((hG.1.2 2 _ rfl).1 l0.length (fun j => .int (l0.getD j 0))) (fun q => by cases q) (by show ¬ (_ ∨ (arrV _ _ _).slots.size ≤ _); rw [arrV_size]; exact h2) rfl rfl hd fun H1 e1 z o => ?_
      exact k H1 _ (S.set ha (mm_atI h3 e1) z o (by simp [mm_cs, mm_al]))
    · next l0 ha =>
      obtain ⟨h1, h2⟩ := mm_setB hs
      cases h2
      obtain ⟨h2, h3⟩ := mm_in_s h1
      refine W.zast hx hb (S.1.2.1 _ _ ha) ((hG.1.2 3 _ rfl).1 l0.length (fun j => .int (l0.getD j 0))) (fun q => by cases q) (by show ¬ (_ ∨ (arrV _ _ _).slots.size ≤ _); rw [arrV_size]; exact h2) rfl rfl hd fun H1 e1 z o => ?_
      exact k H1 _ (S.set ha (mm_atI h3 e1) z o (by simp [mm_cs, mm_al]))
    · cases hs
  · split at hs
    · next l0 ha =>
      obtain ⟨h1, h2⟩ := mm_setB hs
      cases h2
      obtain ⟨h2, h3⟩ := mm_in_s h1
      refine W.last hx hb (S.1.2.1 _ _ ha) ((hG.1.2 1 _ rfl).1 l0.length (fun j => .long (l0.getD j 0))) (fun q => by cases q) (by show ¬ (_ ∨ (arrV _ _ _).slots.size ≤ _); rw [arrV_size]; exact h2) rfl rfl hd fun H1 e1 z o => ?_
      exact k H1 _ (S.set ha (mm_atL h3 e1) z o (by simp [mm_cs, mm_al]))
    · cases hs
  · next v j a t =>
    split at hs
    · next tag l0 cj fs ha hv =>
      obtain ⟨h1, h2⟩ := mm_setB hs
      cases h2
      simp only [Bool.and_eq_true] at h1
      obtain ⟨h1, hec⟩ := h1
      obtain ⟨h2, h3⟩ := mm_in_s h1
      obtain ⟨r', hr', cellV, g1, g2, g3, -⟩ := S.1.2.1 _ _ hv
      have hcj : cj < 1000 := by have := mm_lt hr'; simp [vwCl] at this; omega
      obtain ⟨q, hq, hty⟩ := mm_ec_s (dA := dA) hec hcj
      have hcls := (hG.1.1 cj _ hq).2
      obtain ⟨kA, comp, k1, k2, k3, -⟩ := (hG.1.2 tag _ hty).2
      have hcomp : comp = D.1 cj := Option.some.inj (k3.symm.trans hcls.1)
      subst hcomp
      obtain ⟨kC, hkC, -⟩ := hcls.2
      refine W.aast hx hb (S.1.2.1 _ _ ha) (fun q h => by cases h) (fun h => by cases h) k1 k2 rfl hkC ⟨fun q => h2 (Or.inl q), by show _ < (arrV _ _ _).slots.size; rw [arrV_size]; exact h3⟩ g1 (fun q h => by rw [g3] at h; cases h) (by rw [g2]; exact hkC) (by rw [g2]; exact va_assign hcls) rfl rfl hd fun H1 e1 z o => ?_
      exact k H1 _ (S.set ha (mm_atR h3 e1) z o (by simp [mm_cs, mm_al]))
    · cases hs
  · cases hs
theorem mm_ok12 (hx : p.tables.exec = Jvm.exec) (hb : c.code = cc) (hr : mm_EOK r) (hG : mm_GI D dA B b0 H0 X s) (hown : s.vm.findClass r.2.1 = some m.cls) (hts : ∀ w ∈ mm_W, w.before args s = true) (hd : decode cc pc = .ok (i, n)) {v : Value} {t : List Value}
    (hs : mm_g4 r i n = some v) (k : W p l e R s m args below meth c H locs cells slots Q (F0 m (pc + n) real (mm_mv B b0 v :: t))) :
    W p l e R s m args below meth c H locs cells slots Q (F0 m pc real t) := by
  unfold mm_g4 at hs
  split at hs
  · split at hs
    · next hrk =>
      obtain ⟨he1, he2⟩ := mm_rk_s hrk
      have hek := hr _ he1
      simp only at he2
      subst he2
      cases hs
      exact lv_ldc hx hb hown (hts _ (mm_one hek (by first | rfl | simp [goodWord, Cond.onTables, Cond.keeps, Cond.steady]))) hd k
    · next i0 i1 rest hrk =>
      obtain ⟨he1, he2⟩ := mm_rk_s hrk
      have hek : (decide (r.2.1 = RX5) && decide ((mm_tl[i1]?).map Prod.fst = some i0)) = true := hr _ he1
      simp only at he2
      subst he2
      cases hs
      simp only [Bool.and_eq_true, decide_eq_true_eq] at hek
      obtain ⟨ho, hi⟩ := hek
      cases hq : mm_tl[i1]? with
      | none => rw [hq] at hi; cases hi
      | some q =>
        rw [hq] at hi
        have hi : q.1 = i0 := Option.some.inj hi
        have hk : i1 < 15 := by have := mm_lt hq; simpa [mm_tl] using this
        obtain ⟨l0, hl0⟩ := Option.isSome_iff_exists.mp (mm_tx0 i1 hk).2
        have hv := (hG.2.2.1.2.2.2.1 i1 q l0 hq hl0).2.2.2.2
        rw [hi, ← ho] at hv
        exact va_ldcS hx hb hown hv hd k
    · cases hs
  · split at hs
    · next hrk =>
      obtain ⟨he1, he2⟩ := mm_rk_s hrk
      have hek := hr _ he1
      simp only at he2
      subst he2
      cases hs
      exact lv_ldcw hx hb hown (hts _ (mm_one hek (by first | rfl | simp [goodWord, Cond.onTables, Cond.keeps, Cond.steady]))) hd k
    · cases hs
  · split at hs
    · next hrk =>
      obtain ⟨he1, he2⟩ := mm_rk_s hrk
      have hek := hr _ he1
      simp only at he2
      subst he2
      cases hs
      exact lv_ldc2 hx hb hown (hts _ (mm_one hek (by first | rfl | simp [goodWord, Cond.onTables, Cond.keeps, Cond.steady]))) hd k
    · cases hs
  · cases hs
end mmC
end
section
/-! what is made -/
theorem mm_dv_s (t : FieldType) (B : Nat) (b0 : mm_X) (h : t = .int ∨ t = .boolean ∨ (∃ n, t = .object n) ∨ ∃ n, t = .array n) : defaultValue t = mm_mv B b0 (mm_dv t) := by
  rcases h with rfl | rfl | ⟨n, rfl⟩ | ⟨n, rfl⟩ <;> rfl
def mm_tk4 (t : FieldType) : Bool := match t with
  | .int | .boolean | .object _ | .array _ => true
  | _ => false
theorem mm_tk4_s {t : FieldType} (h : mm_tk4 t = true) : t = .int ∨ t = .boolean ∨ (∃ n, t = .object n) ∨ ∃ n, t = .array n := by
  cases t <;> first | (cases h; done) | simp
theorem mm_ftk : ∀ ci, ci < 11 → ∀ k, k < 46 → mm_tk4 (mm_ft ci k) = true := by decide +kernel
theorem mm_N46 : ∀ ci, ci < 11 → (match vwCl[ci]? with | some q => decide (q.2.2 ≤ 46) | none => true) = true := by decide +kernel
theorem mm_dfs_s {ci : Nat} {q : vw_C} (hq : vwCl[ci]? = some q) (B : Nat) (b0 : mm_X) : ∀ j, j < q.2.2 → defaultValue (mm_ft ci j) = vp_V ((mm_dfs ci).map (mm_mv B b0)) j := by
  intro j hj
  have hci : ci < 11 := by have := mm_lt hq; simpa [vwCl] using this
  have hN : q.2.2 ≤ 46 := by have := mm_N46 ci hci; rw [hq] at this; simpa using this
  rw [mm_dv_s _ B b0 (mm_tk4_s (mm_ftk ci hci j (by omega)))]
  unfold mm_dfs vp_V
  rw [hq]
  simp [List.getD_eq_getElem?_getD, hj]
theorem mm_nn_s {n : Int32} (h : mm_nn n = true) : ¬ n < 0 ∧ n.toNatClampNeg ≤ 1000 := by
  unfold mm_nn at h
  simp only [Bool.and_eq_true, Bool.not_eq_true', decide_eq_false_iff_not] at h
  exact ⟨h.1, Nat.le_of_ble_eq_true h.2⟩
theorem mm_rep {α : Type} (n j : Nat) (d : α) : (List.replicate n d).getD j d = d := by
  simp only [List.getD_eq_getElem?_getD, List.getElem?_replicate]
  split <;> rfl
section mmD
variable {p : Program} {l : Launch} {e : Env} {R : Room} {s : State} {m : MethodId} {args : Array Value} {below : List Frame} {meth : Method} {c : Code} {H : Heap} {locs : List Loc} {cells slots : Nat} {Q : State → Prop}
variable {cc : ByteArray} {pc n : Nat} {real : Array Slot} {D : va_G} {dA : Nat → ClassId} {B n0 s0 : Nat} {b0 : mm_X} {H0 : Heap} {X : Option (List Int32)} {i : Instr} {st st' : List Value} {h h' : mm_H} {r : mm_R}
theorem mm_newT (hx : p.tables.exec = Jvm.exec) (hb : c.code = cc) (hG : mm_GI D dA B b0 H0 X s) {at0 : ArrayType} (hd : decode cc pc = .ok (.newarray at0, 2)) (S : mm_CF D dA B b0 H0 n0 s0 H locs cells slots h) {nn : Int32} (hnn : mm_nn nn = true) {e0 : mm_E} {tag : Nat} {a0 : mm_A} (he : e0 = .inl (tag, a0)) {t : List Value}
    (harr : (Cond.arrayClass (newarray.typeOf at0)).before args s = true) (hty : (mm_tys dA)[tag]? = some (dA tag, newarray.typeOf at0)) (hnr : ∀ C, newarray.typeOf at0 ≠ .object C) (hcb : componentBytes (newarray.typeOf at0) ≤ 8) (hal : mm_al a0 = nn.toNatClampNeg) (hce : vp_cell (dA tag) (mm_ma B a0) = arrV (dA tag) nn.toNatClampNeg (fun _ => defaultValue (newarray.typeOf at0)))
    (hc1 : (h ++ [e0]).length ≤ n0 + R.cells) (hc2 : mm_sz (h ++ [e0]) ≤ s0 + R.slots)
    (k : ∀ H' locs' cells' slots', mm_CF D dA B b0 H0 n0 s0 H' locs' cells' slots' (h ++ [e0]) → W p l e R s m args below meth c H' locs' cells' slots' Q (F0 m (pc + 2) real (.ref (B + h.length) :: t))) :
    W p l e R s m args below meth c H locs cells slots Q (F0 m pc real (.int nn :: t)) := by
  subst he
  obtain ⟨h1, h2⟩ := mm_nn_s hnn
  have hz : mm_sz (h ++ [(.inl (tag, a0) : mm_E)]) = mm_sz h + nn.toNatClampNeg := by rw [mm_sz_app]; simp [mm_sz, mm_cs, hal]
  have hcc : cells + 1 ≤ R.cells := by
    have := S.2.2.1
    simp at hc1
    omega
  have hss : slots + nn.toNatClampNeg ≤ R.slots := by
    have := S.2.2.2
    rw [hz] at hc2
    omega
  have hsz : H.size = B + h.length := S.1.1
  refine va_newaK hx hb harr rfl hd rfl h1 rfl (Nat.le_trans (Nat.mul_le_mul h2 hcb) (by omega)) hcc hss rfl fun H1 cA e1 z1 o1 hAr hNm => ?_
  have hcA : cA = dA tag := by
    have := (hG.1.2 tag _ hty).2
    unfold va_RA at this
    split at this
    · next C hC => exact absurd hC (hnr C)
    · exact Option.some.inj (hNm.symm.trans this)
  subst hcA
  have hfin := k H1 locs (cells + 1) (slots + nn.toNatClampNeg) (S.push (e' := .inl (tag, a0)) (by show H1[H.size]? = some (vp_cell _ _); rw [e1]; exact congrArg some hce.symm) z1 o1 hal)
  rw [← hsz] at hfin
  exact hfin
theorem mm_AC {ps : List (Nat × Nat)} {ty : FieldType} (h : mm_has ps [.arrayClass ty] = true) (hts : ∀ w ∈ mm_W, w.before args s = true) : (Cond.arrayClass ty).before args s = true := hts _ (mm_one h rfl)
theorem mm_ok13a (hx : p.tables.exec = Jvm.exec) (hb : c.code = cc) (hts : ∀ w ∈ mm_W, w.before args s = true) (hG : mm_GI D dA B b0 H0 X s) {at0 : ArrayType} (hd : decode cc pc = .ok (.newarray at0, 2)) (S : mm_CF D dA B b0 H0 n0 s0 H locs cells slots h) {nn : Int32} (hnn : mm_nn nn = true) {e0 : mm_E} {t : List Value} (hna : mm_na at0 nn.toNatClampNeg = some e0)
    (hc1 : (h ++ [e0]).length ≤ n0 + R.cells) (hc2 : mm_sz (h ++ [e0]) ≤ s0 + R.slots)
    (k : ∀ H' locs' cells' slots', mm_CF D dA B b0 H0 n0 s0 H' locs' cells' slots' (h ++ [e0]) → W p l e R s m args below meth c H' locs' cells' slots' Q (F0 m (pc + 2) real (.ref (B + h.length) :: t))) :
    W p l e R s m args below meth c H locs cells slots Q (F0 m pc real (.int nn :: t)) := by
  unfold mm_na at hna
  split at hna
  · cases hna
    refine mm_newT hx hb hG hd S hnn rfl (mm_AC mm_ac0 hts) rfl (fun C h => by cases h) (by decide) (by simp [mm_al]) ?_ hc1 hc2 k
    simp only [mm_ma, vp_cell_i, List.length_replicate, mm_rep]
    rfl
  · cases hna
    refine mm_newT hx hb hG hd S hnn rfl (mm_AC mm_ac1 hts) rfl (fun C h => by cases h) (by decide) (by simp [mm_al]) ?_ hc1 hc2 k
    simp only [mm_ma, vp_cell_l, List.length_replicate, mm_rep]
    rfl
  · cases hna
    refine mm_newT hx hb hG hd S hnn rfl (mm_AC mm_ac2 hts) rfl (fun C h => by cases h) (by decide) (by simp [mm_al]) ?_ hc1 hc2 k
    simp only [mm_ma, vp_cell_i, List.length_replicate, mm_rep]
    rfl
  · cases hna
    refine mm_newT hx hb hG hd S hnn rfl (mm_AC mm_ac3 hts) rfl (fun C h => by cases h) (by decide) (by simp [mm_al]) ?_ hc1 hc2 k
    simp only [mm_ma, vp_cell_i, List.length_replicate, mm_rep]
    rfl
  · cases hna
theorem mm_ok13b (hx : p.tables.exec = Jvm.exec) (hb : c.code = cc) (hts : ∀ w ∈ mm_W, w.before args s = true) (hG : mm_GI D dA B b0 H0 X s) (hown : s.vm.findClass r.2.1 = some m.cls) {idx ci : Nat} {ps : List (Nat × Nat)} (hek : mm_e7 r idx ci ps = true) (hd : decode cc pc = .ok (.new idx, 3)) (S : mm_CF D dA B b0 H0 n0 s0 H locs cells slots h) {t : List Value}
    (hc1 : (h ++ [(.inr (ci, mm_dfs ci) : mm_E)]).length ≤ n0 + R.cells) (hc2 : mm_sz (h ++ [(.inr (ci, mm_dfs ci) : mm_E)]) ≤ s0 + R.slots)
    (k : ∀ H' locs' cells' slots', mm_CF D dA B b0 H0 n0 s0 H' locs' cells' slots' (h ++ [.inr (ci, mm_dfs ci)]) → W p l e R s m args below meth c H' locs' cells' slots' Q (F0 m (pc + 3) real (.ref (B + h.length) :: t))) :
    W p l e R s m args below meth c H locs cells slots Q (F0 m pc real t) := by
  unfold mm_e7 at hek
  split at hek
  · next q hq =>
    have hw := mm_W_has hek (by simp [goodWord, Cond.onTables, Cond.keeps, Cond.steady])
    have hz : mm_sz (h ++ [(.inr (ci, mm_dfs ci) : mm_E)]) = mm_sz h + q.2.2 := by rw [mm_sz_app]; simp [mm_sz, mm_cs, hq]
    have hcc : cells + 1 ≤ R.cells := by
      have := S.2.2.1
      simp at hc1
      omega
    have hss : slots + q.2.2 ≤ R.slots := by
      have := S.2.2.2
      rw [hz] at hc2
      omega
    have hKn := hG.1.1 ci _ hq
    refine W.newcK hx hb hown (hts _ (hw _ (by simp))) (hts _ (hw (.instantiable q.1 q.2.2) (by simp))) (hts _ (hw (.initialized q.1) (by simp))) rfl hd hcc hss hKn.2.1 rfl fun H1 kC hkC e1 z1 o1 => ?_
    have hfin := k H1 locs (cells + 1) (slots + q.2.2) (S.push (e' := .inr (ci, mm_dfs ci)) ⟨q, hq, (u_born (mm_ft ci) hts (mm_lay hq) hKn hkC e1 (mm_tyok hq)).to (mm_dfs_s hq B b0)⟩ z1 o1 (by simp [mm_cs, hq]))
    rw [← S.1.1] at hfin
    exact hfin
  · cases hek
theorem mm_ok13c (hx : p.tables.exec = Jvm.exec) (hb : c.code = cc) (hts : ∀ w ∈ mm_W, w.before args s = true) (hG : mm_GI D dA B b0 H0 X s) (hown : s.vm.findClass r.2.1 = some m.cls) {idx ci : Nat} {ps : List (Nat × Nat)} (hek : mm_e7 r idx ci ps = true) (hec : Nat.beq (mm_ec (mm_tc ci)) ci = true) (hd : decode cc pc = .ok (.anewarray idx, 3)) (S : mm_CF D dA B b0 H0 n0 s0 H locs cells slots h) {t : List Value} {nn : Int32} (hnn : mm_nn nn = true) {e0 : mm_E} (he0 : e0 = .inl (mm_tc ci, .inr (.inr (List.replicate nn.toNatClampNeg none))))
    (hc1 : (h ++ [e0]).length ≤ n0 + R.cells) (hc2 : mm_sz (h ++ [e0]) ≤ s0 + R.slots)
    (k : ∀ H' locs' cells' slots', mm_CF D dA B b0 H0 n0 s0 H' locs' cells' slots' (h ++ [e0]) → W p l e R s m args below meth c H' locs' cells' slots' Q (F0 m (pc + 3) real (.ref (B + h.length) :: t))) :
    W p l e R s m args below meth c H locs cells slots Q (F0 m pc real (.int nn :: t)) := by
  subst he0
  obtain ⟨h1, h2⟩ := mm_nn_s hnn
  unfold mm_e7 at hek
  split at hek
  · next q hq =>
    have hw := mm_W_has hek (by simp [goodWord, Cond.onTables, Cond.keeps, Cond.steady])
    have hci : ci < 1000 := by have := mm_lt hq; simp [vwCl] at this; omega
    have hec' : Nat.beq ci (mm_ec (mm_tc ci)) = true := by rw [Nat.eq_of_beq_eq_true hec]; exact Nat.beq_refl _
    obtain ⟨q', hq', hty⟩ := mm_ec_s (dA := dA) hec' hci
    cases Option.some.inj (hq.symm.trans hq')
    obtain ⟨kA, comp, k1, k2, k3, k4⟩ := (hG.1.2 _ _ hty).2
    have hAO : (Cond.arrayOver (.object q.1)).before args s = true := by
      have hci2 : ci = 3 ∨ ci = 7 := by
        have := Nat.eq_of_beq_eq_true hec
        unfold mm_tc at this
        split at this
        · exact Or.inl rfl
        · exact Or.inr rfl
        · simp [mm_ec] at this; omega
      rcases hci2 with rfl | rfl
      · cases hq; exact hG.2.2.1.1
      · cases hq; exact hG.2.2.1.2.1
    have hz : mm_sz (h ++ [(.inl (mm_tc ci, .inr (.inr (List.replicate nn.toNatClampNeg none))) : mm_E)]) = mm_sz h + nn.toNatClampNeg := by rw [mm_sz_app]; simp [mm_sz, mm_cs, mm_al]
    have hcc : cells + 1 ≤ R.cells := by
      have := S.2.2.1
      simp at hc1
      omega
    have hss : slots + nn.toNatClampNeg ≤ R.slots := by
      have := S.2.2.2
      rw [hz] at hc2
      omega
    refine W.anew hx hb hown (hts _ (hw _ (by simp))) hAO rfl hd rfl h1 (by omega) hcc hss fun cA kA' comp' f1 f2 f3 f4 => ?_
    have hcA : cA = dA (mm_tc ci) := Option.some.inj (f1.symm.trans k4)
    subst hcA
    have hfin := k (H.push ({ cls := dA (mm_tc ci), slots := Array.replicate nn.toNatClampNeg .null, vm := .none } : Cell)) locs (cells + 1) (slots + nn.toNatClampNeg) (S.push (e' := .inl (mm_tc ci, .inr (.inr (List.replicate nn.toNatClampNeg none)))) (by
      show _ = some (vp_cell _ _)
      rw [Array.getElem?_push_size]
      simp only [mm_ma, vp_cell_q, List.length_replicate, mm_rep]
      rw [arrV_new]
      rfl) (by rw [Array.size_push]) (fun q hq => by rw [Array.getElem?_push, if_neg (Nat.ne_of_lt hq)]) (by simp [mm_cs, mm_al]))
    rw [← S.1.1] at hfin
    exact hfin
  · cases hek
end mmD
end
section
/-! new int[n][k]; a making of any kind; arraycopy -/
theorem mm_outer (c : ClassId) (N h0 : Nat) : ∀ i : Nat, Jvm.Free.Multi.outerC c N h0 i = arrV c N (fun j => va_rf (if j < i then some (h0 + 1 + j) else none))
  | 0 => by
    show ({ cls := c, slots := Array.replicate N .null, vm := .none } : Cell) = _
    rw [arrV_new]
    refine congrArg (arrV c N) (funext fun j => ?_)
    simp [va_rf]
  | i + 1 => by
    show (Jvm.Free.Multi.outerC c N h0 i).setSlot i (.ref (h0 + 1 + i)) = _
    rw [mm_outer c N h0 i, arrV_store]
    refine congrArg (arrV c N) (funext fun j => ?_)
    by_cases e : j = i
    · subst e; simp [updV, va_rf]
    · by_cases h : j < i
      · simp [updV, e, h, Nat.lt_succ_of_lt h]
      · simp [updV, e, h, show ¬ j < i + 1 by omega]
section mmF
variable {p : Program} {l : Launch} {e : Env} {R : Room} {s : State} {m : MethodId} {args : Array Value} {below : List Frame} {meth : Method} {c : Code} {H : Heap} {locs : List Loc} {cells slots : Nat} {Q : State → Prop}
variable {cc : ByteArray} {pc n : Nat} {real : Array Slot} {D : va_G} {dA : Nat → ClassId} {B n0 s0 : Nat} {b0 : mm_X} {H0 : Heap} {X : Option (List Int32)} {i : Instr} {st st' : List Value} {h h' : mm_H} {r : mm_R}
theorem mm_szR (N K : Nat) : mm_sz (List.replicate N (.inl (0, .inl (List.replicate K 0)) : mm_E)) = N * K := by
  unfold mm_sz
  rw [List.map_replicate, List.sum_replicate_nat]
  simp [mm_cs, mm_al]
theorem mm_ok13d (hx : p.tables.exec = Jvm.exec) (hb : c.code = cc) (hts : ∀ w ∈ mm_W, w.before args s = true) (hG : mm_GI D dA B b0 H0 X s) (hown : s.vm.findClass r.2.1 = some m.cls) {idx : Nat} {ps : List (Nat × Nat)} (hek : mm_has ps [.classLink r.2.1 idx "[[I", .arrayClass .int] = true) (hd : decode cc pc = .ok (.multianewarray idx 2, 4)) (S : mm_CF D dA B b0 H0 n0 s0 H locs cells slots h) {t : List Value} {nn kk : Int32} (hnn : mm_nn nn = true) (hkk : mm_nn kk = true)
    (he : h' = (h ++ [.inl (4, .inr (.inr ((List.range nn.toNatClampNeg).map (fun i => some (h.length + 1 + i)))))]) ++ List.replicate nn.toNatClampNeg (.inl (0, .inl (List.replicate kk.toNatClampNeg 0))))
    (hc1 : h'.length ≤ n0 + R.cells) (hc2 : mm_sz h' ≤ s0 + R.slots)
    (k : ∀ H' locs' cells' slots', mm_CF D dA B b0 H0 n0 s0 H' locs' cells' slots' h' → W p l e R s m args below meth c H' locs' cells' slots' Q (F0 m (pc + 4) real (.ref (B + h.length) :: t))) :
    W p l e R s m args below meth c H locs cells slots Q (F0 m pc real (.int kk :: .int nn :: t)) := by
  obtain ⟨h1, h2⟩ := mm_nn_s hnn
  obtain ⟨h3, h4⟩ := mm_nn_s hkk
  generalize hN : nn.toNatClampNeg = N at *
  generalize hK : kk.toNatClampNeg = K at *
  have hlen : h'.length = h.length + 1 + N := by rw [he]; simp; omega
  have hz : mm_sz h' = mm_sz h + (N + N * K) := by
    rw [he, mm_sz_app, mm_sz_app, mm_szR]
    simp [mm_sz, mm_cs, mm_al]
    omega
  have e1 := S.2.2.1
  have e2 := S.2.2.2
  have hw := mm_W_has hek (by simp [goodWord, Cond.onTables, Cond.keeps, Cond.steady])
  intro T hT Xs
  have hcb : componentBytes FieldType.int = 4 := by decide
  have hcl0 : (Cond.classLink r.2.1 idx ("[" ++ (FieldType.array .int).toString)).before args s = true := by
    have e0 : "[" ++ (FieldType.array .int).toString = "[[I" := by decide +kernel
    rw [e0]
    exact hts _ (hw _ (by simp))
  obtain ⟨vm₁, cA, comp, -, fA, fC, hO, -, X', step⟩ := Xs.multianewarray2F (ty := .int) hx hown hcl0 hG.2.2.1.2.2.1 (hts (.arrayClass .int) (hw _ (by simp))) (g := F0 m pc real (.int kk :: .int nn :: t)) rfl (by rw [hb]; exact hd) rfl h1 h3 (by omega) (by rw [hcb]; omega) (by omega) rfl rfl (by rw [hN]; omega) (by rw [hN, hK]; omega)
  rw [hN, hK] at X' step
  have hc0 : comp = dA 0 := by
    have := (hG.1.2 0 _ rfl).2
    exact Option.some.inj (fC.symm.trans this)
  have hc4 : cA = dA 4 := by
    have := (hG.1.2 4 _ rfl).2
    exact Option.some.inj (fA.symm.trans this)
  subst hc0 hc4
  generalize hF : Jvm.Free.Multi.fill (T.setVm vm₁) (dA 4) (dA 0) N K (defaultValue .int) N = F at X' step
  have hTh : (T.setVm vm₁).heap = H := hT
  obtain ⟨f1, f2, -, -⟩ := Jvm.Free.Multi.fill_facts (T.setVm vm₁) (dA 4) (dA 0) N K (defaultValue .int) N
  rw [hF, hTh] at f1 f2
  have hold : ∀ x : Nat, x < H.size → F.heap[x]? = H[x]? := fun x hx => by
    have := Jvm.Free.Multi.fill_old (T.setVm vm₁) (dA 4) (dA 0) N K (defaultValue .int) (a := x) (by rw [hTh]; exact hx) N
    rw [hF, hTh] at this
    exact this
  have hrow : ∀ j : Nat, j < N → F.heap[H.size + 1 + j]? = some (Jvm.Free.Multi.innerC (dA 0) K (defaultValue .int)) := fun j hj => by
    have := Jvm.Free.Multi.fill_inner (T.setVm vm₁) (dA 4) (dA 0) N K (defaultValue .int) N j hj
    rw [hF, hTh] at this
    exact this
  have hsz := S.1.1
  have hSim : mm_Sim D dA B b0 H0 F.heap h' := by
    refine ⟨by rw [f1, hlen, hsz]; omega, fun q x hq => ?_, fun q hq => by rw [hold q (by omega)]; exact S.1.2.2 q hq⟩
    rw [he] at hq
    by_cases c1 : q < h.length
    · rw [List.getElem?_append_left (by simp; omega), List.getElem?_append_left c1] at hq
      exact (S.1.2.1 q x hq).kept (hold _ (by show B + q < H.size; omega))
    · by_cases c2 : q = h.length
      · subst c2
        rw [List.getElem?_append_left (by simp), List.getElem?_append_right (Nat.le_refl _), Nat.sub_self] at hq
        cases hq
        show F.heap[B + h.length]? = some (vp_cell _ _)
        rw [← hsz, f2, mm_outer]
        show _ = some (vp_cell (dA 4) (((List.range N).map (fun i => some (h.length + 1 + i))).length, .inr (.inr (.inr (.inr (fun j => (((List.range N).map (fun i => some (h.length + 1 + i))).getD j none).map (fun a => B + a)))))))
        rw [vp_cell_q]
        simp only [List.length_map, List.length_range]
        congr 2
        funext j
        by_cases hj : j < N
        · rw [if_pos hj, List.getD_eq_getElem?_getD, List.getElem?_map, List.getElem?_range hj]
          show va_rf (some (H.size + 1 + j)) = va_rf (some (B + (h.length + 1 + j)))
          rw [hsz, show B + h.length + 1 + j = B + (h.length + 1 + j) by omega]
        · simp [hj, List.getD_eq_getElem?_getD]
      · have hqN : q < h.length + 1 + N := by have := mm_lt hq; simp at this; omega
        rw [List.getElem?_append_right (by simp; omega)] at hq
        simp only [List.length_append, List.length_cons, List.length_nil, List.getElem?_replicate] at hq
        rw [if_pos (by omega)] at hq
        cases hq
        show F.heap[B + q]? = some (vp_cell _ _)
        have := hrow (q - h.length - 1) (by omega)
        rw [show H.size + 1 + (q - h.length - 1) = B + q by omega] at this
        rw [this]
        simp only [mm_ma, vp_cell_i, List.length_replicate, mm_rep]
        unfold Jvm.Free.Multi.innerC
        rw [arrV_new]
        rfl
  have hfin := k F.heap locs (cells + 1 + N) (slots + N + N * K) ⟨hSim, S.2.1, by rw [hlen, ← e1]; omega, by rw [hz, ← e2]; omega⟩ F rfl X'
  obtain ⟨tt, a1, b1⟩ := hfin
  rw [← hsz, ← hT] at a1
  exact ⟨tt, step tt a1, b1⟩
theorem mm_ok13 (hx : p.tables.exec = Jvm.exec) (hb : c.code = cc) (hr : mm_EOK r) (hts : ∀ w ∈ mm_W, w.before args s = true) (hG : mm_GI D dA B b0 H0 X s) (hown : s.vm.findClass r.2.1 = some m.cls) (hd : decode cc pc = .ok (i, n)) (S : mm_CF D dA B b0 H0 n0 s0 H locs cells slots h)
    (hs : mm_g3 r i n st h = some (st', h')) (hc1 : h'.length ≤ n0 + R.cells) (hc2 : mm_sz h' ≤ s0 + R.slots)
    (k : ∀ H' locs' cells' slots', mm_CF D dA B b0 H0 n0 s0 H' locs' cells' slots' h' → W p l e R s m args below meth c H' locs' cells' slots' Q (F0 m (pc + n) real (st'.map (mm_mv B b0)))) :
    W p l e R s m args below meth c H locs cells slots Q (F0 m pc real (st.map (mm_mv B b0))) := by
  unfold mm_g3 at hs
  split at hs
  · split at hs
    · next i0 ci rest hrk =>
      obtain ⟨he1, he2⟩ := mm_rk_s hrk
      have hek : mm_e7 r i0 ci rest.2.2 = true := hr _ he1
      simp only at he2
      subst he2
      cases hs
      exact mm_ok13b hx hb hts hG hown hek hd S hc1 hc2 k
    · cases hs
  · next ty nn t =>
    cases hnn : mm_nn nn <;> rw [hnn] at hs
    · cases hs
    · obtain ⟨e0, h1, h2⟩ := mm_map_s hs
      cases h2
      exact mm_ok13a hx hb hts hG hd S hnn h1 hc1 hc2 k
  · next idx nn t =>
    split at hs
    · next i0 ci rest hrk =>
      obtain ⟨he1, he2⟩ := mm_rk_s hrk
      have hek : mm_e7 r i0 ci rest.2.2 = true := hr _ he1
      simp only at he2
      subst he2
      obtain ⟨h1, h2⟩ := mm_setB hs
      simp only [Bool.and_eq_true] at h1
      cases h2
      exact mm_ok13c hx hb hts hG hown hek h1.2 hd S h1.1 rfl hc1 hc2 k
    · cases hs
  · next idx kk nn t =>
    split at hs
    · next i0 rest hrk =>
      obtain ⟨he1, he2⟩ := mm_rk_s hrk
      have hek : mm_has rest.2.2.2 [.classLink r.2.1 i0 "[[I", .arrayClass .int] = true := hr _ he1
      simp only at he2
      subst he2
      obtain ⟨h1, h2⟩ := mm_setB hs
      simp only [Bool.and_eq_true] at h1
      cases h2
      exact mm_ok13d hx hb hts hG hown hek hd S h1.1 h1.2 rfl hc1 hc2 k
    · cases hs
  · cases hs
end mmF
end
section
/-! arraycopy; a call by a contract -/
theorem mm_cp_len {α : Type} {f g : List α} {sp dp n : Nat} (h1 : sp + n ≤ f.length) (h2 : dp + n ≤ g.length) : (mm_cp f g sp dp n).length = g.length := by
  unfold mm_cp
  simp only [List.length_append, List.length_take, List.length_drop]
  omega
theorem mm_cp_get {α : Type} {f g : List α} {sp dp n : Nat} (h1 : sp + n ≤ f.length) (h2 : dp + n ≤ g.length) (d : α) (k : Nat) : (mm_cp f g sp dp n).getD k d = va_cpy (fun j => f.getD j d) (fun j => g.getD j d) sp dp n k := by
  unfold mm_cp va_cpy
  simp only [List.getD_eq_getElem?_getD]
  by_cases c1 : k < dp
  · rw [if_neg (by omega), List.append_assoc, List.getElem?_append_left (by rw [List.length_take]; omega), List.getElem?_take, if_pos c1]
  · rw [List.append_assoc, List.getElem?_append_right (by rw [List.length_take]; omega)]
    have e1 : k - (List.take dp g).length = k - dp := by rw [List.length_take]; omega
    rw [e1]
    by_cases c2 : k < dp + n
    · rw [if_pos (by omega), List.getElem?_append_left (by rw [List.length_take, List.length_drop]; omega), List.getElem?_take, if_pos (by omega), List.getElem?_drop]
    · rw [if_neg (by omega), List.getElem?_append_right (by rw [List.length_take, List.length_drop]; omega), List.getElem?_drop]
      congr 2
      rw [List.length_take, List.length_drop]
      omega
theorem mm_wt_s (B : Nat) (b0 : mm_X) (t : List Value) : ((t.map (mm_mv B b0)).map fun v => v.category).sum = mm_wt t := by
  induction t with
  | nil => rfl
  | cons v t ih =>
    simp only [List.map_cons, List.sum_cons, ih, mm_mv_cat]
    rfl
theorem mm_tk_s {n : Nat} {acc st as rest : List Value} (h : mm_tk n acc st = some (as, rest)) : ∃ xs, st = xs ++ rest ∧ xs.length = n ∧ as = xs.reverse ++ acc := by
  induction n generalizing acc st with
  | zero => cases h; exact ⟨[], rfl, rfl, rfl⟩
  | succ n ih =>
    cases st with
    | nil => cases h
    | cons v st =>
      obtain ⟨xs, h1, h2, h3⟩ := ih h
      exact ⟨v :: xs, by rw [h1]; rfl, by rw [List.length_cons, h2], by rw [h3]; simp⟩
section mmH
variable {p : Program} {l : Launch} {e : Env} {R : Room} {s : State} {m : MethodId} {args : Array Value} {below : List Frame} {meth : Method} {c : Code} {H : Heap} {locs : List Loc} {cells slots : Nat} {Q : State → Prop}
variable {cc : ByteArray} {pc n : Nat} {real : Array Slot} {D : va_G} {dA : Nat → ClassId} {B n0 s0 : Nat} {b0 : mm_X} {H0 : Heap} {X : Option (List Int32)} {i : Instr} {st st' : List Value} {h h' : mm_H} {r : mm_R}
theorem mm_nneg {z : Int32} (hz : ¬ z < 0) : z.toInt = (z.toNatClampNeg : Int) := by
  have hz0 : (0 : Int) ≤ z.toInt := by
    have := Int32.not_lt.mp hz
    simpa using Int32.le_iff_toInt_le.mp this
  show z.toInt = ((z.toInt.toNat : Nat) : Int)
  omega
theorem mm_acG {α : Type} (mk : α → Value) (d : α) {tag : Nat} {ty : FieldType} {f g : List α} {wr : List α → mm_A} (hwr : ∀ x, vp_cell (dA tag) (mm_ma B (wr x)) = arrV (dA tag) x.length (fun j => mk (x.getD j d))) (hal : ∀ x, mm_al (wr x) = x.length)
    (hx : p.tables.exec = Jvm.exec) (hb : c.code = cc) (hml : c.maxLocals = real.size) (hown : s.vm.findClass r.2.1 = some m.cls) (hts : ∀ w ∈ mm_W, w.before args s = true) (hG : mm_GI D dA B b0 H0 X s) {idx : Nat} {ps : List (Nat × Nat)} (hek : mm_has ps [.methodLink r.2.1 idx arraycopyName, .native arraycopyName, .static arraycopyName, .initialized "java/lang/System"] = true)
    (hd : decode cc pc = .ok (.invokestatic idx, 3)) (S : mm_CF D dA B b0 H0 n0 s0 H locs cells slots h) {a b : Nat} {sp dp n : Int32} {t : List Value} (hty : (mm_tys dA)[tag]? = some (dA tag, ty)) (hprim : refKind ty = false) (hfits : ∀ x, fits ty (mk x) = true)
    (ha : h[a]? = some (.inl (tag, wr f))) (hb' : h[b]? = some (.inl (tag, wr g))) (h1 : ¬ sp < 0) (h2 : ¬ dp < 0) (h3 : ¬ n < 0) (h4 : sp.toNatClampNeg + n.toNatClampNeg ≤ f.length) (h5 : dp.toNatClampNeg + n.toNatClampNeg ≤ g.length) (hwt : mm_wt t ≤ 8) (hfr : 1 ≤ R.frames) (hlo : 35 ≤ R.locals)
    (k : ∀ H' locs', mm_CF D dA B b0 H0 n0 s0 H' locs' cells slots (h.set b (.inl (tag, wr (mm_cp f g sp.toNatClampNeg dp.toNatClampNeg n.toNatClampNeg)))) → W p l e R s m args below meth c H' locs' cells slots Q (F0 m (pc + 3) real (t.map (mm_mv B b0)))) :
    W p l e R s m args below meth c H locs cells slots Q (F0 m pc real ((.int n :: .int dp :: .ref b :: .int sp :: .ref a :: t : List Value).map (mm_mv B b0))) := by
  have hw := mm_W_has hek (by simp [goodWord, Cond.onTables, Cond.keeps, Cond.steady])
  have h7 : nativeFrameWords "java/lang/System" "arraycopy" 5 = 7 := by decide +kernel
  have hroom : 2 * 0 + ((t.map (mm_mv B b0)).map fun v => v.category).sum + (nativeFrameWords "java/lang/System" "arraycopy" 5 + 11) ≤ R.locals := by rw [mm_wt_s, h7]; omega
  intro T hT Xs
  have hc0 : H[B + a]? = some (vp_cell (dA tag) (mm_ma B (wr f))) := S.1.2.1 _ _ ha
  have hc1 : H[B + b]? = some (vp_cell (dA tag) (mm_ma B (wr g))) := S.1.2.1 _ _ hb'
  rw [hwr] at hc0 hc1
  obtain ⟨-, k0, hk0, cm0, hkk0⟩ := (hG.1.2 tag _ hty).1 f.length (fun j => mk (f.getD j d))
  obtain ⟨-, k1, hk1, cm1, hkk1⟩ := (hG.1.2 tag _ hty).1 g.length (fun j => mk (g.getD j d))
  obtain ⟨vm', X', step⟩ := Xs.arraycopy hx hown (hts (.methodLink r.2.1 idx arraycopyName) (hw _ (by simp))) (hts (.native arraycopyName) (hw _ (by simp))) (hts (.static arraycopyName) (hw _ (by simp))) (hts (.initialized "java/lang/System") (hw _ (by simp))) (src := B + a) (dst := B + b) (srcPos := sp) (destPos := dp) (n := n) (by rw [hT]; exact hc0) (by rw [hT]; exact hc1)
    (fun _ h => by cases h) (fun _ h => by cases h) (fun h => by cases h) (fun h => by cases h) hk0 hk1 hkk0 hkk1 (by simp [hprim]) h1 h2 h3
    (by rw [mm_nneg h1, mm_nneg h3, arrV_size]; omega)
    (by rw [mm_nneg h2, mm_nneg h3, arrV_size]; omega)
    (fun vm₁ _ i hi => by
      have e : (arrV (dA tag) f.length (fun j => mk (f.getD j d))).slots.getD (sp.toNatClampNeg + i) .null = mk (f.getD (sp.toNatClampNeg + i) d) := by
        rw [Array.getD_eq_getD_getElem?, arrV_read _ _ (by omega)]
        rfl
      refine ⟨?_, ?_⟩
      · rw [e]
        exact hfits _
      · rw [e]
        have := hfits (f.getD (sp.toNatClampNeg + i) d)
        revert this
        generalize mk (f.getD (sp.toNatClampNeg + i) d) = vv
        intro hv
        cases vv <;> first | exact trivial | (exfalso; cases ty <;> first | (simp [refKind] at hprim; done) | (cases hv; done)))
    (g := F0 m pc real ((.int n :: .int dp :: .ref b :: .int sp :: .ref a :: t : List Value).map (mm_mv B b0))) rfl (by rw [hml]) (rest := t.map (mm_mv B b0)) rfl (by rw [hb]; exact hd) hfr hroom
  have e1 : copied (arrV (dA tag) f.length (fun j => mk (f.getD j d))) (arrV (dA tag) g.length (fun j => mk (g.getD j d))) sp dp n = arrV (dA tag) g.length (fun j => mk (va_cpy (fun j => f.getD j d) (fun j => g.getD j d) sp.toNatClampNeg dp.toNatClampNeg n.toNatClampNeg j)) := va_copied mk (dA tag) (dA tag) (fun j => f.getD j d) (fun j => g.getD j d) h4
  have e2 : arrV (dA tag) g.length (fun j => mk (va_cpy (fun j => f.getD j d) (fun j => g.getD j d) sp.toNatClampNeg dp.toNatClampNeg n.toNatClampNeg j)) = vp_cell (dA tag) (mm_ma B (wr (mm_cp f g sp.toNatClampNeg dp.toNatClampNeg n.toNatClampNeg))) := by
    rw [hwr, mm_cp_len h4 h5]
    congr 1
    funext j
    rw [mm_cp_get h4 h5]
  rw [e1, e2] at X' step
  generalize hv : vp_cell (dA tag) (mm_ma B (wr (mm_cp f g sp.toNatClampNeg dp.toNatClampNeg n.toNatClampNeg))) = newc at X' step
  have hl : B + b < H.size := (Array.getElem?_eq_some_iff.mp hc1).1
  have hheap : ((T.setVm vm').setCell (B + b) newc).heap = H.setIfInBounds (B + b) newc := by rw [← hT]; rfl
  have hS' := S.1.set hb' (e' := .inl (tag, wr (mm_cp f g sp.toNatClampNeg dp.toNatClampNeg n.toNatClampNeg))) (H1 := H.setIfInBounds (B + b) newc) (show (H.setIfInBounds (B + b) newc)[B + b]? = some (vp_cell _ _) by rw [← hv]; simp [Array.getElem?_setIfInBounds, hl]) (by simp) (fun q hq => by simp [Array.getElem?_setIfInBounds, Ne.symm hq])
  obtain ⟨tt, a1, b1⟩ := k _ _ ⟨hS', fun q hq => by
      rcases List.mem_append.mp hq with h | h
      · exact S.2.1 q h
      · obtain ⟨z, -, hz⟩ := List.mem_map.mp h
        rw [← hz]
        exact Nat.le_add_right B b, by rw [List.length_set]; exact S.2.2.1, by rw [mm_sz_set hb' (by simp [mm_cs, hal, mm_cp_len h4 h5])]; exact S.2.2.2⟩ _ hheap X'
  exact ⟨tt, step tt a1, b1⟩
end mmH
end
section
/-! THE MINI-MACHINE IS SOUND: a run of it is a run of the machine -/
def mm_Ctx (D : va_G) (dA : Nat → ClassId) (B : Nat) (b0 : mm_X) (H0 : Heap) (X : Option (List Int32)) (r : mm_R) (p : Program) (s : State) (m : MethodId) (args : Array Value) (meth : Method) (c : Code) : Prop :=
  p.tables.exec = Jvm.exec ∧ c.code = r.1.2.1 ∧ c.maxLocals = r.1.2.2.1 ∧ meth.sig.returnType = r.1.2.2.2.1 ∧ meth.locks = false ∧ (r.1.1.name = "<init>" → meth.name = "<init>") ∧ s.vm.findClass r.2.1 = some m.cls ∧ (∀ w ∈ mm_W, w.before args s = true) ∧ mm_GI D dA B b0 H0 X s
def mm_Good (r : mm_R) : Prop := (∀ pc i n, mm_at r pc = some (i, n) → decode r.1.2.1 pc = .ok (i, n)) ∧ mm_EOK r
/-- a method that can be called -/
def mm_GoodC (r : mm_R) : Prop := mm_Good r ∧ plainName r.1.1.cls = true ∧ (r.1.1.cls ≠ "java/lang/invoke/MethodHandle" ∧ r.1.1.cls ≠ "java/lang/invoke/VarHandle" ∧ (parseMethodDescriptor r.1.1.desc).map (fun d => d.parameters.length) = some r.1.2.2.2.2.1) ∧ r.1.2.2.1 ≤ 16 ∧ r.2.1 = r.1.1.cls ∧
  Cond.code r.1.1 r.1.2.1 r.1.2.2.1 r.1.2.2.2.1 ∈ mm_W ∧ Cond.initialized r.1.1.cls ∈ mm_W ∧ (r.1.2.2.2.2.2.1 = true → Cond.static r.1.1 ∈ mm_W) ∧ (r.1.2.2.2.2.2.1 = false → Cond.instanceMethod r.1.1 ∈ mm_W ∧ (¬ r.1.1.name = "<init>" → Cond.selects r.1.1.cls r.1.1 r.1.1 ∈ mm_W))
def mm_ws (r : mm_R) : List Cond := Cond.code r.1.1 r.1.2.1 r.1.2.2.1 r.1.2.2.2.1 :: mm_W
def mm_rm (Dp mc ms : Nat) : Room := { frames := Dp, cells := mc, slots := ms, locals := 35 * Dp }
def mm_Pc (D : va_G) (dA : Nat → ClassId) (B : Nat) (b0 : mm_X) (H0 : Heap) (X : Option (List Int32)) (as : List Value) (h : mm_H) : Array Value → State → Prop := fun a U => a = (as.map (mm_mv B b0)).toArray ∧ mm_Sim D dA B b0 H0 U.heap h ∧ mm_GI D dA B b0 H0 X U
def mm_Qc (D : va_G) (dA : Nat → ClassId) (B : Nat) (b0 : mm_X) (H0 : Heap) (v : Option Value) (h' : mm_H) : Array Value → State → Outcome → State → Prop := fun _ _ o t => o = .returned (v.map (mm_mv B b0)) ∧ mm_Sim D dA B b0 H0 t.heap h'
theorem mm_set2 {h : mm_H} {a : Nat} {e e' : mm_E} (ha : h[a]? = some e) (hc : mm_cs e' = mm_cs e) : h.length ≤ (h.set a e').length ∧ mm_sz h ≤ mm_sz (h.set a e') := ⟨by simp, Nat.le_of_eq (mm_sz_set ha hc).symm⟩
theorem mm_s9_mono {r : mm_R} {i : Instr} {st st' : List Value} {h h' : mm_H} (hs : mm_s9 r i st h = some (st', h')) : h.length ≤ h'.length ∧ mm_sz h ≤ mm_sz h' := by
  unfold mm_s9 at hs
  split at hs
  · split at hs
    · split at hs
      · next ci _ _ _ _ cj fs ha =>
        cases hcc : Nat.beq ci cj <;> rw [hcc] at hs
        · cases hs
        · simp only [cond_true] at hs
          split at hs
          · cases hs; exact ⟨Nat.le_refl _, Nat.le_refl _⟩
          · cases hs
      · cases hs
    · cases hs
  · next a t =>
    cases htx : mm_tx a <;> rw [htx] at hs
    · cases hs
    · simp only [cond_true] at hs
      split at hs
      · cases hs; exact ⟨Nat.le_refl _, Nat.le_refl _⟩
      · cases hs; exact ⟨Nat.le_refl _, Nat.le_refl _⟩
      · cases hs
  · split at hs
    · cases hs; exact ⟨Nat.le_refl _, Nat.le_refl _⟩
    · cases hs; exact ⟨Nat.le_refl _, Nat.le_refl _⟩
    · cases hs
  · split at hs
    · next fin ps hrk =>
      cases hf2 : Nat.ble 2 fin <;> rw [hf2] at hs
      · simp only [cond_false] at hs
        split at hs
        · next cj fs ha =>
          obtain ⟨h1, h2⟩ := mm_setB hs
          cases h2
          exact mm_set2 ha rfl
        · cases hs
      · cases hs
    · cases hs
  · cases hs
theorem mm_g2_mono {i : Instr} {st st' : List Value} {h h' : mm_H} (hs : mm_g2 i st h = some (st', h')) : h.length ≤ h'.length ∧ mm_sz h ≤ mm_sz h' := by
  unfold mm_g2 at hs
  split at hs
  all_goals first
    | (cases hs; done)
    | (split at hs
       all_goals first
         | (cases hs; done)
         | (next ha =>
            obtain ⟨h1, h2⟩ := mm_setB hs
            cases h2
            exact mm_set2 ha (by simp [mm_cs, mm_al]))
         | (next ha hv =>
            obtain ⟨h1, h2⟩ := mm_setB hs
            cases h2
            exact mm_set2 ha (by simp [mm_cs, mm_al])))
theorem mm_app2 {h g : mm_H} : h.length ≤ (h ++ g).length ∧ mm_sz h ≤ mm_sz (h ++ g) := ⟨by simp, by rw [mm_sz_app]; omega⟩
theorem mm_g3_mono {r : mm_R} {i : Instr} {n : Nat} {st st' : List Value} {h h' : mm_H} (hs : mm_g3 r i n st h = some (st', h')) : h.length ≤ h'.length ∧ mm_sz h ≤ mm_sz h' := by
  unfold mm_g3 at hs
  split at hs
  · split at hs
    · cases hs; exact mm_app2
    · cases hs
  · next nn t =>
    cases hnn : mm_nn nn <;> rw [hnn] at hs
    · cases hs
    · obtain ⟨e0, h1, h2⟩ := mm_map_s hs
      cases h2
      exact mm_app2
  · split at hs
    · obtain ⟨h1, h2⟩ := mm_setB hs
      cases h2
      exact mm_app2
    · cases hs
  · split at hs
    · obtain ⟨h1, h2⟩ := mm_setB hs
      cases h2
      rw [List.append_assoc]
      exact mm_app2
    · cases hs
  · cases hs
theorem mm_ac_mono {st st' : List Value} {h h' : mm_H} (hs : mm_ac st h = some (st', h')) : h.length ≤ h'.length ∧ mm_sz h ≤ mm_sz h' := by
  unfold mm_ac at hs
  split at hs
  · next n dp b sp a t =>
    cases hcc : (!decide (sp < 0) && !decide (dp < 0) && !decide (n < 0) && Nat.ble (mm_wt t) 8) <;> rw [hcc] at hs
    · cases hs
    · simp only [cond_true] at hs
      split at hs
      · next f g ha hb =>
        obtain ⟨h1, h2⟩ := mm_setB hs
        simp only [Bool.and_eq_true] at h1
        cases h2
        exact mm_set2 hb (by simp [mm_cs, mm_al, mm_cp_len (Nat.le_of_ble_eq_true h1.1) (Nat.le_of_ble_eq_true h1.2)])
      · next f g ha hb =>
        obtain ⟨h1, h2⟩ := mm_setB hs
        simp only [Bool.and_eq_true] at h1
        cases h2
        exact mm_set2 hb (by simp [mm_cs, mm_al, mm_cp_len (Nat.le_of_ble_eq_true h1.1) (Nat.le_of_ble_eq_true h1.2)])
      · cases hs
  · cases hs
theorem mm_mk_no {Dp : Nat} {r : mm_R} {as rest : List Value} {q : Nat × mm_L × List Value × mm_H} : ¬ mm_mk Dp r as rest = .inl (some q) := by
  unfold mm_mk
  cases (Nat.ble (mm_sl as).length r.1.2.2.1 && Nat.ble (mm_wt rest) 8) <;> exact fun h => by cases h
theorem mm_cl_no {Dp : Nat} {r : mm_R} {idx : Nat} {st : List Value} {want : Nat → Bool} {recv : Bool} {h : mm_H} {q : Nat × mm_L × List Value × mm_H} : ¬ mm_cl Dp r idx st want recv h = .inl (some q) := by
  intro hc
  unfold mm_cl at hc
  split at hc
  · next D0 k mj b x hk =>
    cases hw : want k <;> rw [hw] at hc
    · cases hc
    · simp only [cond_true] at hc
      split at hc
      · cases hc
      · split at hc
        · cases hc
        · cases recv
          · exact mm_mk_no hc
          · simp only [cond_true] at hc
            split at hc
            · split at hc
              · next cj fs ha =>
                cases hb : (Nat.beq k 1 && !Nat.beq cj b) <;> rw [hb] at hc
                · exact mm_mk_no hc
                · cases hc
              · cases hc
            · simp only [cond_eq_ite] at hc
              split at hc
              · exact mm_mk_no hc
              · cases hc
            · cases hc
  · cases hc
theorem mm_go_mono {X : Option (List Int32)} {r : mm_R} {Dp : Nat} {i : Instr} {n pc : Nat} {ls : mm_L} {st : List Value} {h : mm_H} {q : Nat × mm_L × List Value × mm_H} (hg : mm_go X r Dp i n pc ls st h = .inl (some q)) : h.length ≤ q.2.2.2.length ∧ mm_sz h ≤ mm_sz q.2.2.2 := by
  unfold mm_go at hg
  split at hg
  · obtain ⟨t, h1, rfl⟩ := mm_map_s (Sum.inl.inj hg); exact ⟨Nat.le_refl _, Nat.le_refl _⟩
  · split at hg
    · obtain ⟨t, h1, rfl⟩ := mm_map_s (Sum.inl.inj hg); exact ⟨Nat.le_refl _, Nat.le_refl _⟩
    · cases hg
  · split at hg
    · obtain ⟨t, h1, rfl⟩ := mm_map_s (Sum.inl.inj hg); exact ⟨Nat.le_refl _, Nat.le_refl _⟩
    · cases hg
  · split at hg
    · obtain ⟨t, h1, rfl⟩ := mm_map_s (Sum.inl.inj hg); exact ⟨Nat.le_refl _, Nat.le_refl _⟩
    · cases hg
  · split at hg
    · obtain ⟨t, h1, rfl⟩ := mm_map_s (Sum.inl.inj hg); exact ⟨Nat.le_refl _, Nat.le_refl _⟩
    · cases hg
  · obtain ⟨t, h1, rfl⟩ := mm_map_s (Sum.inl.inj hg); exact ⟨Nat.le_refl _, Nat.le_refl _⟩
  · obtain ⟨t, h1, rfl⟩ := mm_map_s (Sum.inl.inj hg); exact ⟨Nat.le_refl _, Nat.le_refl _⟩
  · obtain ⟨t, h1, rfl⟩ := mm_map_s (Sum.inl.inj hg); exact ⟨Nat.le_refl _, Nat.le_refl _⟩
  · split at hg
    · obtain ⟨t, h1, rfl⟩ := mm_map_s (Sum.inl.inj hg); exact mm_s9_mono h1
    · cases hg
  · split at hg
    · split at hg
      · cases hg; exact ⟨Nat.le_refl _, Nat.le_refl _⟩
      · obtain ⟨t, h1, rfl⟩ := mm_map_s (Sum.inl.inj hg); exact mm_g2_mono h1
    · cases hg
  · obtain ⟨t, h1, rfl⟩ := mm_map_s (Sum.inl.inj hg); exact mm_g3_mono h1
  · obtain ⟨t, h1, rfl⟩ := mm_map_s (Sum.inl.inj hg); exact ⟨Nat.le_refl _, Nat.le_refl _⟩
  · split at hg <;> cases hg
  · split at hg
    · unfold mm_iv at hg
      split at hg
      · exact absurd hg mm_cl_no
      · split at hg
        · next t _ _ =>
          cases hw : Nat.ble (mm_wt t) 8 <;> rw [hw] at hg <;> cases hg
          exact ⟨Nat.le_refl _, Nat.le_refl _⟩
        · exact absurd hg mm_cl_no
      · split at hg
        · obtain ⟨t, h1, rfl⟩ := mm_map_s (Sum.inl.inj hg); exact mm_ac_mono h1
        · exact absurd hg mm_cl_no
      · cases hg
    · cases hg
  · cases hg
theorem mm_s7_len {i : Instr} {n : Nat} {ls : mm_L} {st : List Value} {q : mm_L × List Value} (hs : mm_s7 i n ls st = some q) : q.1.length = ls.length := by
  unfold mm_s7 at hs
  split at hs
  all_goals first
    | (obtain ⟨ls', h1, rfl⟩ := mm_map_s hs
       obtain ⟨h2, h3, rfl⟩ := mm_sv_spec h1
       simp; done)
    | (split at hs
       · obtain ⟨ls', h1, rfl⟩ := mm_map_s hs
         obtain ⟨h2, h3, rfl⟩ := mm_sv_spec h1
         simp
       · cases hs)
    | cases hs
section mmI
variable {p : Program} {l : Launch} {e : Env} {R : Room} {s : State} {m : MethodId} {args : Array Value} {below : List Frame} {meth : Method} {c : Code} {H : Heap} {locs : List Loc} {cells slots : Nat} {Q : State → Prop}
variable {pc n : Nat} {real : Array Slot} {D : va_G} {dA : Nat → ClassId} {B n0 s0 : Nat} {b0 : mm_X} {H0 : Heap} {X : Option (List Int32)} {i : Instr} {st st' : List Value} {h h' : mm_H} {r : mm_R} {ls ls' : mm_L} {Dp pc' : Nat}
/-- one step within a frame -/
theorem mm_step_ok (hr : mm_Good r) (C : mm_Ctx D dA B b0 H0 X r p s m args meth c) (hat : mm_at r pc = some (i, n)) (hgo : mm_go X r Dp i n pc ls st h = .inl (some (pc', ls', st', h'))) (hfr : Dp ≤ R.frames) (hlo : 35 * Dp ≤ R.locals)
    (S : mm_CF D dA B b0 H0 n0 s0 H locs cells slots h) (hl : mm_LR B b0 real ls) (hls : ls.length = r.1.2.2.1) (hc1 : h'.length ≤ n0 + R.cells) (hc2 : mm_sz h' ≤ s0 + R.slots)
    (k : ∀ H' locs' cells' slots' real', mm_CF D dA B b0 H0 n0 s0 H' locs' cells' slots' h' → mm_LR B b0 real' ls' → ls'.length = r.1.2.2.1 → W p l e R s m args below meth c H' locs' cells' slots' Q (F0 m pc' real' (st'.map (mm_mv B b0)))) :
    W p l e R s m args below meth c H locs cells slots Q (F0 m pc real (st.map (mm_mv B b0))) := by
  obtain ⟨hx, hb, hml, hret, hlocks, hnm, hown, hts, hG⟩ := C
  have hd := hr.1 _ _ _ hat
  unfold mm_go at hgo
  split at hgo
  · obtain ⟨t, h1, h2⟩ := mm_map_s (Sum.inl.inj hgo)
    cases h2
    exact mm_ok1 hx hb hd h1 (k _ _ _ _ _ S hl hls)
  · split at hgo
    · obtain ⟨t, h1, h2⟩ := mm_map_s (Sum.inl.inj hgo)
      cases h2
      exact mm_ok2 hx hb hd h1 (k _ _ _ _ _ S hl hls)
    · cases hgo
  · split at hgo
    · obtain ⟨t, h1, h2⟩ := mm_map_s (Sum.inl.inj hgo)
      cases h2
      exact mm_ok3 hx hb hd h1 (k _ _ _ _ _ S hl hls)
    · cases hgo
  · split at hgo
    · obtain ⟨t, h1, h2⟩ := mm_map_s (Sum.inl.inj hgo)
      cases h2
      exact mm_ok4 hx hb hd h1 (k _ _ _ _ _ S hl hls)
    · cases hgo
  · split at hgo
    · obtain ⟨t, h1, h2⟩ := mm_map_s (Sum.inl.inj hgo)
      cases h2
      exact mm_ok5 hx hb hd h1 (k _ _ _ _ _ S hl hls)
    · cases hgo
  · obtain ⟨t, h1, h2⟩ := mm_map_s (Sum.inl.inj hgo)
    cases h2
    exact mm_ok6 hx hb hd hl h1 (k _ _ _ _ _ S hl hls)
  · obtain ⟨q, h1, h2⟩ := mm_map_s (Sum.inl.inj hgo)
    cases h2
    exact mm_ok7 hx hb hd hl h1 (fun real' hl' => k _ _ _ _ _ S hl' ((mm_s7_len h1).trans hls))
  · obtain ⟨q, h1, h2⟩ := mm_map_s (Sum.inl.inj hgo)
    cases h2
    exact mm_ok8 hx hb hd h1 (k _ _ _ _ _ S hl hls)
  · split at hgo
    · obtain ⟨q, h1, h2⟩ := mm_map_s (Sum.inl.inj hgo)
      cases h2
      exact mm_ok9 hx hb hr.2 hown hnm hts hG hd S h1 (fun H' locs' S' => k _ _ _ _ _ S' hl hls)
    · cases hgo
  · split at hgo
    · split at hgo
      · next t h1 =>
        cases hgo
        exact mm_ok10 hx hb hG hd S h1 (k _ _ _ _ _ S hl hls)
      · obtain ⟨q, h1, h2⟩ := mm_map_s (Sum.inl.inj hgo)
        cases h2
        exact mm_ok11 hx hb hG hd S h1 (fun H' locs' S' => k _ _ _ _ _ S' hl hls)
    · cases hgo
  · obtain ⟨q, h1, h2⟩ := mm_map_s (Sum.inl.inj hgo)
    cases h2
    exact mm_ok13 hx hb hr.2 hts hG hown hd S h1 hc1 hc2 (fun H' locs' cells' slots' S' => k _ _ _ _ _ S' hl hls)
  · obtain ⟨q, h1, h2⟩ := mm_map_s (Sum.inl.inj hgo)
    cases h2
    exact mm_ok12 hx hb hr.2 hG hown hts hd h1 (k _ _ _ _ _ S hl hls)
  · split at hgo <;> cases hgo
  · split at hgo
    · unfold mm_iv at hgo
      split at hgo
      · exact absurd hgo mm_cl_no
      · split at hgo
        · next i0 x0 a t D0 hrk =>
          cases hw : Nat.ble (mm_wt t) 8 <;> rw [hw] at hgo <;> cases hgo
          obtain ⟨he1, he2⟩ := mm_rk_s hrk
          have hek := hr.2 _ he1
          simp only at he2
          subst he2
          have hw3 := mm_W_has hek (by simp [goodWord, Cond.onTables, Cond.keeps, Cond.steady])
          have hwt := Nat.le_of_ble_eq_true hw
          refine W.objInit hx hb hown (hts (.methodLink r.2.1 i0 objectInit) (hw3 _ (by simp))) (hts (.instanceMethod objectInit) (hw3 _ (by simp))) (hts (.code objectInit ⟨#[0xb1]⟩ 1 none) (hw3 _ (by simp))) rfl (by rw [hml, ← hls]; exact hl.1) rfl hd (by omega) ?_ (k _ _ _ _ _ S hl hls)
          show 2 * 0 + ((List.map (mm_mv B b0) _).map fun v => v.category).sum + 12 ≤ R.locals
          rw [mm_wt_s]
          omega
        · exact absurd hgo mm_cl_no
      · split at hgo
        · next i0 x0 D0 hrk =>
          obtain ⟨he1, he2⟩ := mm_rk_s hrk
          have hek := hr.2 _ he1
          simp only at he2
          subst he2
          obtain ⟨q, h1, h2⟩ := mm_map_s (Sum.inl.inj hgo)
          cases h2
          unfold mm_ac at h1
          split at h1
          · next n dp b sp a t =>
            cases hcc : (!decide (sp < 0) && !decide (dp < 0) && !decide (n < 0) && Nat.ble (mm_wt t) 8) <;> rw [hcc] at h1
            · cases h1
            · simp only [Bool.and_eq_true, Bool.not_eq_true', decide_eq_false_iff_not] at hcc
              obtain ⟨⟨⟨c1, c2⟩, c3⟩, c4⟩ := hcc
              simp only [cond_true] at h1
              split at h1
              · next f g ha hbb =>
                obtain ⟨b1, b2⟩ := mm_setB h1
                simp only [Bool.and_eq_true] at b1
                cases b2
                exact mm_acG (r := r) (tag := 0) (ty := .int) (wr := fun x => .inl x) (fun z => .int z) 0 (fun x => vp_cell_i _ _ _) (fun x => rfl) hx hb (by rw [hml, ← hls]; exact hl.1.symm) hown hts hG hek hd S rfl (by decide) (fun x => rfl) ha hbb c1 c2 c3 (Nat.le_of_ble_eq_true b1.1) (Nat.le_of_ble_eq_true b1.2) (Nat.le_of_ble_eq_true c4) (by omega) (by omega) (fun H' locs' S' => k _ _ _ _ _ S' hl hls)
              · next f g ha hbb =>
                obtain ⟨b1, b2⟩ := mm_setB h1
                simp only [Bool.and_eq_true] at b1
                cases b2
                exact mm_acG (r := r) (tag := 1) (ty := .long) (wr := fun x => .inr (.inl x)) (fun z => .long z) 0 (fun x => vp_cell_l _ _ _) (fun x => rfl) hx hb (by rw [hml, ← hls]; exact hl.1.symm) hown hts hG hek hd S rfl (by decide) (fun x => rfl) ha hbb c1 c2 c3 (Nat.le_of_ble_eq_true b1.1) (Nat.le_of_ble_eq_true b1.2) (Nat.le_of_ble_eq_true c4) (by omega) (by omega) (fun H' locs' S' => k _ _ _ _ _ S' hl hls)
              · cases h1
          · cases h1
        · exact absurd hgo mm_cl_no
      · cases hgo
    · cases hgo
  · cases hgo
end mmI
end
section
/-! a run, with calls -/
theorem mm_mk_call {Dp Dq : Nat} {r r' : mm_R} {as rest as' rest' : List Value} (h : mm_mk Dp r as rest = .inr (.inr (Dq, r', as', rest'))) : Dq = Dp ∧ r' = r ∧ as' = as ∧ rest' = rest ∧ (mm_sl as).length ≤ r.1.2.2.1 ∧ mm_wt rest ≤ 8 := by
  unfold mm_mk at h
  cases hb : (Nat.ble (mm_sl as).length r.1.2.2.1 && Nat.ble (mm_wt rest) 8) <;> rw [hb] at h <;> cases h
  simp only [Bool.and_eq_true] at hb
  exact ⟨rfl, rfl, rfl, rfl, Nat.le_of_ble_eq_true hb.1, Nat.le_of_ble_eq_true hb.2⟩
theorem mm_mk_ret {Dp : Nat} {r : mm_R} {as rest : List Value} {v : Option Value} : ¬ mm_mk Dp r as rest = .inr (.inl v) := by
  unfold mm_mk
  cases (Nat.ble (mm_sl as).length r.1.2.2.1 && Nat.ble (mm_wt rest) 8) <;> exact fun h => by cases h
/-- what a call is -/
def mm_Call (r : mm_R) (idx : Nat) (st : List Value) (want : Nat → Bool) (recv : Bool) (h : mm_H) (Dp Dq : Nat) (r' : mm_R) (as rest : List Value) : Prop :=
  ∃ (k mj b : Nat) (v : Int) (ps : List (Nat × Nat)), (idx, k, mj, b, v, ps) ∈ r.2.2.2 ∧ want k = true ∧ mm_rs[mj]? = some r' ∧ Dp = Dq + 1 ∧ (mm_sl as).length ≤ r'.1.2.2.1 ∧ mm_wt rest ≤ 8 ∧
    ((recv = true ∧ ∃ (a : Nat) (xs : List Value) (cj : Nat) (fs : List Value), as = .ref a :: xs ∧ st = xs.reverse ++ .ref a :: rest ∧ xs.length = r'.1.2.2.2.2.1 ∧ h[a]? = some (.inr (cj, fs)) ∧ (k = 1 → cj = b)) ∨ (recv = true ∧ ∃ (a : Nat) (xs : List Value), as = .retAddr a :: xs ∧ st = xs.reverse ++ .retAddr a :: rest ∧ xs.length = r'.1.2.2.2.2.1 ∧ mm_tx a = true ∧ k = 1 ∧ b = 1000) ∨ (recv = false ∧ st = as.reverse ++ rest ∧ as.length = r'.1.2.2.2.2.1))
theorem mm_cl_call {Dp Dq : Nat} {r r' : mm_R} {idx : Nat} {st as rest : List Value} {want : Nat → Bool} {recv : Bool} {h : mm_H} (hc : mm_cl Dp r idx st want recv h = .inr (.inr (Dq, r', as, rest))) : mm_Call r idx st want recv h Dp Dq r' as rest := by
  unfold mm_cl at hc
  split at hc
  · next D0 i0 k mj b x hrk =>
    obtain ⟨he1, he2⟩ := mm_rk_s hrk
    simp only at he2
    subst he2
    obtain ⟨v, ps⟩ := x
    cases hw : want k <;> rw [hw] at hc
    · cases hc
    · simp only [cond_true] at hc
      split at hc
      · cases hc
      · next r0 hr0 =>
        split at hc
        · cases hc
        · next as0 rest0 htk =>
          obtain ⟨xs, t1, t2, t3⟩ := mm_tk_s htk
          rw [List.append_nil] at t3
          cases recv
          · obtain ⟨rfl, rfl, rfl, rfl, m1, m2⟩ := mm_mk_call hc
            exact ⟨k, mj, b, v, ps, he1, hw, hr0, rfl, m1, m2, Or.inr (Or.inr ⟨rfl, by rw [t3, List.reverse_reverse]; exact t1, by rw [t3, List.length_reverse]; exact t2⟩)⟩
          · simp only [cond_true] at hc
            split at hc
            · next a rest1 =>
              split at hc
              · next cj fs ha =>
                cases hb : (Nat.beq k 1 && !Nat.beq cj b) <;> rw [hb] at hc
                · obtain ⟨rfl, rfl, rfl, rfl, m1, m2⟩ := mm_mk_call hc
                  refine ⟨k, mj, b, v, ps, he1, hw, hr0, rfl, m1, m2, Or.inl ⟨rfl, a, as0, cj, fs, rfl, by rw [t3, List.reverse_reverse]; exact t1, by rw [t3, List.length_reverse]; exact t2, ha, fun hk => ?_⟩⟩
                  subst hk
                  cases hcb : Nat.beq cj b
                  · rw [hcb] at hb; cases hb
                  · exact Nat.eq_of_beq_eq_true hcb
                · cases hc
              · cases hc
            · next a rest1 =>
              cases hb : (mm_tx a && Nat.beq k 1 && Nat.beq b 1000) <;> rw [hb] at hc
              · cases hc
              · simp only [Bool.and_eq_true] at hb
                obtain ⟨rfl, rfl, rfl, rfl, m1, m2⟩ := mm_mk_call hc
                exact ⟨k, mj, b, v, ps, he1, hw, hr0, rfl, m1, m2, Or.inr (Or.inl ⟨rfl, a, as0, rfl, by rw [t3, List.reverse_reverse]; exact t1, by rw [t3, List.length_reverse]; exact t2, hb.1.1, Nat.eq_of_beq_eq_true hb.1.2, Nat.eq_of_beq_eq_true hb.2⟩)⟩
            · cases hc
  · cases hc
theorem mm_cl_ret {Dp : Nat} {r : mm_R} {idx : Nat} {st : List Value} {want : Nat → Bool} {recv : Bool} {h : mm_H} {v : Option Value} : ¬ mm_cl Dp r idx st want recv h = .inr (.inl v) := by
  intro hc
  unfold mm_cl at hc
  split at hc
  · next D0 k mj b x hk =>
    cases hw : want k <;> rw [hw] at hc
    · cases hc
    · simp only [cond_true] at hc
      split at hc
      · cases hc
      · split at hc
        · cases hc
        · cases recv
          · exact mm_mk_ret hc
          · simp only [cond_true] at hc
            split at hc
            · split at hc
              · next cj fs ha =>
                cases hb : (Nat.beq k 1 && !Nat.beq cj b) <;> rw [hb] at hc
                · exact mm_mk_ret hc
                · cases hc
              · cases hc
            · simp only [cond_eq_ite] at hc
              split at hc
              · exact mm_mk_ret hc
              · cases hc
            · cases hc
  · cases hc
theorem mm_go_ret {X : Option (List Int32)} {r : mm_R} {Dp : Nat} {i : Instr} {n pc : Nat} {ls : mm_L} {st : List Value} {h : mm_H} {v : Option Value} (hg : mm_go X r Dp i n pc ls st h = .inr (.inl v)) : n = 1 ∧ mm_rt r.1.2.2.2.1 i st = some v := by
  unfold mm_go at hg
  split at hg
  · cases hg
  · split at hg <;> cases hg
  · split at hg <;> cases hg
  · split at hg <;> cases hg
  · split at hg <;> cases hg
  · cases hg
  · cases hg
  · cases hg
  · split at hg <;> cases hg
  · split at hg
    · split at hg <;> cases hg
    · cases hg
  · cases hg
  · cases hg
  · split at hg
    · next h1 => cases hg; exact ⟨rfl, h1⟩
    · cases hg
  · split at hg
    · unfold mm_iv at hg
      split at hg
      · exact absurd hg mm_cl_ret
      · split at hg
        · next t _ _ => cases hw : Nat.ble (mm_wt t) 8 <;> rw [hw] at hg <;> cases hg
        · exact absurd hg mm_cl_ret
      · split at hg
        · cases hg
        · exact absurd hg mm_cl_ret
      · cases hg
    · cases hg
  · cases hg
theorem mm_go_call {X : Option (List Int32)} {r r' : mm_R} {Dp Dq : Nat} {i : Instr} {n pc : Nat} {ls : mm_L} {st as rest : List Value} {h : mm_H} (hg : mm_go X r Dp i n pc ls st h = .inr (.inr (Dq, r', as, rest))) :
    n = 3 ∧ ∃ idx, (i = .invokevirtual idx ∧ mm_Call r idx st (fun k => Nat.beq k 1) true h Dp Dq r' as rest) ∨ (i = .invokespecial idx ∧ mm_Call r idx st (fun k => Nat.beq k 3 || Nat.beq k 4) true h Dp Dq r' as rest) ∨ (i = .invokestatic idx ∧ mm_Call r idx st (fun k => Nat.beq k 2 || Nat.beq k 5) false h Dp Dq r' as rest) := by
  unfold mm_go at hg
  split at hg
  · cases hg
  · split at hg <;> cases hg
  · split at hg <;> cases hg
  · split at hg <;> cases hg
  · split at hg <;> cases hg
  · cases hg
  · cases hg
  · cases hg
  · split at hg <;> cases hg
  · split at hg
    · split at hg <;> cases hg
    · cases hg
  · cases hg
  · cases hg
  · split at hg <;> cases hg
  · split at hg
    · refine ⟨rfl, ?_⟩
      unfold mm_iv at hg
      split at hg
      · exact ⟨_, Or.inl ⟨rfl, mm_cl_call hg⟩⟩
      · split at hg
        · next t _ _ => cases hw : Nat.ble (mm_wt t) 8 <;> rw [hw] at hg <;> cases hg
        · exact ⟨_, Or.inr (Or.inl ⟨rfl, mm_cl_call hg⟩)⟩
      · split at hg
        · cases hg
        · exact ⟨_, Or.inr (Or.inr ⟨rfl, mm_cl_call hg⟩)⟩
      · cases hg
    · cases hg
  · cases hg
theorem mm_x_mono {X : Option (List Int32)} : ∀ (f Dp : Nat) (r : mm_R) (pc : Nat) (ls : mm_L) (st : List Value) (h : mm_H) (v : Option Value) (h' : mm_H), mm_x X f Dp r pc ls st h = some (v, h') → h.length ≤ h'.length ∧ mm_sz h ≤ mm_sz h'
  | 0, _, _, _, _, _, _, _, _, hx => by cases hx
  | f + 1, Dp, r, pc, ls, st, h, v, h', hx => by
    unfold mm_x at hx
    split at hx
    · cases hx
    · split at hx
      · cases hx
      · next hg =>
        have h1 := mm_go_mono hg
        have h2 := mm_x_mono f _ _ _ _ _ _ _ _ hx
        exact ⟨Nat.le_trans h1.1 h2.1, Nat.le_trans h1.2 h2.2⟩
      · cases hx; exact ⟨Nat.le_refl _, Nat.le_refl _⟩
      · split at hx
        · cases hx
        · next hc =>
          have h1 := mm_x_mono f _ _ _ _ _ _ _ _ hc
          have h2 := mm_x_mono f _ _ _ _ _ _ _ _ hx
          exact ⟨Nat.le_trans h1.1 h2.1, Nat.le_trans h1.2 h2.2⟩
-- the entry
def mm_sv2 (B : Nat) (b0 : mm_X) (o : Option Value) : Slot := match o with
  | some v => .val (mm_mv B b0 v)
  | none => .second
theorem mm_sl_lg (B : Nat) (b0 : mm_X) (as : List Value) : lg_sl (as.map (mm_mv B b0)) = (mm_sl as).map (mm_sv2 B b0) := by
  induction as with
  | nil => rfl
  | cons v t ih =>
    have e1 : lg_sl ((v :: t).map (mm_mv B b0)) = (if (mm_mv B b0 v).category = 2 then [Slot.val (mm_mv B b0 v), .second] else [.val (mm_mv B b0 v)]) ++ lg_sl (t.map (mm_mv B b0)) := by simp [lg_sl]
    have e2 : mm_sl (v :: t) = bif mm_c1 v then some v :: mm_sl t else some v :: none :: mm_sl t := rfl
    rw [e1, ih, mm_mv_cat, e2]
    cases hc : mm_c1 v
    · rw [mm_c1_cat' hc]; rfl
    · rw [mm_c1_cat hc]; rfl
theorem mm_ent_LR (B : Nat) (b0 : mm_X) (r : mm_R) (as : List Value) (hl : (mm_sl as).length ≤ r.1.2.2.1) : mm_LR B b0 ((lg_sl (as.map (mm_mv B b0)) ++ List.replicate (r.1.2.2.1 - (lg_sl (as.map (mm_mv B b0))).length) Slot.unset).toArray) (mm_en r as) ∧ (mm_en r as).length = r.1.2.2.1 := by
  have e1 : (lg_sl (as.map (mm_mv B b0))).length = (mm_sl as).length := by rw [mm_sl_lg, List.length_map]
  have hh := lv_entry (as.map (mm_mv B b0)) (n := r.1.2.2.1) (by rw [e1]; exact hl)
  have e2 : (mm_en r as).length = r.1.2.2.1 := by
    unfold mm_en
    simp
    omega
  refine ⟨⟨by rw [hh.1, e2], hh.2.1, fun i v hi => ?_⟩, e2⟩
  unfold mm_en at hi
  by_cases hc : i < (mm_sl as).length
  · rw [List.getElem?_append_left hc] at hi
    rw [List.getElem?_toArray, List.getElem?_append_left (by rw [e1]; exact hc), mm_sl_lg, List.getElem?_map, hi]
    rfl
  · rw [List.getElem?_append_right (by omega), List.getElem?_replicate] at hi
    split at hi <;> cases hi
section mmJ
variable {l : Launch} {D : va_G} {dA : Nat → ClassId} {B : Nat} {b0 : mm_X} {H0 : Heap} {X : Option (List Int32)}
/-- what a run of the mini-machine from a place gives of the machine -/
def mm_OK (l : Launch) (D : va_G) (dA : Nat → ClassId) (B : Nat) (b0 : mm_X) (H0 : Heap) (X : Option (List Int32)) (Dp : Nat) (r : mm_R) (pc : Nat) (ls : mm_L) (st : List Value) (h : mm_H) (v : Option Value) (h' : mm_H) : Prop :=
  ∀ (p : Program) (e : Env) (R : Room) (s : State) (m : MethodId) (args : Array Value) (below : List Frame) (meth : Method) (c : Code) (Q : State → Prop) (n0 s0 : Nat) (H : Heap) (locs : List Loc) (cells slots : Nat) (real : Array Slot),
    mm_Ctx D dA B b0 H0 X r p s m args meth c → Dp ≤ R.frames → 35 * Dp ≤ R.locals → mm_CF D dA B b0 H0 n0 s0 H locs cells slots h → mm_LR B b0 real ls → ls.length = r.1.2.2.1 → h'.length ≤ n0 + R.cells → mm_sz h' ≤ s0 + R.slots →
    (∀ H' locs' cells' slots' real' pc' i stk, mm_at r pc' = some (i, 1) → mm_rt r.1.2.2.2.1 i stk = some v → mm_CF D dA B b0 H0 n0 s0 H' locs' cells' slots' h' → W p l e R s m args below meth c H' locs' cells' slots' Q (F0 m pc' real' (stk.map (mm_mv B b0)))) →
    W p l e R s m args below meth c H locs cells slots Q (F0 m pc real (st.map (mm_mv B b0)))
theorem mm_met {Dp : Nat} {r : mm_R} {as : List Value} {h h' : mm_H} {v : Option Value} (hg : mm_GoodC r) (hl : (mm_sl as).length ≤ r.1.2.2.1) (hm : h.length ≤ h'.length ∧ mm_sz h ≤ mm_sz h') (ih : mm_OK l D dA B b0 H0 X Dp r 0 (mm_en r as) [] h v h') :
    Met l r.1.1 (mm_ws r) (mm_rm Dp (h'.length - h.length) (mm_sz h' - mm_sz h)) (mm_Pc D dA B b0 H0 X as h) (mm_Qc D dA B b0 H0 v h') (h'.length - h.length) (mm_sz h' - mm_sz h) (fun q => B ≤ q) := by
  obtain ⟨hgood, hplain, hmh, h16, hown, hcode, hini, hstat, hinst⟩ := hg
  refine Met.ofW (cc := r.1.2.1) (maxL := r.1.2.2.1) (ret := r.1.2.2.2.1) hplain rfl ?_
  intro p e s m args below meth c s₁ Bd hml hv
  obtain ⟨rfl, hSim, hGI⟩ := hv
  have hts := atoms_spec (ws := mm_ws r) Bd.pre
  have C : mm_Ctx D dA B b0 H0 X r p s m (as.map (mm_mv B b0)).toArray meth c := ⟨Bd.exec, Bd.bytes, hml, Bd.returns, Bd.notSynchronized, fun hi => (name_of_methodNamed Bd.named Bd.method).1.trans hi, by rw [hown]; exact findClass_of_methodNamed Bd.named, fun w hw => hts w (List.mem_cons_of_mem _ hw), hGI⟩
  obtain ⟨hLR, hlen⟩ := mm_ent_LR B b0 r as hl
  rw [lg_entry_eq]
  refine ih p e _ s m _ below meth c _ h.length (mm_sz h) s.heap [] 0 0 _ C (Nat.le_refl Dp) (Nat.le_refl (35 * Dp)) ⟨hSim, fun q hq => (by cases hq), rfl, rfl⟩ hLR hlen (by show _ ≤ _ + (h'.length - h.length); omega) (by show _ ≤ _ + (mm_sz h' - mm_sz h); omega) ?_
  intro H' locs' cells' slots' real' pc' i stk hat hrt S
  have hd := hgood.1 _ _ _ hat
  have e1 : cells' = h'.length - h.length := by have := S.2.2.1; omega
  have e2 : slots' = mm_sz h' - mm_sz h := by have := S.2.2.2; omega
  subst e1 e2
  have hx := Bd.exec
  have hb := Bd.bytes
  have hr := Bd.returns
  have hlocks := Bd.notSynchronized
  unfold mm_rt at hrt
  split at hrt
  · next he => cases hrt; exact W.iret hx hb (by rw [hr]; exact he) (fun t ht _ => ⟨rfl, by rw [ht]; exact S.1⟩) S.2.1 hd
  · next x he =>
    obtain ⟨h1, h2⟩ := mm_setB hrt
    cases h2
    refine W.zret (ty := .boolean) hx hb (by rw [hr]; exact he) ?_ (fun t ht _ => ⟨rfl, by rw [ht]; exact S.1⟩) S.2.1 hd
    simp only [Bool.or_eq_true, decide_eq_true_eq] at h1
    rcases h1 with rfl | rfl
    · decide +kernel
    · decide +kernel
  · next x he =>
    obtain ⟨h1, h2⟩ := mm_setB hrt
    cases h2
    exact W.zret (ty := .byte) hx hb (by rw [hr]; exact he) (by show Value.int _ = _; rw [of_decide_eq_true h1]) (fun t ht _ => ⟨rfl, by rw [ht]; exact S.1⟩) S.2.1 hd
  · next x he =>
    obtain ⟨h1, h2⟩ := mm_setB hrt
    cases h2
    exact W.zret (ty := .char) hx hb (by rw [hr]; exact he) (by show Value.int _ = _; rw [of_decide_eq_true h1]) (fun t ht _ => ⟨rfl, by rw [ht]; exact S.1⟩) S.2.1 hd
  · next he => cases hrt; exact W.vret hx hb (by rw [hr]; exact he) (fun t ht _ => ⟨rfl, by rw [ht]; exact S.1⟩) S.2.1 hd
  · cases hrt
theorem mm_blind {as : List Value} {h : mm_H} : FrameBlind (mm_Pc D dA B b0 H0 X as h) := fun a U g mk hq => ⟨hq.1, hq.2.1, hq.2.2.same rfl⟩
theorem mm_goodIn {r : mm_R} (hg : mm_GoodC r) : GoodIn mm_W (mm_ws r) := fun w hw => (List.mem_cons.mp hw).elim (fun e => e ▸ ⟨hg.2.2.2.2.2.1, mm_W_good hg.2.2.2.2.2.1⟩) (fun h => ⟨h, mm_W_good h⟩)
/-- behind a call -/
theorem mm_after {p : Program} {e : Env} {R : Room} {s : State} {m : MethodId} {args : Array Value} {below : List Frame} {meth : Method} {c : Code} {H : Heap} {locs : List Loc} {cells slots : Nat} {Q : State → Prop} {pc n0 s0 : Nat} {real : Array Slot} {h h' : mm_H} {v : Option Value} {rest st : List Value} {a : Array Value}
    (S : mm_CF D dA B b0 H0 n0 s0 H locs cells slots h) (hm : h.length ≤ h'.length ∧ mm_sz h ≤ mm_sz h')
    (hr : va_Run p l e R s m args below meth c H locs cells slots (h'.length - h.length) (mm_sz h' - mm_sz h) (F0 m pc real st) (rest.map (mm_mv B b0)) (mm_Qc D dA B b0 H0 v h' a) (fun q => B ≤ q))
    (k : ∀ H' locs' cells' slots', mm_CF D dA B b0 H0 n0 s0 H' locs' cells' slots' h' → W p l e R s m args below meth c H' locs' cells' slots' Q (F0 m (pc + 3) real ((v.toList ++ rest).map (mm_mv B b0)))) :
    W p l e R s m args below meth c H locs cells slots Q (F0 m pc real st) := by
  intro T hT Xs
  obtain ⟨v', st₀, t, T', L, h0, X', hL, e1, e2, ⟨hv, hSim⟩, stp⟩ := hr T hT Xs
  cases hv
  obtain ⟨tt, a1, b1⟩ := k T'.heap (locs ++ L) _ _ ⟨by rw [e1]; exact hSim, fun q hq => (List.mem_append.mp hq).elim (S.2.1 q) (hL q), by have := S.2.2.1; omega, by have := S.2.2.2; omega⟩ T' rfl X'
  refine ⟨tt, stp tt ?_, b1⟩
  have e3 : (v.toList ++ rest).map (mm_mv B b0) = (v.map (mm_mv B b0)).toList ++ rest.map (mm_mv B b0) := by cases v <;> simp
  rw [e3] at a1
  exact a1
end mmJ
end
section
/-! the runs -/
section mmK
variable {l : Launch} {D : va_G} {dA : Nat → ClassId} {B : Nat} {b0 : mm_X} {H0 : Heap} {X : Option (List Int32)}
theorem mm_run (hall : ∀ (mj : Nat) (r' : mm_R), mm_rs[mj]? = some r' → mm_GoodC r') : ∀ (f Dp : Nat) (r : mm_R) (pc : Nat) (ls : mm_L) (st : List Value) (h : mm_H) (v : Option Value) (h' : mm_H), mm_Good r → mm_x X f Dp r pc ls st h = some (v, h') → mm_OK l D dA B b0 H0 X Dp r pc ls st h v h'
  | 0, _, _, _, _, _, _, _, _, _, hx => by cases hx
  | f + 1, Dp, r, pc, ls, st, h, v, h', hg, hx => by
    unfold mm_x at hx
    split at hx
    · cases hx
    · next i n hat =>
      split at hx
      · cases hx
      · next pc' ls' st' h1 hgo =>
        intro p e R s m args below meth c Q n0 s0 H locs cells slots real C hfr hlo S hl hls hc1 hc2 K
        have hmono := mm_x_mono f _ _ _ _ _ _ _ _ hx
        exact mm_step_ok hg C hat hgo hfr hlo S hl hls (by omega) (by omega) (fun H' locs' cells' slots' real' S' hl' hls' => mm_run hall f Dp r pc' ls' st' h1 v h' hg hx p e R s m args below meth c Q n0 s0 H' locs' cells' slots' real' C hfr hlo S' hl' hls' hc1 hc2 K)
      · next v0 hgo =>
        cases hx
        obtain ⟨rfl, hrt⟩ := mm_go_ret hgo
        intro p e R s m args below meth c Q n0 s0 H locs cells slots real C hfr hlo S hl hls hc1 hc2 K
        exact K _ _ _ _ _ _ _ _ hat hrt S
      · next Dq r' as rest hgo =>
        split at hx
        · cases hx
        · next v1 h1 hc =>
          intro p e R s m args below meth c Q n0 s0 H locs cells slots real C hfr hlo S hl hls hc1 hc2 K
          obtain ⟨rfl, idx, hcase⟩ := mm_go_call hgo
          have hmono1 := mm_x_mono f _ _ _ _ _ _ _ _ hc
          have hmono2 := mm_x_mono f _ _ _ _ _ _ _ _ hx
          have hS1 := S.2.2.1
          have hS2 := S.2.2.2
          have hf : cells + (h1.length - h.length) ≤ R.cells ∧ slots + (mm_sz h1 - mm_sz h) ≤ R.slots := ⟨by omega, by omega⟩
          have hnext := fun H' locs' cells' slots' (S' : mm_CF D dA B b0 H0 n0 s0 H' locs' cells' slots' h1) => mm_run hall f Dp r (pc + 3) ls (v1.toList ++ rest) h1 v h' hg hx p e R s m args below meth c Q n0 s0 H' locs' cells' slots' real C hfr hlo S' hl hls hc1 hc2 K
          obtain ⟨hxx, hb, hml, hret, hlocks, hnm, hown, hts, hG⟩ := C
          have hd := hg.1 _ _ _ hat
          have hfix : CallFix p m c r.1.2.1 r.1.2.2.1 s args mm_W r.2.1 := ⟨hxx, hb, hml, hown, hts⟩
          have hsize : real.size = r.1.2.2.1 := by rw [← hls]; exact hl.1
          have hPc : ∀ (as' : List Value) (U : State), U.heap = H → s.WarmedH U.vm → mm_Pc D dA B b0 H0 X as' h (as'.map (mm_mv B b0)).toArray U := fun as' U hU hW => ⟨rfl, by rw [hU]; exact S.1, hG.warm hW⟩
          rcases hcase with ⟨rfl, hcall⟩ | ⟨rfl, hcall⟩ | ⟨rfl, hcall⟩
          · obtain ⟨k, mj, b, vv, ps, hmem, hwant, hr0, hDp, m1, m2, hargs⟩ := hcall
            have hgC := hall mj r' hr0
            have hM := mm_met (l := l) (D := D) (dA := dA) (B := B) (b0 := b0) (H0 := H0) (X := X) hgC m1 hmono1 (mm_run hall f Dq r' 0 (mm_en r' as) [] h v1 h1 hgC.1 hc)
            have hk := Nat.eq_of_beq_eq_true hwant
            subst hk
            have hek : mm_e1 r idx mj b ps = true := hg.2 _ hmem
            unfold mm_e1 at hek
            rw [hr0] at hek
            rcases hargs with ⟨-, a, xs, cj, fs, rfl, rfl, hxl, ha, hcj⟩ | ⟨-, a, xs, rfl, rfl, hxl, htx, -, rfl⟩ | ⟨h0, -⟩
            · have := hcj rfl
              subst this
              split at hek
              · next y q0 hy hq0 =>
                cases hy
                obtain ⟨q, hq, hqn⟩ : ∃ q, vwCl[cj]? = some q ∧ q.1 = q0 := by
                  have hcj2 : cj < 11 := by
                    obtain ⟨r9, h9, -⟩ := S.1.2.1 _ _ ha
                    have := mm_lt h9
                    simpa [vwCl] using this
                  unfold mm_cn at hq0
                  split at hq0
                  · omega
                  · exact mm_map_s hq0
                subst hqn
                simp only [Bool.and_eq_true, decide_eq_true_eq, Bool.not_eq_true', decide_eq_false_iff_not] at hek
                obtain ⟨⟨⟨hw, hcls⟩, hst⟩, hni⟩ := hek
                have hlink := hts _ (mm_one hw (by first | rfl | simp [goodWord, Cond.onTables, Cond.keeps, Cond.steady]))
                have hinst := hgC.2.2.2.2.2.2.2.2 hst
                have hrecv := va_recv (q0 := 0) (a := B + a) (fs := fs.map (mm_mv B b0)) hG.1 (mm_P1 (S.1.2.1 _ _ ha)) hq rfl
                rw [hcls] at hrecv
                have cb : CallB R s args r.2.1 idx r'.1.1 r'.1.2.1 r'.1.2.2.1 r'.1.2.2.2.1 (mm_ws r') (mm_rm Dq (h1.length - h.length) (mm_sz h1 - mm_sz h)) (h1.length - h.length) (mm_sz h1 - mm_sz h) r'.1.2.2.2.2.1 :=
                  callB_of _ hts (mm_goodIn hgC) rfl rfl rfl (hts _ hgC.2.2.2.2.2.2.1) hlink hgC.2.2.1 ⟨by show Dq + 1 ≤ _; omega, by have := hgC.2.2.2.1; show 8 + (_ + 11) + 35 * Dq ≤ _; omega⟩
                refine mm_after S hmono1 (rest := rest) (va_runV (b := B + a) (As := xs.map (mm_mv B b0)) hfix hM ⟨cb, hts _ hinst.1, hts _ (hinst.2 hni)⟩ ⟨mm_blind, hrecv, fun U hU hW => hPc (.ref a :: xs) U hU hW⟩ rfl (by rw [List.length_map]; exact hxl) hsize ?_ ?_ hd hf) hnext
                · show List.map (mm_mv B b0) _ = _
                  rw [List.map_append, List.map_reverse]
                  rfl
                · exact lv_room (by rw [mm_wt_s]; exact m2)
              · cases hek
            · split at hek
              · next y q0 hy hq0 =>
                cases hy
                cases hq0
                simp only [Bool.and_eq_true, decide_eq_true_eq, Bool.not_eq_true', decide_eq_false_iff_not] at hek
                obtain ⟨⟨⟨hw, hcls⟩, hst⟩, hni⟩ := hek
                have hlink := hts _ (mm_one hw (by first | rfl | simp [goodWord, Cond.onTables, Cond.keeps, Cond.steady]))
                have hinst := hgC.2.2.2.2.2.2.2.2 hst
                obtain ⟨i1, q, l0, rfl, hq, hl0⟩ := mm_tx_s htx
                obtain ⟨⟨cell, z1, z2, z3, z4⟩, -⟩ := hG.2.2.1.2.2.2.1 i1 q l0 hq hl0
                have hrecv : ∃ cell : Cell, H[b0.1 (1 + i1)]? = some cell ∧ cell.vm.isStatics = false ∧ s.vm.findClass r'.1.1.cls = some cell.cls := ⟨cell, by rw [S.1.2.2 _ (Nat.not_le.mp z4)]; exact z1, z2, by rw [← hcls]; exact z3⟩
                have cb : CallB R s args r.2.1 idx r'.1.1 r'.1.2.1 r'.1.2.2.1 r'.1.2.2.2.1 (mm_ws r') (mm_rm Dq (h1.length - h.length) (mm_sz h1 - mm_sz h)) (h1.length - h.length) (mm_sz h1 - mm_sz h) r'.1.2.2.2.2.1 :=
                  callB_of _ hts (mm_goodIn hgC) rfl rfl rfl (hts _ hgC.2.2.2.2.2.2.1) hlink hgC.2.2.1 ⟨by show Dq + 1 ≤ _; omega, by have := hgC.2.2.2.1; show 8 + (_ + 11) + 35 * Dq ≤ _; omega⟩
                refine mm_after S hmono1 (rest := rest) (va_runV (b := b0.1 (1 + i1)) (As := xs.map (mm_mv B b0)) hfix hM ⟨cb, hts _ hinst.1, hts _ (hinst.2 hni)⟩ ⟨mm_blind, hrecv, fun U hU hW => hPc (.retAddr (1 + i1) :: xs) U hU hW⟩ rfl (by rw [List.length_map]; exact hxl) hsize ?_ ?_ hd hf) hnext
                · show List.map (mm_mv B b0) _ = _
                  rw [List.map_append, List.map_reverse]
                  rfl
                · exact lv_room (by rw [mm_wt_s]; exact m2)
              · cases hek
            · cases h0
          · obtain ⟨k, mj, b, vv, ps, hmem, hwant, hr0, hDp, m1, m2, hargs⟩ := hcall
            have hgC := hall mj r' hr0
            have hM := mm_met (l := l) (D := D) (dA := dA) (B := B) (b0 := b0) (H0 := H0) (X := X) hgC m1 hmono1 (mm_run hall f Dq r' 0 (mm_en r' as) [] h v1 h1 hgC.1 hc)
            rcases hargs with ⟨-, a, xs, cj, fs, rfl, rfl, hxl, ha, -⟩ | ⟨-, a, xs, rfl, rfl, hxl, htx, hk1, -⟩ | ⟨h0, -⟩
            · simp only [Bool.or_eq_true] at hwant
              have hroom : (mm_rm Dq (h1.length - h.length) (mm_sz h1 - mm_sz h)).frames + 1 ≤ R.frames ∧ 8 + (r'.1.2.2.1 + 11) + (mm_rm Dq (h1.length - h.length) (mm_sz h1 - mm_sz h)).locals ≤ R.locals := ⟨by show Dq + 1 ≤ _; omega, by have := hgC.2.2.2.1; show 8 + (_ + 11) + 35 * Dq ≤ _; omega⟩
              have hstk : (List.map (mm_mv B b0) (xs.reverse ++ .ref a :: rest)) = (xs.map (mm_mv B b0)).reverse ++ .ref (B + a) :: rest.map (mm_mv B b0) := by
                rw [List.map_append, List.map_reverse]
                rfl
              rcases hwant with hk | hk
              · have hk := Nat.eq_of_beq_eq_true hk
                subst hk
                have hek : mm_e3 r idx mj ps = true := hg.2 _ hmem
                unfold mm_e3 at hek
                rw [hr0] at hek
                simp only [Bool.and_eq_true, decide_eq_true_eq, Bool.not_eq_true'] at hek
                obtain ⟨⟨⟨hw, hst⟩, hni⟩, hno⟩ := hek
                have hrn : r'.1.2.2.2.1 = none := by simpa using hno
                have hlink := hts _ (mm_one hw (by first | rfl | simp [goodWord, Cond.onTables, Cond.keeps, Cond.steady]))
                have hinst := hgC.2.2.2.2.2.2.2.2 hst
                have cb : CallB R s args r.2.1 idx r'.1.1 r'.1.2.1 r'.1.2.2.1 none (mm_ws r') (mm_rm Dq (h1.length - h.length) (mm_sz h1 - mm_sz h)) (h1.length - h.length) (mm_sz h1 - mm_sz h) r'.1.2.2.2.2.1 :=
                  callB_of (ws' := mm_W) _ hts (mm_goodIn hgC) (by unfold mm_ws; rw [hrn]) rfl rfl (hts _ hgC.2.2.2.2.2.2.1) hlink hgC.2.2.1 hroom
                exact mm_after S hmono1 (rest := rest) (va_runI (b := B + a) (As := xs.map (mm_mv B b0)) hfix hM ⟨cb, hni, hts _ hinst.1⟩ ⟨mm_blind, fun U hU hW => hPc (.ref a :: xs) U hU hW⟩ rfl (by rw [List.length_map]; exact hxl) hsize hstk (lv_room (by rw [mm_wt_s]; exact m2)) hd hf) hnext
              · have hk := Nat.eq_of_beq_eq_true hk
                subst hk
                have hek : mm_e4 r idx mj vv = true := hg.2 _ hmem
                unfold mm_e4 at hek
                rw [hr0] at hek
                simp only [Bool.and_eq_true, decide_eq_true_eq, Bool.not_eq_true'] at hek
                obtain ⟨⟨⟨hw, hst⟩, hni⟩, hno⟩ := hek
                have hrn : r'.1.2.2.2.1 = none := by simpa using hno
                have hlink := hG.2.1 _ (List.mem_of_getElem? hw)
                have hinst := hgC.2.2.2.2.2.2.2.2 hst
                have cn := va_cnB (args := args) (R := R) (maxL := r'.1.2.2.1) (bytes := r'.1.2.1) (ret := none) (ws' := mm_W) r'.1.2.2.2.2.1 hts (mm_goodIn hgC) (by unfold mm_ws; rw [hrn]) (rm := mm_rm Dq (h1.length - h.length) (mm_sz h1 - mm_sz h)) rfl rfl hlink (hts _ hgC.2.2.2.2.2.2.1) hgC.2.2.1 hroom
                exact mm_after S hmono1 (rest := rest) (va_runIN (b := B + a) (As := xs.map (mm_mv B b0)) hfix hM ⟨cn, hni, hts _ hinst.1⟩ ⟨mm_blind, fun U hU hW => hPc (.ref a :: xs) U hU hW⟩ rfl (by rw [List.length_map]; exact hxl) hsize hstk (lv_room (by rw [mm_wt_s]; exact m2)) hd hf) hnext
            · subst hk1; cases hwant
            · cases h0
          · obtain ⟨k, mj, b, vv, ps, hmem, hwant, hr0, hDp, m1, m2, hargs⟩ := hcall
            have hgC := hall mj r' hr0
            have hM := mm_met (l := l) (D := D) (dA := dA) (B := B) (b0 := b0) (H0 := H0) (X := X) hgC m1 hmono1 (mm_run hall f Dq r' 0 (mm_en r' as) [] h v1 h1 hgC.1 hc)
            rcases hargs with ⟨h0, -⟩ | ⟨h0, -⟩ | ⟨-, rfl, hxl⟩
            · cases h0
            · cases h0
            · simp only [Bool.or_eq_true] at hwant
              have hroom : (mm_rm Dq (h1.length - h.length) (mm_sz h1 - mm_sz h)).frames + 1 ≤ R.frames ∧ 8 + (r'.1.2.2.1 + 11) + (mm_rm Dq (h1.length - h.length) (mm_sz h1 - mm_sz h)).locals ≤ R.locals := ⟨by show Dq + 1 ≤ _; omega, by have := hgC.2.2.2.1; show 8 + (_ + 11) + 35 * Dq ≤ _; omega⟩
              have hstk : (List.map (mm_mv B b0) (as.reverse ++ rest)) = (as.map (mm_mv B b0)).reverse ++ rest.map (mm_mv B b0) := by
                rw [List.map_append, List.map_reverse]
              rcases hwant with hk | hk
              · have hk := Nat.eq_of_beq_eq_true hk
                subst hk
                have hek : mm_e2 r idx mj ps = true := hg.2 _ hmem
                unfold mm_e2 at hek
                rw [hr0] at hek
                simp only [Bool.and_eq_true] at hek
                obtain ⟨hw, hst⟩ := hek
                have hlink := hts _ (mm_one hw (by first | rfl | simp [goodWord, Cond.onTables, Cond.keeps, Cond.steady]))
                have cb : CallB R s args r.2.1 idx r'.1.1 r'.1.2.1 r'.1.2.2.1 r'.1.2.2.2.1 (mm_ws r') (mm_rm Dq (h1.length - h.length) (mm_sz h1 - mm_sz h)) (h1.length - h.length) (mm_sz h1 - mm_sz h) r'.1.2.2.2.2.1 :=
                  callB_of _ hts (mm_goodIn hgC) rfl rfl rfl (hts _ hgC.2.2.2.2.2.2.1) hlink hgC.2.2.1 hroom
                exact mm_after S hmono1 (rest := rest) (va_runS (As := as.map (mm_mv B b0)) hfix hM ⟨cb, hts _ (hgC.2.2.2.2.2.2.2.1 hst)⟩ ⟨mm_blind, fun U hU hW => hPc as U hU hW⟩ rfl (by rw [List.length_map]; exact hxl) hsize hstk (lv_room (by rw [mm_wt_s]; exact m2)) hd hf) hnext
              · have hk := Nat.eq_of_beq_eq_true hk
                subst hk
                have hek : mm_e5 r idx mj vv = true := hg.2 _ hmem
                unfold mm_e5 at hek
                rw [hr0] at hek
                simp only [Bool.and_eq_true, decide_eq_true_eq] at hek
                obtain ⟨hw, hst⟩ := hek
                have hlink := hG.2.1 _ (List.mem_of_getElem? hw)
                have cn := va_cnB (args := args) (R := R) r'.1.2.2.2.2.1 hts (mm_goodIn hgC) rfl (rm := mm_rm Dq (h1.length - h.length) (mm_sz h1 - mm_sz h)) rfl rfl hlink (hts _ hgC.2.2.2.2.2.2.1) hgC.2.2.1 hroom
                exact mm_after S hmono1 (rest := rest) (va_runSN (As := as.map (mm_mv B b0)) hfix hM ⟨cn, hts _ (hgC.2.2.2.2.2.2.2.1 hst), trivial⟩ ⟨mm_blind, fun U hU hW => hPc as U hU hW⟩ rfl (by rw [List.length_map]; exact hxl) hsize hstk (lv_room (by rw [mm_wt_s]; exact m2)) hd hf) hnext
end mmK
end
section
/-! every method's table is good -/
def mm_tok (r : mm_R) : Bool := r.2.2.1.all (fun l => l.all (fun q => decide (decode r.1.2.1 q.1 = .ok q.2)))
theorem mm_lk_s {l : List (Nat × Instr × Nat)} {pc : Nat} {x : Instr × Nat} (h : mm_lk l pc = some x) : (pc, x) ∈ l := by
  induction l with
  | nil => cases h
  | cons q t ih =>
    unfold mm_lk at h
    cases hq : Nat.beq q.1 pc <;> rw [hq] at h
    · exact List.mem_cons_of_mem _ (ih h)
    · have h1 := Nat.eq_of_beq_eq_true hq
      cases h
      subst h1
      exact List.mem_cons_self
theorem mm_tok_s {r : mm_R} (h : mm_tok r = true) : ∀ pc i n, mm_at r pc = some (i, n) → decode r.1.2.1 pc = .ok (i, n) := by
  intro pc i n ha
  unfold mm_at at ha
  split at ha
  · next l hl =>
    have h1 := List.all_eq_true.mp h l (List.mem_of_getElem? hl)
    have h2 := List.all_eq_true.mp h1 _ (mm_lk_s ha)
    exact of_decide_eq_true h2
  · cases ha
theorem mm_good_of {r : mm_R} (h1 : mm_tok r = true) (h2 : r.2.2.2.all (mm_ek r) = true) : mm_Good r := ⟨mm_tok_s h1, fun e he => List.all_eq_true.mp h2 e he⟩
def mm_mw (r : mm_R) : Bool := plainName r.1.1.cls && decide (r.1.1.cls ≠ "java/lang/invoke/MethodHandle") && decide (r.1.1.cls ≠ "java/lang/invoke/VarHandle") && decide ((parseMethodDescriptor r.1.1.desc).map (fun d => d.parameters.length) = some r.1.2.2.2.2.1) && Nat.ble r.1.2.2.1 16 && decide (r.2.1 = r.1.1.cls)
def mm_mv0 (r : mm_R) : Bool := bif r.1.2.2.2.2.2.1 then mm_has r.1.2.2.2.2.2.2.1 [.static r.1.1, .initialized r.1.1.cls] else (bif decide (r.1.1.name = "<init>") then mm_has r.1.2.2.2.2.2.2.1 [.instanceMethod r.1.1, .initialized r.1.1.cls] else mm_has r.1.2.2.2.2.2.2.1 [.instanceMethod r.1.1, .initialized r.1.1.cls, .selects r.1.1.cls r.1.1 r.1.1])
theorem mm_goodC_of {r : mm_R} (hg : mm_Good r) (h3 : mm_mw r = true) (h4 : mm_mv0 r = true) (h5 : mm_tb r.1.2.2.2.2.2.2.2.1 r.1.2.2.2.2.2.2.2.2 = some (Cond.code r.1.1 r.1.2.1 r.1.2.2.1 r.1.2.2.2.1)) (h6 : goodWord (Cond.code r.1.1 r.1.2.1 r.1.2.2.1 r.1.2.2.2.1) = true) : mm_GoodC r := by
  unfold mm_mw at h3
  simp only [Bool.and_eq_true, decide_eq_true_eq] at h3
  obtain ⟨⟨⟨⟨⟨a1, a2⟩, a3⟩, a4⟩, a5⟩, a6⟩ := h3
  refine ⟨hg, a1, ⟨a2, a3, a4⟩, Nat.le_of_ble_eq_true a5, a6, mm_W_in (mm_tb_in h5) h6, ?_⟩
  unfold mm_mv0 at h4
  cases hs : r.1.2.2.2.2.2.1 <;> rw [hs] at h4
  · simp only [cond_false] at h4
    cases hi : decide (r.1.1.name = "<init>") <;> rw [hi] at h4
    · have hw := mm_W_has h4 (by simp [goodWord, Cond.onTables, Cond.keeps, Cond.steady])
      exact ⟨hw _ (by simp), fun h => (by cases h), fun _ => ⟨hw _ (by simp), fun _ => hw _ (by simp)⟩⟩
    · have hw := mm_W_has h4 (by simp [goodWord, Cond.onTables, Cond.keeps, Cond.steady])
      exact ⟨hw _ (by simp), fun h => (by cases h), fun _ => ⟨hw _ (by simp), fun hn => absurd (of_decide_eq_true hi) hn⟩⟩
  · have hw := mm_W_has h4 (by simp [goodWord, Cond.onTables, Cond.keeps, Cond.steady])
    exact ⟨hw _ (by simp), fun _ => hw _ (by simp), fun h => (by cases h)⟩
end
section
set_option maxRecDepth 20000 in
theorem md_g0 : mm_Good mm_r0 := mm_good_of (by decide +kernel) (by decide +kernel)
set_option maxRecDepth 20000 in
theorem md_c0 : mm_GoodC mm_r0 := mm_goodC_of md_g0 (by decide +kernel) (by decide +kernel) rfl (by simp [goodWord, Cond.onTables, Cond.keeps, Cond.steady])
set_option maxRecDepth 20000 in
theorem md_g1 : mm_Good mm_r1 := mm_good_of (by decide +kernel) (by decide +kernel)
set_option maxRecDepth 20000 in
theorem md_c1 : mm_GoodC mm_r1 := mm_goodC_of md_g1 (by decide +kernel) (by decide +kernel) rfl (by simp [goodWord, Cond.onTables, Cond.keeps, Cond.steady])
set_option maxRecDepth 20000 in
theorem md_g2 : mm_Good mm_r2 := mm_good_of (by decide +kernel) (by decide +kernel)
set_option maxRecDepth 20000 in
theorem md_c2 : mm_GoodC mm_r2 := mm_goodC_of md_g2 (by decide +kernel) (by decide +kernel) rfl (by simp [goodWord, Cond.onTables, Cond.keeps, Cond.steady])
set_option maxRecDepth 20000 in
theorem md_g3 : mm_Good mm_r3 := mm_good_of (by decide +kernel) (by decide +kernel)
set_option maxRecDepth 20000 in
theorem md_c3 : mm_GoodC mm_r3 := mm_goodC_of md_g3 (by decide +kernel) (by decide +kernel) rfl (by simp [goodWord, Cond.onTables, Cond.keeps, Cond.steady])
set_option maxRecDepth 20000 in
theorem md_g4 : mm_Good mm_r4 := mm_good_of (by decide +kernel) (by decide +kernel)
set_option maxRecDepth 20000 in
theorem md_c4 : mm_GoodC mm_r4 := mm_goodC_of md_g4 (by decide +kernel) (by decide +kernel) rfl (by simp [goodWord, Cond.onTables, Cond.keeps, Cond.steady])
set_option maxRecDepth 20000 in
theorem md_g5 : mm_Good mm_r5 := mm_good_of (by decide +kernel) (by decide +kernel)
set_option maxRecDepth 20000 in
theorem md_c5 : mm_GoodC mm_r5 := mm_goodC_of md_g5 (by decide +kernel) (by decide +kernel) rfl (by simp [goodWord, Cond.onTables, Cond.keeps, Cond.steady])
set_option maxRecDepth 20000 in
theorem md_g6 : mm_Good mm_r6 := mm_good_of (by decide +kernel) (by decide +kernel)
set_option maxRecDepth 20000 in
theorem md_c6 : mm_GoodC mm_r6 := mm_goodC_of md_g6 (by decide +kernel) (by decide +kernel) rfl (by simp [goodWord, Cond.onTables, Cond.keeps, Cond.steady])
set_option maxRecDepth 20000 in
theorem md_g7 : mm_Good mm_r7 := mm_good_of (by decide +kernel) (by decide +kernel)
set_option maxRecDepth 20000 in
theorem md_c7 : mm_GoodC mm_r7 := mm_goodC_of md_g7 (by decide +kernel) (by decide +kernel) rfl (by simp [goodWord, Cond.onTables, Cond.keeps, Cond.steady])
set_option maxRecDepth 20000 in
theorem md_g8 : mm_Good mm_r8 := mm_good_of (by decide +kernel) (by decide +kernel)
set_option maxRecDepth 20000 in
theorem md_c8 : mm_GoodC mm_r8 := mm_goodC_of md_g8 (by decide +kernel) (by decide +kernel) rfl (by simp [goodWord, Cond.onTables, Cond.keeps, Cond.steady])
set_option maxRecDepth 20000 in
theorem md_g9 : mm_Good mm_r9 := mm_good_of (by decide +kernel) (by decide +kernel)
set_option maxRecDepth 20000 in
theorem md_c9 : mm_GoodC mm_r9 := mm_goodC_of md_g9 (by decide +kernel) (by decide +kernel) rfl (by simp [goodWord, Cond.onTables, Cond.keeps, Cond.steady])
set_option maxRecDepth 20000 in
theorem md_g10 : mm_Good mm_r10 := mm_good_of (by decide +kernel) (by decide +kernel)
set_option maxRecDepth 20000 in
theorem md_c10 : mm_GoodC mm_r10 := mm_goodC_of md_g10 (by decide +kernel) (by decide +kernel) rfl (by simp [goodWord, Cond.onTables, Cond.keeps, Cond.steady])
set_option maxRecDepth 20000 in
theorem md_g11 : mm_Good mm_r11 := mm_good_of (by decide +kernel) (by decide +kernel)
set_option maxRecDepth 20000 in
theorem md_c11 : mm_GoodC mm_r11 := mm_goodC_of md_g11 (by decide +kernel) (by decide +kernel) rfl (by simp [goodWord, Cond.onTables, Cond.keeps, Cond.steady])
set_option maxRecDepth 20000 in
theorem md_g12 : mm_Good mm_r12 := mm_good_of (by decide +kernel) (by decide +kernel)
set_option maxRecDepth 20000 in
theorem md_c12 : mm_GoodC mm_r12 := mm_goodC_of md_g12 (by decide +kernel) (by decide +kernel) rfl (by simp [goodWord, Cond.onTables, Cond.keeps, Cond.steady])
set_option maxRecDepth 20000 in
theorem md_g13 : mm_Good mm_r13 := mm_good_of (by decide +kernel) (by decide +kernel)
set_option maxRecDepth 20000 in
theorem md_c13 : mm_GoodC mm_r13 := mm_goodC_of md_g13 (by decide +kernel) (by decide +kernel) rfl (by simp [goodWord, Cond.onTables, Cond.keeps, Cond.steady])
set_option maxRecDepth 20000 in
theorem md_g14 : mm_Good mm_r14 := mm_good_of (by decide +kernel) (by decide +kernel)
set_option maxRecDepth 20000 in
theorem md_c14 : mm_GoodC mm_r14 := mm_goodC_of md_g14 (by decide +kernel) (by decide +kernel) rfl (by simp [goodWord, Cond.onTables, Cond.keeps, Cond.steady])
set_option maxRecDepth 20000 in
theorem md_g15 : mm_Good mm_r15 := mm_good_of (by decide +kernel) (by decide +kernel)
set_option maxRecDepth 20000 in
theorem md_c15 : mm_GoodC mm_r15 := mm_goodC_of md_g15 (by decide +kernel) (by decide +kernel) rfl (by simp [goodWord, Cond.onTables, Cond.keeps, Cond.steady])
set_option maxRecDepth 20000 in
theorem md_g16 : mm_Good mm_r16 := mm_good_of (by decide +kernel) (by decide +kernel)
set_option maxRecDepth 20000 in
theorem md_c16 : mm_GoodC mm_r16 := mm_goodC_of md_g16 (by decide +kernel) (by decide +kernel) rfl (by simp [goodWord, Cond.onTables, Cond.keeps, Cond.steady])
set_option maxRecDepth 20000 in
theorem md_g17 : mm_Good mm_r17 := mm_good_of (by decide +kernel) (by decide +kernel)
set_option maxRecDepth 20000 in
theorem md_c17 : mm_GoodC mm_r17 := mm_goodC_of md_g17 (by decide +kernel) (by decide +kernel) rfl (by simp [goodWord, Cond.onTables, Cond.keeps, Cond.steady])
set_option maxRecDepth 20000 in
theorem md_g18 : mm_Good mm_r18 := mm_good_of (by decide +kernel) (by decide +kernel)
set_option maxRecDepth 20000 in
theorem md_c18 : mm_GoodC mm_r18 := mm_goodC_of md_g18 (by decide +kernel) (by decide +kernel) rfl (by simp [goodWord, Cond.onTables, Cond.keeps, Cond.steady])
set_option maxRecDepth 20000 in
theorem md_g19 : mm_Good mm_r19 := mm_good_of (by decide +kernel) (by decide +kernel)
set_option maxRecDepth 20000 in
theorem md_c19 : mm_GoodC mm_r19 := mm_goodC_of md_g19 (by decide +kernel) (by decide +kernel) rfl (by simp [goodWord, Cond.onTables, Cond.keeps, Cond.steady])
set_option maxRecDepth 20000 in
theorem md_g20 : mm_Good mm_r20 := mm_good_of (by decide +kernel) (by decide +kernel)
set_option maxRecDepth 20000 in
theorem md_c20 : mm_GoodC mm_r20 := mm_goodC_of md_g20 (by decide +kernel) (by decide +kernel) rfl (by simp [goodWord, Cond.onTables, Cond.keeps, Cond.steady])
set_option maxRecDepth 20000 in
theorem md_g21 : mm_Good mm_r21 := mm_good_of (by decide +kernel) (by decide +kernel)
set_option maxRecDepth 20000 in
theorem md_c21 : mm_GoodC mm_r21 := mm_goodC_of md_g21 (by decide +kernel) (by decide +kernel) rfl (by simp [goodWord, Cond.onTables, Cond.keeps, Cond.steady])
set_option maxRecDepth 20000 in
theorem md_g22 : mm_Good mm_r22 := mm_good_of (by decide +kernel) (by decide +kernel)
set_option maxRecDepth 20000 in
theorem md_c22 : mm_GoodC mm_r22 := mm_goodC_of md_g22 (by decide +kernel) (by decide +kernel) rfl (by simp [goodWord, Cond.onTables, Cond.keeps, Cond.steady])
set_option maxRecDepth 20000 in
theorem md_g23 : mm_Good mm_r23 := mm_good_of (by decide +kernel) (by decide +kernel)
set_option maxRecDepth 20000 in
theorem md_c23 : mm_GoodC mm_r23 := mm_goodC_of md_g23 (by decide +kernel) (by decide +kernel) rfl (by simp [goodWord, Cond.onTables, Cond.keeps, Cond.steady])
set_option maxRecDepth 20000 in
theorem md_g24 : mm_Good mm_r24 := mm_good_of (by decide +kernel) (by decide +kernel)
set_option maxRecDepth 20000 in
theorem md_c24 : mm_GoodC mm_r24 := mm_goodC_of md_g24 (by decide +kernel) (by decide +kernel) rfl (by simp [goodWord, Cond.onTables, Cond.keeps, Cond.steady])
set_option maxRecDepth 20000 in
theorem md_g25 : mm_Good mm_r25 := mm_good_of (by decide +kernel) (by decide +kernel)
set_option maxRecDepth 20000 in
theorem md_c25 : mm_GoodC mm_r25 := mm_goodC_of md_g25 (by decide +kernel) (by decide +kernel) rfl (by simp [goodWord, Cond.onTables, Cond.keeps, Cond.steady])
set_option maxRecDepth 20000 in
theorem md_g26 : mm_Good mm_r26 := mm_good_of (by decide +kernel) (by decide +kernel)
set_option maxRecDepth 20000 in
theorem md_c26 : mm_GoodC mm_r26 := mm_goodC_of md_g26 (by decide +kernel) (by decide +kernel) rfl (by simp [goodWord, Cond.onTables, Cond.keeps, Cond.steady])
set_option maxRecDepth 20000 in
theorem md_g27 : mm_Good mm_r27 := mm_good_of (by decide +kernel) (by decide +kernel)
set_option maxRecDepth 20000 in
theorem md_c27 : mm_GoodC mm_r27 := mm_goodC_of md_g27 (by decide +kernel) (by decide +kernel) rfl (by simp [goodWord, Cond.onTables, Cond.keeps, Cond.steady])
set_option maxRecDepth 20000 in
theorem md_g28 : mm_Good mm_r28 := mm_good_of (by decide +kernel) (by decide +kernel)
set_option maxRecDepth 20000 in
theorem md_c28 : mm_GoodC mm_r28 := mm_goodC_of md_g28 (by decide +kernel) (by decide +kernel) rfl (by simp [goodWord, Cond.onTables, Cond.keeps, Cond.steady])
set_option maxRecDepth 20000 in
theorem md_g29 : mm_Good mm_r29 := mm_good_of (by decide +kernel) (by decide +kernel)
set_option maxRecDepth 20000 in
theorem md_c29 : mm_GoodC mm_r29 := mm_goodC_of md_g29 (by decide +kernel) (by decide +kernel) rfl (by simp [goodWord, Cond.onTables, Cond.keeps, Cond.steady])
set_option maxRecDepth 20000 in
theorem md_g30 : mm_Good mm_r30 := mm_good_of (by decide +kernel) (by decide +kernel)
set_option maxRecDepth 20000 in
theorem md_c30 : mm_GoodC mm_r30 := mm_goodC_of md_g30 (by decide +kernel) (by decide +kernel) rfl (by simp [goodWord, Cond.onTables, Cond.keeps, Cond.steady])
set_option maxRecDepth 20000 in
theorem md_g31 : mm_Good mm_r31 := mm_good_of (by decide +kernel) (by decide +kernel)
set_option maxRecDepth 20000 in
theorem md_c31 : mm_GoodC mm_r31 := mm_goodC_of md_g31 (by decide +kernel) (by decide +kernel) rfl (by simp [goodWord, Cond.onTables, Cond.keeps, Cond.steady])
set_option maxRecDepth 20000 in
theorem md_g32 : mm_Good mm_r32 := mm_good_of (by decide +kernel) (by decide +kernel)
set_option maxRecDepth 20000 in
theorem md_c32 : mm_GoodC mm_r32 := mm_goodC_of md_g32 (by decide +kernel) (by decide +kernel) rfl (by simp [goodWord, Cond.onTables, Cond.keeps, Cond.steady])
set_option maxRecDepth 20000 in
theorem md_g33 : mm_Good mm_r33 := mm_good_of (by decide +kernel) (by decide +kernel)
set_option maxRecDepth 20000 in
theorem md_c33 : mm_GoodC mm_r33 := mm_goodC_of md_g33 (by decide +kernel) (by decide +kernel) rfl (by simp [goodWord, Cond.onTables, Cond.keeps, Cond.steady])
set_option maxRecDepth 20000 in
theorem md_g34 : mm_Good mm_r34 := mm_good_of (by decide +kernel) (by decide +kernel)
set_option maxRecDepth 20000 in
theorem md_c34 : mm_GoodC mm_r34 := mm_goodC_of md_g34 (by decide +kernel) (by decide +kernel) rfl (by simp [goodWord, Cond.onTables, Cond.keeps, Cond.steady])
set_option maxRecDepth 20000 in
theorem md_g35 : mm_Good mm_r35 := mm_good_of (by decide +kernel) (by decide +kernel)
set_option maxRecDepth 20000 in
theorem md_c35 : mm_GoodC mm_r35 := mm_goodC_of md_g35 (by decide +kernel) (by decide +kernel) rfl (by simp [goodWord, Cond.onTables, Cond.keeps, Cond.steady])
set_option maxRecDepth 20000 in
theorem md_g36 : mm_Good mm_r36 := mm_good_of (by decide +kernel) (by decide +kernel)
set_option maxRecDepth 20000 in
theorem md_c36 : mm_GoodC mm_r36 := mm_goodC_of md_g36 (by decide +kernel) (by decide +kernel) rfl (by simp [goodWord, Cond.onTables, Cond.keeps, Cond.steady])
set_option maxRecDepth 20000 in
theorem md_g37 : mm_Good mm_r37 := mm_good_of (by decide +kernel) (by decide +kernel)
set_option maxRecDepth 20000 in
theorem md_c37 : mm_GoodC mm_r37 := mm_goodC_of md_g37 (by decide +kernel) (by decide +kernel) rfl (by simp [goodWord, Cond.onTables, Cond.keeps, Cond.steady])
set_option maxRecDepth 20000 in
theorem md_g38 : mm_Good mm_r38 := mm_good_of (by decide +kernel) (by decide +kernel)
set_option maxRecDepth 20000 in
theorem md_c38 : mm_GoodC mm_r38 := mm_goodC_of md_g38 (by decide +kernel) (by decide +kernel) rfl (by simp [goodWord, Cond.onTables, Cond.keeps, Cond.steady])
set_option maxRecDepth 20000 in
theorem md_g39 : mm_Good mm_r39 := mm_good_of (by decide +kernel) (by decide +kernel)
set_option maxRecDepth 20000 in
theorem md_c39 : mm_GoodC mm_r39 := mm_goodC_of md_g39 (by decide +kernel) (by decide +kernel) rfl (by simp [goodWord, Cond.onTables, Cond.keeps, Cond.steady])
set_option maxRecDepth 20000 in
theorem md_g40 : mm_Good mm_r40 := mm_good_of (by decide +kernel) (by decide +kernel)
set_option maxRecDepth 20000 in
theorem md_c40 : mm_GoodC mm_r40 := mm_goodC_of md_g40 (by decide +kernel) (by decide +kernel) rfl (by simp [goodWord, Cond.onTables, Cond.keeps, Cond.steady])
set_option maxRecDepth 20000 in
theorem md_g41 : mm_Good mm_r41 := mm_good_of (by decide +kernel) (by decide +kernel)
set_option maxRecDepth 20000 in
theorem md_c41 : mm_GoodC mm_r41 := mm_goodC_of md_g41 (by decide +kernel) (by decide +kernel) rfl (by simp [goodWord, Cond.onTables, Cond.keeps, Cond.steady])
set_option maxRecDepth 20000 in
theorem md_g42 : mm_Good mm_r42 := mm_good_of (by decide +kernel) (by decide +kernel)
set_option maxRecDepth 20000 in
theorem md_c42 : mm_GoodC mm_r42 := mm_goodC_of md_g42 (by decide +kernel) (by decide +kernel) rfl (by simp [goodWord, Cond.onTables, Cond.keeps, Cond.steady])
set_option maxRecDepth 20000 in
theorem md_g43 : mm_Good mm_r43 := mm_good_of (by decide +kernel) (by decide +kernel)
set_option maxRecDepth 20000 in
theorem md_c43 : mm_GoodC mm_r43 := mm_goodC_of md_g43 (by decide +kernel) (by decide +kernel) rfl (by simp [goodWord, Cond.onTables, Cond.keeps, Cond.steady])
set_option maxRecDepth 20000 in
theorem md_g44 : mm_Good mm_r44 := mm_good_of (by decide +kernel) (by decide +kernel)
set_option maxRecDepth 20000 in
theorem md_c44 : mm_GoodC mm_r44 := mm_goodC_of md_g44 (by decide +kernel) (by decide +kernel) rfl (by simp [goodWord, Cond.onTables, Cond.keeps, Cond.steady])
set_option maxRecDepth 20000 in
theorem md_g45 : mm_Good mm_r45 := mm_good_of (by decide +kernel) (by decide +kernel)
set_option maxRecDepth 20000 in
theorem md_c45 : mm_GoodC mm_r45 := mm_goodC_of md_g45 (by decide +kernel) (by decide +kernel) rfl (by simp [goodWord, Cond.onTables, Cond.keeps, Cond.steady])
set_option maxRecDepth 20000 in
theorem md_g46 : mm_Good mm_r46 := mm_good_of (by decide +kernel) (by decide +kernel)
set_option maxRecDepth 20000 in
theorem md_c46 : mm_GoodC mm_r46 := mm_goodC_of md_g46 (by decide +kernel) (by decide +kernel) rfl (by simp [goodWord, Cond.onTables, Cond.keeps, Cond.steady])
set_option maxRecDepth 20000 in
theorem md_g47 : mm_Good mm_r47 := mm_good_of (by decide +kernel) (by decide +kernel)
set_option maxRecDepth 20000 in
theorem md_c47 : mm_GoodC mm_r47 := mm_goodC_of md_g47 (by decide +kernel) (by decide +kernel) rfl (by simp [goodWord, Cond.onTables, Cond.keeps, Cond.steady])
set_option maxRecDepth 20000 in
theorem md_g48 : mm_Good mm_r48 := mm_good_of (by decide +kernel) (by decide +kernel)
set_option maxRecDepth 20000 in
theorem md_c48 : mm_GoodC mm_r48 := mm_goodC_of md_g48 (by decide +kernel) (by decide +kernel) rfl (by simp [goodWord, Cond.onTables, Cond.keeps, Cond.steady])
set_option maxRecDepth 20000 in
theorem md_g49 : mm_Good mm_r49 := mm_good_of (by decide +kernel) (by decide +kernel)
set_option maxRecDepth 20000 in
theorem md_c49 : mm_GoodC mm_r49 := mm_goodC_of md_g49 (by decide +kernel) (by decide +kernel) rfl (by simp [goodWord, Cond.onTables, Cond.keeps, Cond.steady])
set_option maxRecDepth 20000 in
theorem md_g50 : mm_Good mm_r50 := mm_good_of (by decide +kernel) (by decide +kernel)
set_option maxRecDepth 20000 in
theorem md_c50 : mm_GoodC mm_r50 := mm_goodC_of md_g50 (by decide +kernel) (by decide +kernel) rfl (by simp [goodWord, Cond.onTables, Cond.keeps, Cond.steady])
set_option maxRecDepth 20000 in
theorem md_g51 : mm_Good mm_r51 := mm_good_of (by decide +kernel) (by decide +kernel)
set_option maxRecDepth 20000 in
theorem md_c51 : mm_GoodC mm_r51 := mm_goodC_of md_g51 (by decide +kernel) (by decide +kernel) rfl (by simp [goodWord, Cond.onTables, Cond.keeps, Cond.steady])
set_option maxRecDepth 20000 in
theorem md_g52 : mm_Good mm_r52 := mm_good_of (by decide +kernel) (by decide +kernel)
set_option maxRecDepth 20000 in
theorem md_c52 : mm_GoodC mm_r52 := mm_goodC_of md_g52 (by decide +kernel) (by decide +kernel) rfl (by simp [goodWord, Cond.onTables, Cond.keeps, Cond.steady])
set_option maxRecDepth 20000 in
theorem md_g53 : mm_Good mm_r53 := mm_good_of (by decide +kernel) (by decide +kernel)
set_option maxRecDepth 20000 in
theorem md_c53 : mm_GoodC mm_r53 := mm_goodC_of md_g53 (by decide +kernel) (by decide +kernel) rfl (by simp [goodWord, Cond.onTables, Cond.keeps, Cond.steady])
end
section
set_option maxRecDepth 20000 in
theorem md_g54 : mm_Good mm_r54 := mm_good_of (by decide +kernel) (by decide +kernel)
set_option maxRecDepth 20000 in
theorem md_c54 : mm_GoodC mm_r54 := mm_goodC_of md_g54 (by decide +kernel) (by decide +kernel) rfl (by simp [goodWord, Cond.onTables, Cond.keeps, Cond.steady])
set_option maxRecDepth 20000 in
theorem md_g55 : mm_Good mm_r55 := mm_good_of (by decide +kernel) (by decide +kernel)
set_option maxRecDepth 20000 in
theorem md_c55 : mm_GoodC mm_r55 := mm_goodC_of md_g55 (by decide +kernel) (by decide +kernel) rfl (by simp [goodWord, Cond.onTables, Cond.keeps, Cond.steady])
set_option maxRecDepth 20000 in
theorem md_g56 : mm_Good mm_r56 := mm_good_of (by decide +kernel) (by decide +kernel)
set_option maxRecDepth 20000 in
theorem md_c56 : mm_GoodC mm_r56 := mm_goodC_of md_g56 (by decide +kernel) (by decide +kernel) rfl (by simp [goodWord, Cond.onTables, Cond.keeps, Cond.steady])
set_option maxRecDepth 20000 in
theorem md_g57 : mm_Good mm_r57 := mm_good_of (by decide +kernel) (by decide +kernel)
set_option maxRecDepth 20000 in
theorem md_c57 : mm_GoodC mm_r57 := mm_goodC_of md_g57 (by decide +kernel) (by decide +kernel) rfl (by simp [goodWord, Cond.onTables, Cond.keeps, Cond.steady])
set_option maxRecDepth 20000 in
theorem md_g58 : mm_Good mm_r58 := mm_good_of (by decide +kernel) (by decide +kernel)
set_option maxRecDepth 20000 in
theorem md_c58 : mm_GoodC mm_r58 := mm_goodC_of md_g58 (by decide +kernel) (by decide +kernel) rfl (by simp [goodWord, Cond.onTables, Cond.keeps, Cond.steady])
set_option maxRecDepth 20000 in
theorem md_g59 : mm_Good mm_r59 := mm_good_of (by decide +kernel) (by decide +kernel)
set_option maxRecDepth 20000 in
theorem md_c59 : mm_GoodC mm_r59 := mm_goodC_of md_g59 (by decide +kernel) (by decide +kernel) rfl (by simp [goodWord, Cond.onTables, Cond.keeps, Cond.steady])
set_option maxRecDepth 20000 in
theorem md_g60 : mm_Good mm_r60 := mm_good_of (by decide +kernel) (by decide +kernel)
set_option maxRecDepth 20000 in
theorem md_c60 : mm_GoodC mm_r60 := mm_goodC_of md_g60 (by decide +kernel) (by decide +kernel) rfl (by simp [goodWord, Cond.onTables, Cond.keeps, Cond.steady])
set_option maxRecDepth 20000 in
theorem md_g61 : mm_Good mm_r61 := mm_good_of (by decide +kernel) (by decide +kernel)
set_option maxRecDepth 20000 in
theorem md_c61 : mm_GoodC mm_r61 := mm_goodC_of md_g61 (by decide +kernel) (by decide +kernel) rfl (by simp [goodWord, Cond.onTables, Cond.keeps, Cond.steady])
set_option maxRecDepth 20000 in
theorem md_g62 : mm_Good mm_r62 := mm_good_of (by decide +kernel) (by decide +kernel)
set_option maxRecDepth 20000 in
theorem md_c62 : mm_GoodC mm_r62 := mm_goodC_of md_g62 (by decide +kernel) (by decide +kernel) rfl (by simp [goodWord, Cond.onTables, Cond.keeps, Cond.steady])
set_option maxRecDepth 20000 in
theorem md_g63 : mm_Good mm_r63 := mm_good_of (by decide +kernel) (by decide +kernel)
set_option maxRecDepth 20000 in
theorem md_c63 : mm_GoodC mm_r63 := mm_goodC_of md_g63 (by decide +kernel) (by decide +kernel) rfl (by simp [goodWord, Cond.onTables, Cond.keeps, Cond.steady])
set_option maxRecDepth 20000 in
theorem md_g64 : mm_Good mm_r64 := mm_good_of (by decide +kernel) (by decide +kernel)
set_option maxRecDepth 20000 in
theorem md_c64 : mm_GoodC mm_r64 := mm_goodC_of md_g64 (by decide +kernel) (by decide +kernel) rfl (by simp [goodWord, Cond.onTables, Cond.keeps, Cond.steady])
set_option maxRecDepth 20000 in
theorem md_g65 : mm_Good mm_r65 := mm_good_of (by decide +kernel) (by decide +kernel)
set_option maxRecDepth 20000 in
theorem md_c65 : mm_GoodC mm_r65 := mm_goodC_of md_g65 (by decide +kernel) (by decide +kernel) rfl (by simp [goodWord, Cond.onTables, Cond.keeps, Cond.steady])
set_option maxRecDepth 20000 in
theorem md_g66 : mm_Good mm_r66 := mm_good_of (by decide +kernel) (by decide +kernel)
set_option maxRecDepth 20000 in
theorem md_c66 : mm_GoodC mm_r66 := mm_goodC_of md_g66 (by decide +kernel) (by decide +kernel) rfl (by simp [goodWord, Cond.onTables, Cond.keeps, Cond.steady])
set_option maxRecDepth 20000 in
theorem md_g67 : mm_Good mm_r67 := mm_good_of (by decide +kernel) (by decide +kernel)
set_option maxRecDepth 20000 in
theorem md_c67 : mm_GoodC mm_r67 := mm_goodC_of md_g67 (by decide +kernel) (by decide +kernel) rfl (by simp [goodWord, Cond.onTables, Cond.keeps, Cond.steady])
set_option maxRecDepth 20000 in
theorem md_g68 : mm_Good mm_r68 := mm_good_of (by decide +kernel) (by decide +kernel)
set_option maxRecDepth 20000 in
theorem md_c68 : mm_GoodC mm_r68 := mm_goodC_of md_g68 (by decide +kernel) (by decide +kernel) rfl (by simp [goodWord, Cond.onTables, Cond.keeps, Cond.steady])
set_option maxRecDepth 20000 in
theorem md_g69 : mm_Good mm_r69 := mm_good_of (by decide +kernel) (by decide +kernel)
set_option maxRecDepth 20000 in
theorem md_c69 : mm_GoodC mm_r69 := mm_goodC_of md_g69 (by decide +kernel) (by decide +kernel) rfl (by simp [goodWord, Cond.onTables, Cond.keeps, Cond.steady])
set_option maxRecDepth 20000 in
theorem md_g70 : mm_Good mm_r70 := mm_good_of (by decide +kernel) (by decide +kernel)
set_option maxRecDepth 20000 in
theorem md_c70 : mm_GoodC mm_r70 := mm_goodC_of md_g70 (by decide +kernel) (by decide +kernel) rfl (by simp [goodWord, Cond.onTables, Cond.keeps, Cond.steady])
set_option maxRecDepth 20000 in
theorem md_g71 : mm_Good mm_r71 := mm_good_of (by decide +kernel) (by decide +kernel)
set_option maxRecDepth 20000 in
theorem md_c71 : mm_GoodC mm_r71 := mm_goodC_of md_g71 (by decide +kernel) (by decide +kernel) rfl (by simp [goodWord, Cond.onTables, Cond.keeps, Cond.steady])
set_option maxRecDepth 20000 in
theorem md_g72 : mm_Good mm_r72 := mm_good_of (by decide +kernel) (by decide +kernel)
set_option maxRecDepth 20000 in
theorem md_c72 : mm_GoodC mm_r72 := mm_goodC_of md_g72 (by decide +kernel) (by decide +kernel) rfl (by simp [goodWord, Cond.onTables, Cond.keeps, Cond.steady])
set_option maxRecDepth 20000 in
theorem md_g73 : mm_Good mm_r73 := mm_good_of (by decide +kernel) (by decide +kernel)
set_option maxRecDepth 20000 in
theorem md_c73 : mm_GoodC mm_r73 := mm_goodC_of md_g73 (by decide +kernel) (by decide +kernel) rfl (by simp [goodWord, Cond.onTables, Cond.keeps, Cond.steady])
set_option maxRecDepth 20000 in
theorem md_g74 : mm_Good mm_r74 := mm_good_of (by decide +kernel) (by decide +kernel)
set_option maxRecDepth 20000 in
theorem md_c74 : mm_GoodC mm_r74 := mm_goodC_of md_g74 (by decide +kernel) (by decide +kernel) rfl (by simp [goodWord, Cond.onTables, Cond.keeps, Cond.steady])
set_option maxRecDepth 20000 in
theorem md_g75 : mm_Good mm_r75 := mm_good_of (by decide +kernel) (by decide +kernel)
set_option maxRecDepth 20000 in
theorem md_c75 : mm_GoodC mm_r75 := mm_goodC_of md_g75 (by decide +kernel) (by decide +kernel) rfl (by simp [goodWord, Cond.onTables, Cond.keeps, Cond.steady])
set_option maxRecDepth 20000 in
theorem md_g76 : mm_Good mm_r76 := mm_good_of (by decide +kernel) (by decide +kernel)
set_option maxRecDepth 20000 in
theorem md_c76 : mm_GoodC mm_r76 := mm_goodC_of md_g76 (by decide +kernel) (by decide +kernel) rfl (by simp [goodWord, Cond.onTables, Cond.keeps, Cond.steady])
set_option maxRecDepth 20000 in
theorem md_g77 : mm_Good mm_r77 := mm_good_of (by decide +kernel) (by decide +kernel)
set_option maxRecDepth 20000 in
theorem md_c77 : mm_GoodC mm_r77 := mm_goodC_of md_g77 (by decide +kernel) (by decide +kernel) rfl (by simp [goodWord, Cond.onTables, Cond.keeps, Cond.steady])
set_option maxRecDepth 20000 in
theorem md_g78 : mm_Good mm_r78 := mm_good_of (by decide +kernel) (by decide +kernel)
set_option maxRecDepth 20000 in
theorem md_c78 : mm_GoodC mm_r78 := mm_goodC_of md_g78 (by decide +kernel) (by decide +kernel) rfl (by simp [goodWord, Cond.onTables, Cond.keeps, Cond.steady])
set_option maxRecDepth 20000 in
theorem md_g79 : mm_Good mm_r79 := mm_good_of (by decide +kernel) (by decide +kernel)
set_option maxRecDepth 20000 in
theorem md_c79 : mm_GoodC mm_r79 := mm_goodC_of md_g79 (by decide +kernel) (by decide +kernel) rfl (by simp [goodWord, Cond.onTables, Cond.keeps, Cond.steady])
set_option maxRecDepth 20000 in
theorem md_g80 : mm_Good mm_r80 := mm_good_of (by decide +kernel) (by decide +kernel)
set_option maxRecDepth 20000 in
theorem md_c80 : mm_GoodC mm_r80 := mm_goodC_of md_g80 (by decide +kernel) (by decide +kernel) rfl (by simp [goodWord, Cond.onTables, Cond.keeps, Cond.steady])
set_option maxRecDepth 20000 in
theorem md_g81 : mm_Good mm_r81 := mm_good_of (by decide +kernel) (by decide +kernel)
set_option maxRecDepth 20000 in
theorem md_c81 : mm_GoodC mm_r81 := mm_goodC_of md_g81 (by decide +kernel) (by decide +kernel) rfl (by simp [goodWord, Cond.onTables, Cond.keeps, Cond.steady])
set_option maxRecDepth 20000 in
theorem md_g82 : mm_Good mm_r82 := mm_good_of (by decide +kernel) (by decide +kernel)
set_option maxRecDepth 20000 in
theorem md_c82 : mm_GoodC mm_r82 := mm_goodC_of md_g82 (by decide +kernel) (by decide +kernel) rfl (by simp [goodWord, Cond.onTables, Cond.keeps, Cond.steady])
set_option maxRecDepth 20000 in
theorem md_g83 : mm_Good mm_r83 := mm_good_of (by decide +kernel) (by decide +kernel)
set_option maxRecDepth 20000 in
theorem md_c83 : mm_GoodC mm_r83 := mm_goodC_of md_g83 (by decide +kernel) (by decide +kernel) rfl (by simp [goodWord, Cond.onTables, Cond.keeps, Cond.steady])
set_option maxRecDepth 20000 in
theorem md_g84 : mm_Good mm_r84 := mm_good_of (by decide +kernel) (by decide +kernel)
set_option maxRecDepth 20000 in
theorem md_c84 : mm_GoodC mm_r84 := mm_goodC_of md_g84 (by decide +kernel) (by decide +kernel) rfl (by simp [goodWord, Cond.onTables, Cond.keeps, Cond.steady])
set_option maxRecDepth 20000 in
theorem md_g85 : mm_Good mm_r85 := mm_good_of (by decide +kernel) (by decide +kernel)
set_option maxRecDepth 20000 in
theorem md_c85 : mm_GoodC mm_r85 := mm_goodC_of md_g85 (by decide +kernel) (by decide +kernel) rfl (by simp [goodWord, Cond.onTables, Cond.keeps, Cond.steady])
set_option maxRecDepth 20000 in
theorem md_g86 : mm_Good mm_r86 := mm_good_of (by decide +kernel) (by decide +kernel)
set_option maxRecDepth 20000 in
theorem md_c86 : mm_GoodC mm_r86 := mm_goodC_of md_g86 (by decide +kernel) (by decide +kernel) rfl (by simp [goodWord, Cond.onTables, Cond.keeps, Cond.steady])
set_option maxRecDepth 20000 in
theorem md_g87 : mm_Good mm_r87 := mm_good_of (by decide +kernel) (by decide +kernel)
set_option maxRecDepth 20000 in
theorem md_c87 : mm_GoodC mm_r87 := mm_goodC_of md_g87 (by decide +kernel) (by decide +kernel) rfl (by simp [goodWord, Cond.onTables, Cond.keeps, Cond.steady])
set_option maxRecDepth 20000 in
theorem md_g88 : mm_Good mm_r88 := mm_good_of (by decide +kernel) (by decide +kernel)
set_option maxRecDepth 20000 in
theorem md_c88 : mm_GoodC mm_r88 := mm_goodC_of md_g88 (by decide +kernel) (by decide +kernel) rfl (by simp [goodWord, Cond.onTables, Cond.keeps, Cond.steady])
set_option maxRecDepth 20000 in
theorem md_g89 : mm_Good mm_r89 := mm_good_of (by decide +kernel) (by decide +kernel)
set_option maxRecDepth 20000 in
theorem md_c89 : mm_GoodC mm_r89 := mm_goodC_of md_g89 (by decide +kernel) (by decide +kernel) rfl (by simp [goodWord, Cond.onTables, Cond.keeps, Cond.steady])
set_option maxRecDepth 20000 in
theorem md_g90 : mm_Good mm_r90 := mm_good_of (by decide +kernel) (by decide +kernel)
set_option maxRecDepth 20000 in
theorem md_c90 : mm_GoodC mm_r90 := mm_goodC_of md_g90 (by decide +kernel) (by decide +kernel) rfl (by simp [goodWord, Cond.onTables, Cond.keeps, Cond.steady])
set_option maxRecDepth 20000 in
theorem md_g91 : mm_Good mm_r91 := mm_good_of (by decide +kernel) (by decide +kernel)
set_option maxRecDepth 20000 in
theorem md_c91 : mm_GoodC mm_r91 := mm_goodC_of md_g91 (by decide +kernel) (by decide +kernel) rfl (by simp [goodWord, Cond.onTables, Cond.keeps, Cond.steady])
set_option maxRecDepth 20000 in
theorem md_g92 : mm_Good mm_r92 := mm_good_of (by decide +kernel) (by decide +kernel)
set_option maxRecDepth 20000 in
theorem md_c92 : mm_GoodC mm_r92 := mm_goodC_of md_g92 (by decide +kernel) (by decide +kernel) rfl (by simp [goodWord, Cond.onTables, Cond.keeps, Cond.steady])
set_option maxRecDepth 20000 in
theorem md_g93 : mm_Good mm_r93 := mm_good_of (by decide +kernel) (by decide +kernel)
set_option maxRecDepth 20000 in
theorem md_c93 : mm_GoodC mm_r93 := mm_goodC_of md_g93 (by decide +kernel) (by decide +kernel) rfl (by simp [goodWord, Cond.onTables, Cond.keeps, Cond.steady])
set_option maxRecDepth 20000 in
theorem md_g94 : mm_Good mm_r94 := mm_good_of (by decide +kernel) (by decide +kernel)
set_option maxRecDepth 20000 in
theorem md_c94 : mm_GoodC mm_r94 := mm_goodC_of md_g94 (by decide +kernel) (by decide +kernel) rfl (by simp [goodWord, Cond.onTables, Cond.keeps, Cond.steady])
set_option maxRecDepth 20000 in
theorem md_g95 : mm_Good mm_r95 := mm_good_of (by decide +kernel) (by decide +kernel)
set_option maxRecDepth 20000 in
theorem md_c95 : mm_GoodC mm_r95 := mm_goodC_of md_g95 (by decide +kernel) (by decide +kernel) rfl (by simp [goodWord, Cond.onTables, Cond.keeps, Cond.steady])
set_option maxRecDepth 20000 in
theorem md_g96 : mm_Good mm_r96 := mm_good_of (by decide +kernel) (by decide +kernel)
set_option maxRecDepth 20000 in
theorem md_c96 : mm_GoodC mm_r96 := mm_goodC_of md_g96 (by decide +kernel) (by decide +kernel) rfl (by simp [goodWord, Cond.onTables, Cond.keeps, Cond.steady])
set_option maxRecDepth 20000 in
theorem md_g97 : mm_Good mm_r97 := mm_good_of (by decide +kernel) (by decide +kernel)
set_option maxRecDepth 20000 in
theorem md_c97 : mm_GoodC mm_r97 := mm_goodC_of md_g97 (by decide +kernel) (by decide +kernel) rfl (by simp [goodWord, Cond.onTables, Cond.keeps, Cond.steady])
set_option maxRecDepth 20000 in
theorem md_g98 : mm_Good mm_r98 := mm_good_of (by decide +kernel) (by decide +kernel)
set_option maxRecDepth 20000 in
theorem md_c98 : mm_GoodC mm_r98 := mm_goodC_of md_g98 (by decide +kernel) (by decide +kernel) rfl (by simp [goodWord, Cond.onTables, Cond.keeps, Cond.steady])
set_option maxRecDepth 20000 in
theorem md_g99 : mm_Good mm_r99 := mm_good_of (by decide +kernel) (by decide +kernel)
set_option maxRecDepth 20000 in
theorem md_c99 : mm_GoodC mm_r99 := mm_goodC_of md_g99 (by decide +kernel) (by decide +kernel) rfl (by simp [goodWord, Cond.onTables, Cond.keeps, Cond.steady])
set_option maxRecDepth 20000 in
theorem md_g100 : mm_Good mm_r100 := mm_good_of (by decide +kernel) (by decide +kernel)
set_option maxRecDepth 20000 in
theorem md_c100 : mm_GoodC mm_r100 := mm_goodC_of md_g100 (by decide +kernel) (by decide +kernel) rfl (by simp [goodWord, Cond.onTables, Cond.keeps, Cond.steady])
set_option maxRecDepth 20000 in
theorem md_g101 : mm_Good mm_r101 := mm_good_of (by decide +kernel) (by decide +kernel)
set_option maxRecDepth 20000 in
theorem md_c101 : mm_GoodC mm_r101 := mm_goodC_of md_g101 (by decide +kernel) (by decide +kernel) rfl (by simp [goodWord, Cond.onTables, Cond.keeps, Cond.steady])
set_option maxRecDepth 20000 in
theorem md_g102 : mm_Good mm_r102 := mm_good_of (by decide +kernel) (by decide +kernel)
set_option maxRecDepth 20000 in
theorem md_c102 : mm_GoodC mm_r102 := mm_goodC_of md_g102 (by decide +kernel) (by decide +kernel) rfl (by simp [goodWord, Cond.onTables, Cond.keeps, Cond.steady])
set_option maxRecDepth 20000 in
theorem md_g103 : mm_Good mm_r103 := mm_good_of (by decide +kernel) (by decide +kernel)
set_option maxRecDepth 20000 in
theorem md_c103 : mm_GoodC mm_r103 := mm_goodC_of md_g103 (by decide +kernel) (by decide +kernel) rfl (by simp [goodWord, Cond.onTables, Cond.keeps, Cond.steady])
set_option maxRecDepth 20000 in
theorem md_g104 : mm_Good mm_r104 := mm_good_of (by decide +kernel) (by decide +kernel)
set_option maxRecDepth 20000 in
theorem md_c104 : mm_GoodC mm_r104 := mm_goodC_of md_g104 (by decide +kernel) (by decide +kernel) rfl (by simp [goodWord, Cond.onTables, Cond.keeps, Cond.steady])
set_option maxRecDepth 20000 in
theorem md_g105 : mm_Good mm_r105 := mm_good_of (by decide +kernel) (by decide +kernel)
set_option maxRecDepth 20000 in
theorem md_c105 : mm_GoodC mm_r105 := mm_goodC_of md_g105 (by decide +kernel) (by decide +kernel) rfl (by simp [goodWord, Cond.onTables, Cond.keeps, Cond.steady])
set_option maxRecDepth 20000 in
theorem md_g106 : mm_Good mm_r106 := mm_good_of (by decide +kernel) (by decide +kernel)
set_option maxRecDepth 20000 in
theorem md_c106 : mm_GoodC mm_r106 := mm_goodC_of md_g106 (by decide +kernel) (by decide +kernel) rfl (by simp [goodWord, Cond.onTables, Cond.keeps, Cond.steady])
set_option maxRecDepth 20000 in
theorem md_g107 : mm_Good mm_r107 := mm_good_of (by decide +kernel) (by decide +kernel)
set_option maxRecDepth 20000 in
theorem md_c107 : mm_GoodC mm_r107 := mm_goodC_of md_g107 (by decide +kernel) (by decide +kernel) rfl (by simp [goodWord, Cond.onTables, Cond.keeps, Cond.steady])
set_option maxRecDepth 20000 in
theorem md_g108 : mm_Good mm_r108 := mm_good_of (by decide +kernel) (by decide +kernel)
set_option maxRecDepth 20000 in
theorem md_c108 : mm_GoodC mm_r108 := mm_goodC_of md_g108 (by decide +kernel) (by decide +kernel) rfl (by simp [goodWord, Cond.onTables, Cond.keeps, Cond.steady])
set_option maxRecDepth 20000 in
theorem md_g109 : mm_Good mm_r109 := mm_good_of (by decide +kernel) (by decide +kernel)
set_option maxRecDepth 20000 in
theorem md_c109 : mm_GoodC mm_r109 := mm_goodC_of md_g109 (by decide +kernel) (by decide +kernel) rfl (by simp [goodWord, Cond.onTables, Cond.keeps, Cond.steady])
set_option maxRecDepth 20000 in
theorem md_g110 : mm_Good mm_r110 := mm_good_of (by decide +kernel) (by decide +kernel)
set_option maxRecDepth 20000 in
theorem md_c110 : mm_GoodC mm_r110 := mm_goodC_of md_g110 (by decide +kernel) (by decide +kernel) rfl (by simp [goodWord, Cond.onTables, Cond.keeps, Cond.steady])
set_option maxRecDepth 20000 in
theorem md_g111 : mm_Good mm_r111 := mm_good_of (by decide +kernel) (by decide +kernel)
set_option maxRecDepth 20000 in
theorem md_c111 : mm_GoodC mm_r111 := mm_goodC_of md_g111 (by decide +kernel) (by decide +kernel) rfl (by simp [goodWord, Cond.onTables, Cond.keeps, Cond.steady])
set_option maxRecDepth 20000 in
theorem md_g112 : mm_Good mm_r112 := mm_good_of (by decide +kernel) (by decide +kernel)
set_option maxRecDepth 20000 in
theorem md_c112 : mm_GoodC mm_r112 := mm_goodC_of md_g112 (by decide +kernel) (by decide +kernel) rfl (by simp [goodWord, Cond.onTables, Cond.keeps, Cond.steady])
set_option maxRecDepth 20000 in
theorem md_g113 : mm_Good mm_r113 := mm_good_of (by decide +kernel) (by decide +kernel)
set_option maxRecDepth 20000 in
theorem md_c113 : mm_GoodC mm_r113 := mm_goodC_of md_g113 (by decide +kernel) (by decide +kernel) rfl (by simp [goodWord, Cond.onTables, Cond.keeps, Cond.steady])
set_option maxRecDepth 20000 in
theorem md_g114 : mm_Good mm_r114 := mm_good_of (by decide +kernel) (by decide +kernel)
set_option maxRecDepth 20000 in
theorem md_c114 : mm_GoodC mm_r114 := mm_goodC_of md_g114 (by decide +kernel) (by decide +kernel) rfl (by simp [goodWord, Cond.onTables, Cond.keeps, Cond.steady])
set_option maxRecDepth 20000 in
theorem md_g115 : mm_Good mm_r115 := mm_good_of (by decide +kernel) (by decide +kernel)
set_option maxRecDepth 20000 in
theorem md_c115 : mm_GoodC mm_r115 := mm_goodC_of md_g115 (by decide +kernel) (by decide +kernel) rfl (by simp [goodWord, Cond.onTables, Cond.keeps, Cond.steady])
set_option maxRecDepth 20000 in
theorem md_g116 : mm_Good mm_r116 := mm_good_of (by decide +kernel) (by decide +kernel)
set_option maxRecDepth 20000 in
theorem md_c116 : mm_GoodC mm_r116 := mm_goodC_of md_g116 (by decide +kernel) (by decide +kernel) rfl (by simp [goodWord, Cond.onTables, Cond.keeps, Cond.steady])
set_option maxRecDepth 20000 in
theorem md_g117 : mm_Good mm_r117 := mm_good_of (by decide +kernel) (by decide +kernel)
set_option maxRecDepth 20000 in
theorem md_c117 : mm_GoodC mm_r117 := mm_goodC_of md_g117 (by decide +kernel) (by decide +kernel) rfl (by simp [goodWord, Cond.onTables, Cond.keeps, Cond.steady])
set_option maxRecDepth 20000 in
theorem md_g118 : mm_Good mm_r118 := mm_good_of (by decide +kernel) (by decide +kernel)
set_option maxRecDepth 20000 in
theorem md_c118 : mm_GoodC mm_r118 := mm_goodC_of md_g118 (by decide +kernel) (by decide +kernel) rfl (by simp [goodWord, Cond.onTables, Cond.keeps, Cond.steady])
end
section
set_option maxRecDepth 20000 in
theorem md_g119 : mm_Good mm_r119 := mm_good_of (by decide +kernel) (by decide +kernel)
set_option maxRecDepth 20000 in
theorem md_c119 : mm_GoodC mm_r119 := mm_goodC_of md_g119 (by decide +kernel) (by decide +kernel) rfl (by simp [goodWord, Cond.onTables, Cond.keeps, Cond.steady])
set_option maxRecDepth 20000 in
theorem md_g120 : mm_Good mm_r120 := mm_good_of (by decide +kernel) (by decide +kernel)
set_option maxRecDepth 20000 in
theorem md_c120 : mm_GoodC mm_r120 := mm_goodC_of md_g120 (by decide +kernel) (by decide +kernel) rfl (by simp [goodWord, Cond.onTables, Cond.keeps, Cond.steady])
set_option maxRecDepth 20000 in
theorem md_g121 : mm_Good mm_r121 := mm_good_of (by decide +kernel) (by decide +kernel)
set_option maxRecDepth 20000 in
theorem md_c121 : mm_GoodC mm_r121 := mm_goodC_of md_g121 (by decide +kernel) (by decide +kernel) rfl (by simp [goodWord, Cond.onTables, Cond.keeps, Cond.steady])
set_option maxRecDepth 20000 in
theorem md_g122 : mm_Good mm_r122 := mm_good_of (by decide +kernel) (by decide +kernel)
set_option maxRecDepth 20000 in
theorem md_c122 : mm_GoodC mm_r122 := mm_goodC_of md_g122 (by decide +kernel) (by decide +kernel) rfl (by simp [goodWord, Cond.onTables, Cond.keeps, Cond.steady])
set_option maxRecDepth 20000 in
theorem md_g123 : mm_Good mm_r123 := mm_good_of (by decide +kernel) (by decide +kernel)
set_option maxRecDepth 20000 in
theorem md_c123 : mm_GoodC mm_r123 := mm_goodC_of md_g123 (by decide +kernel) (by decide +kernel) rfl (by simp [goodWord, Cond.onTables, Cond.keeps, Cond.steady])
set_option maxRecDepth 20000 in
theorem md_g124 : mm_Good mm_r124 := mm_good_of (by decide +kernel) (by decide +kernel)
set_option maxRecDepth 20000 in
theorem md_c124 : mm_GoodC mm_r124 := mm_goodC_of md_g124 (by decide +kernel) (by decide +kernel) rfl (by simp [goodWord, Cond.onTables, Cond.keeps, Cond.steady])
set_option maxRecDepth 20000 in
theorem md_g125 : mm_Good mm_r125 := mm_good_of (by decide +kernel) (by decide +kernel)
set_option maxRecDepth 20000 in
theorem md_c125 : mm_GoodC mm_r125 := mm_goodC_of md_g125 (by decide +kernel) (by decide +kernel) rfl (by simp [goodWord, Cond.onTables, Cond.keeps, Cond.steady])
set_option maxRecDepth 20000 in
theorem md_g126 : mm_Good mm_r126 := mm_good_of (by decide +kernel) (by decide +kernel)
set_option maxRecDepth 20000 in
theorem md_c126 : mm_GoodC mm_r126 := mm_goodC_of md_g126 (by decide +kernel) (by decide +kernel) rfl (by simp [goodWord, Cond.onTables, Cond.keeps, Cond.steady])
set_option maxRecDepth 20000 in
theorem md_g127 : mm_Good mm_r127 := mm_good_of (by decide +kernel) (by decide +kernel)
set_option maxRecDepth 20000 in
theorem md_c127 : mm_GoodC mm_r127 := mm_goodC_of md_g127 (by decide +kernel) (by decide +kernel) rfl (by simp [goodWord, Cond.onTables, Cond.keeps, Cond.steady])
set_option maxRecDepth 20000 in
theorem md_g128 : mm_Good mm_r128 := mm_good_of (by decide +kernel) (by decide +kernel)
set_option maxRecDepth 20000 in
theorem md_c128 : mm_GoodC mm_r128 := mm_goodC_of md_g128 (by decide +kernel) (by decide +kernel) rfl (by simp [goodWord, Cond.onTables, Cond.keeps, Cond.steady])
set_option maxRecDepth 20000 in
theorem md_g129 : mm_Good mm_r129 := mm_good_of (by decide +kernel) (by decide +kernel)
set_option maxRecDepth 20000 in
theorem md_c129 : mm_GoodC mm_r129 := mm_goodC_of md_g129 (by decide +kernel) (by decide +kernel) rfl (by simp [goodWord, Cond.onTables, Cond.keeps, Cond.steady])
set_option maxRecDepth 20000 in
theorem md_g130 : mm_Good mm_r130 := mm_good_of (by decide +kernel) (by decide +kernel)
set_option maxRecDepth 20000 in
theorem md_c130 : mm_GoodC mm_r130 := mm_goodC_of md_g130 (by decide +kernel) (by decide +kernel) rfl (by simp [goodWord, Cond.onTables, Cond.keeps, Cond.steady])
set_option maxRecDepth 20000 in
theorem md_g131 : mm_Good mm_r131 := mm_good_of (by decide +kernel) (by decide +kernel)
set_option maxRecDepth 20000 in
theorem md_c131 : mm_GoodC mm_r131 := mm_goodC_of md_g131 (by decide +kernel) (by decide +kernel) rfl (by simp [goodWord, Cond.onTables, Cond.keeps, Cond.steady])
set_option maxRecDepth 20000 in
theorem md_g132 : mm_Good mm_r132 := mm_good_of (by decide +kernel) (by decide +kernel)
set_option maxRecDepth 20000 in
theorem md_c132 : mm_GoodC mm_r132 := mm_goodC_of md_g132 (by decide +kernel) (by decide +kernel) rfl (by simp [goodWord, Cond.onTables, Cond.keeps, Cond.steady])
set_option maxRecDepth 20000 in
theorem md_g133 : mm_Good mm_r133 := mm_good_of (by decide +kernel) (by decide +kernel)
set_option maxRecDepth 20000 in
theorem md_c133 : mm_GoodC mm_r133 := mm_goodC_of md_g133 (by decide +kernel) (by decide +kernel) rfl (by simp [goodWord, Cond.onTables, Cond.keeps, Cond.steady])
set_option maxRecDepth 20000 in
theorem md_g134 : mm_Good mm_r134 := mm_good_of (by decide +kernel) (by decide +kernel)
set_option maxRecDepth 20000 in
theorem md_c134 : mm_GoodC mm_r134 := mm_goodC_of md_g134 (by decide +kernel) (by decide +kernel) rfl (by simp [goodWord, Cond.onTables, Cond.keeps, Cond.steady])
set_option maxRecDepth 20000 in
theorem md_g135 : mm_Good mm_r135 := mm_good_of (by decide +kernel) (by decide +kernel)
set_option maxRecDepth 20000 in
theorem md_c135 : mm_GoodC mm_r135 := mm_goodC_of md_g135 (by decide +kernel) (by decide +kernel) rfl (by simp [goodWord, Cond.onTables, Cond.keeps, Cond.steady])
set_option maxRecDepth 20000 in
theorem md_g136 : mm_Good mm_r136 := mm_good_of (by decide +kernel) (by decide +kernel)
set_option maxRecDepth 20000 in
theorem md_c136 : mm_GoodC mm_r136 := mm_goodC_of md_g136 (by decide +kernel) (by decide +kernel) rfl (by simp [goodWord, Cond.onTables, Cond.keeps, Cond.steady])
set_option maxRecDepth 20000 in
theorem md_g137 : mm_Good mm_r137 := mm_good_of (by decide +kernel) (by decide +kernel)
set_option maxRecDepth 20000 in
theorem md_c137 : mm_GoodC mm_r137 := mm_goodC_of md_g137 (by decide +kernel) (by decide +kernel) rfl (by simp [goodWord, Cond.onTables, Cond.keeps, Cond.steady])
set_option maxRecDepth 20000 in
theorem md_g138 : mm_Good mm_r138 := mm_good_of (by decide +kernel) (by decide +kernel)
set_option maxRecDepth 20000 in
theorem md_c138 : mm_GoodC mm_r138 := mm_goodC_of md_g138 (by decide +kernel) (by decide +kernel) rfl (by simp [goodWord, Cond.onTables, Cond.keeps, Cond.steady])
set_option maxRecDepth 20000 in
theorem md_g139 : mm_Good mm_r139 := mm_good_of (by decide +kernel) (by decide +kernel)
set_option maxRecDepth 20000 in
theorem md_c139 : mm_GoodC mm_r139 := mm_goodC_of md_g139 (by decide +kernel) (by decide +kernel) rfl (by simp [goodWord, Cond.onTables, Cond.keeps, Cond.steady])
set_option maxRecDepth 20000 in
theorem md_g140 : mm_Good mm_r140 := mm_good_of (by decide +kernel) (by decide +kernel)
set_option maxRecDepth 20000 in
theorem md_c140 : mm_GoodC mm_r140 := mm_goodC_of md_g140 (by decide +kernel) (by decide +kernel) rfl (by simp [goodWord, Cond.onTables, Cond.keeps, Cond.steady])
set_option maxRecDepth 20000 in
theorem md_g141 : mm_Good mm_r141 := mm_good_of (by decide +kernel) (by decide +kernel)
set_option maxRecDepth 20000 in
theorem md_c141 : mm_GoodC mm_r141 := mm_goodC_of md_g141 (by decide +kernel) (by decide +kernel) rfl (by simp [goodWord, Cond.onTables, Cond.keeps, Cond.steady])
set_option maxRecDepth 20000 in
theorem md_g142 : mm_Good mm_r142 := mm_good_of (by decide +kernel) (by decide +kernel)
set_option maxRecDepth 20000 in
theorem md_c142 : mm_GoodC mm_r142 := mm_goodC_of md_g142 (by decide +kernel) (by decide +kernel) rfl (by simp [goodWord, Cond.onTables, Cond.keeps, Cond.steady])
set_option maxRecDepth 20000 in
theorem md_g143 : mm_Good mm_r143 := mm_good_of (by decide +kernel) (by decide +kernel)
set_option maxRecDepth 20000 in
theorem md_c143 : mm_GoodC mm_r143 := mm_goodC_of md_g143 (by decide +kernel) (by decide +kernel) rfl (by simp [goodWord, Cond.onTables, Cond.keeps, Cond.steady])
set_option maxRecDepth 20000 in
theorem md_g144 : mm_Good mm_r144 := mm_good_of (by decide +kernel) (by decide +kernel)
set_option maxRecDepth 20000 in
theorem md_c144 : mm_GoodC mm_r144 := mm_goodC_of md_g144 (by decide +kernel) (by decide +kernel) rfl (by simp [goodWord, Cond.onTables, Cond.keeps, Cond.steady])
set_option maxRecDepth 20000 in
theorem md_g145 : mm_Good mm_r145 := mm_good_of (by decide +kernel) (by decide +kernel)
set_option maxRecDepth 20000 in
theorem md_c145 : mm_GoodC mm_r145 := mm_goodC_of md_g145 (by decide +kernel) (by decide +kernel) rfl (by simp [goodWord, Cond.onTables, Cond.keeps, Cond.steady])
set_option maxRecDepth 20000 in
theorem md_g146 : mm_Good mm_r146 := mm_good_of (by decide +kernel) (by decide +kernel)
set_option maxRecDepth 20000 in
theorem md_c146 : mm_GoodC mm_r146 := mm_goodC_of md_g146 (by decide +kernel) (by decide +kernel) rfl (by simp [goodWord, Cond.onTables, Cond.keeps, Cond.steady])
set_option maxRecDepth 20000 in
theorem md_g147 : mm_Good mm_r147 := mm_good_of (by decide +kernel) (by decide +kernel)
set_option maxRecDepth 20000 in
theorem md_c147 : mm_GoodC mm_r147 := mm_goodC_of md_g147 (by decide +kernel) (by decide +kernel) rfl (by simp [goodWord, Cond.onTables, Cond.keeps, Cond.steady])
set_option maxRecDepth 20000 in
theorem md_g148 : mm_Good mm_r148 := mm_good_of (by decide +kernel) (by decide +kernel)
set_option maxRecDepth 20000 in
theorem md_c148 : mm_GoodC mm_r148 := mm_goodC_of md_g148 (by decide +kernel) (by decide +kernel) rfl (by simp [goodWord, Cond.onTables, Cond.keeps, Cond.steady])
set_option maxRecDepth 20000 in
theorem md_g149 : mm_Good mm_r149 := mm_good_of (by decide +kernel) (by decide +kernel)
set_option maxRecDepth 20000 in
theorem md_c149 : mm_GoodC mm_r149 := mm_goodC_of md_g149 (by decide +kernel) (by decide +kernel) rfl (by simp [goodWord, Cond.onTables, Cond.keeps, Cond.steady])
set_option maxRecDepth 20000 in
theorem md_g150 : mm_Good mm_r150 := mm_good_of (by decide +kernel) (by decide +kernel)
set_option maxRecDepth 20000 in
theorem md_c150 : mm_GoodC mm_r150 := mm_goodC_of md_g150 (by decide +kernel) (by decide +kernel) rfl (by simp [goodWord, Cond.onTables, Cond.keeps, Cond.steady])
set_option maxRecDepth 20000 in
theorem md_g151 : mm_Good mm_r151 := mm_good_of (by decide +kernel) (by decide +kernel)
set_option maxRecDepth 20000 in
theorem md_c151 : mm_GoodC mm_r151 := mm_goodC_of md_g151 (by decide +kernel) (by decide +kernel) rfl (by simp [goodWord, Cond.onTables, Cond.keeps, Cond.steady])
end
section
set_option maxRecDepth 20000 in
theorem md_g152 : mm_Good mm_r152 := mm_good_of (by decide +kernel) (by decide +kernel)
set_option maxRecDepth 20000 in
theorem md_c152 : mm_GoodC mm_r152 := mm_goodC_of md_g152 (by decide +kernel) (by decide +kernel) rfl (by simp [goodWord, Cond.onTables, Cond.keeps, Cond.steady])
set_option maxRecDepth 20000 in
theorem md_g153 : mm_Good mm_r153 := mm_good_of (by decide +kernel) (by decide +kernel)
set_option maxRecDepth 20000 in
theorem md_c153 : mm_GoodC mm_r153 := mm_goodC_of md_g153 (by decide +kernel) (by decide +kernel) rfl (by simp [goodWord, Cond.onTables, Cond.keeps, Cond.steady])
set_option maxRecDepth 20000 in
theorem md_g154 : mm_Good mm_r154 := mm_good_of (by decide +kernel) (by decide +kernel)
set_option maxRecDepth 20000 in
theorem md_c154 : mm_GoodC mm_r154 := mm_goodC_of md_g154 (by decide +kernel) (by decide +kernel) rfl (by simp [goodWord, Cond.onTables, Cond.keeps, Cond.steady])
set_option maxRecDepth 20000 in
theorem md_g155 : mm_Good mm_r155 := mm_good_of (by decide +kernel) (by decide +kernel)
set_option maxRecDepth 20000 in
theorem md_c155 : mm_GoodC mm_r155 := mm_goodC_of md_g155 (by decide +kernel) (by decide +kernel) rfl (by simp [goodWord, Cond.onTables, Cond.keeps, Cond.steady])
set_option maxRecDepth 20000 in
theorem md_g156 : mm_Good mm_r156 := mm_good_of (by decide +kernel) (by decide +kernel)
set_option maxRecDepth 20000 in
theorem md_c156 : mm_GoodC mm_r156 := mm_goodC_of md_g156 (by decide +kernel) (by decide +kernel) rfl (by simp [goodWord, Cond.onTables, Cond.keeps, Cond.steady])
set_option maxRecDepth 20000 in
theorem md_g157 : mm_Good mm_r157 := mm_good_of (by decide +kernel) (by decide +kernel)
set_option maxRecDepth 20000 in
theorem md_c157 : mm_GoodC mm_r157 := mm_goodC_of md_g157 (by decide +kernel) (by decide +kernel) rfl (by simp [goodWord, Cond.onTables, Cond.keeps, Cond.steady])
set_option maxRecDepth 20000 in
theorem md_g158 : mm_Good mm_r158 := mm_good_of (by decide +kernel) (by decide +kernel)
set_option maxRecDepth 20000 in
theorem md_c158 : mm_GoodC mm_r158 := mm_goodC_of md_g158 (by decide +kernel) (by decide +kernel) rfl (by simp [goodWord, Cond.onTables, Cond.keeps, Cond.steady])
set_option maxRecDepth 20000 in
theorem md_g159 : mm_Good mm_r159 := mm_good_of (by decide +kernel) (by decide +kernel)
set_option maxRecDepth 20000 in
theorem md_c159 : mm_GoodC mm_r159 := mm_goodC_of md_g159 (by decide +kernel) (by decide +kernel) rfl (by simp [goodWord, Cond.onTables, Cond.keeps, Cond.steady])
set_option maxRecDepth 20000 in
theorem md_g160 : mm_Good mm_r160 := mm_good_of (by decide +kernel) (by decide +kernel)
set_option maxRecDepth 20000 in
theorem md_c160 : mm_GoodC mm_r160 := mm_goodC_of md_g160 (by decide +kernel) (by decide +kernel) rfl (by simp [goodWord, Cond.onTables, Cond.keeps, Cond.steady])
set_option maxRecDepth 20000 in
theorem md_g161 : mm_Good mm_r161 := mm_good_of (by decide +kernel) (by decide +kernel)
set_option maxRecDepth 20000 in
theorem md_c161 : mm_GoodC mm_r161 := mm_goodC_of md_g161 (by decide +kernel) (by decide +kernel) rfl (by simp [goodWord, Cond.onTables, Cond.keeps, Cond.steady])
set_option maxRecDepth 20000 in
theorem md_g162 : mm_Good mm_r162 := mm_good_of (by decide +kernel) (by decide +kernel)
set_option maxRecDepth 20000 in
theorem md_c162 : mm_GoodC mm_r162 := mm_goodC_of md_g162 (by decide +kernel) (by decide +kernel) rfl (by simp [goodWord, Cond.onTables, Cond.keeps, Cond.steady])
set_option maxRecDepth 20000 in
theorem md_g163 : mm_Good mm_r163 := mm_good_of (by decide +kernel) (by decide +kernel)
set_option maxRecDepth 20000 in
theorem md_c163 : mm_GoodC mm_r163 := mm_goodC_of md_g163 (by decide +kernel) (by decide +kernel) rfl (by simp [goodWord, Cond.onTables, Cond.keeps, Cond.steady])
set_option maxRecDepth 20000 in
theorem md_g164 : mm_Good mm_r164 := mm_good_of (by decide +kernel) (by decide +kernel)
set_option maxRecDepth 20000 in
theorem md_c164 : mm_GoodC mm_r164 := mm_goodC_of md_g164 (by decide +kernel) (by decide +kernel) rfl (by simp [goodWord, Cond.onTables, Cond.keeps, Cond.steady])
set_option maxRecDepth 20000 in
theorem md_g165 : mm_Good mm_r165 := mm_good_of (by decide +kernel) (by decide +kernel)
set_option maxRecDepth 20000 in
theorem md_c165 : mm_GoodC mm_r165 := mm_goodC_of md_g165 (by decide +kernel) (by decide +kernel) rfl (by simp [goodWord, Cond.onTables, Cond.keeps, Cond.steady])
set_option maxRecDepth 20000 in
theorem md_g166 : mm_Good mm_r166 := mm_good_of (by decide +kernel) (by decide +kernel)
set_option maxRecDepth 20000 in
theorem md_c166 : mm_GoodC mm_r166 := mm_goodC_of md_g166 (by decide +kernel) (by decide +kernel) rfl (by simp [goodWord, Cond.onTables, Cond.keeps, Cond.steady])
set_option maxRecDepth 20000 in
theorem md_g167 : mm_Good mm_r167 := mm_good_of (by decide +kernel) (by decide +kernel)
set_option maxRecDepth 20000 in
theorem md_c167 : mm_GoodC mm_r167 := mm_goodC_of md_g167 (by decide +kernel) (by decide +kernel) rfl (by simp [goodWord, Cond.onTables, Cond.keeps, Cond.steady])
set_option maxRecDepth 20000 in
theorem md_g168 : mm_Good mm_r168 := mm_good_of (by decide +kernel) (by decide +kernel)
set_option maxRecDepth 20000 in
theorem md_c168 : mm_GoodC mm_r168 := mm_goodC_of md_g168 (by decide +kernel) (by decide +kernel) rfl (by simp [goodWord, Cond.onTables, Cond.keeps, Cond.steady])
set_option maxRecDepth 20000 in
theorem md_g169 : mm_Good mm_r169 := mm_good_of (by decide +kernel) (by decide +kernel)
set_option maxRecDepth 20000 in
theorem md_c169 : mm_GoodC mm_r169 := mm_goodC_of md_g169 (by decide +kernel) (by decide +kernel) rfl (by simp [goodWord, Cond.onTables, Cond.keeps, Cond.steady])
set_option maxRecDepth 20000 in
theorem md_g170 : mm_Good mm_r170 := mm_good_of (by decide +kernel) (by decide +kernel)
set_option maxRecDepth 20000 in
theorem md_c170 : mm_GoodC mm_r170 := mm_goodC_of md_g170 (by decide +kernel) (by decide +kernel) rfl (by simp [goodWord, Cond.onTables, Cond.keeps, Cond.steady])
set_option maxRecDepth 20000 in
theorem md_g171 : mm_Good mm_r171 := mm_good_of (by decide +kernel) (by decide +kernel)
set_option maxRecDepth 20000 in
theorem md_c171 : mm_GoodC mm_r171 := mm_goodC_of md_g171 (by decide +kernel) (by decide +kernel) rfl (by simp [goodWord, Cond.onTables, Cond.keeps, Cond.steady])
set_option maxRecDepth 20000 in
theorem md_g172 : mm_Good mm_r172 := mm_good_of (by decide +kernel) (by decide +kernel)
set_option maxRecDepth 20000 in
theorem md_c172 : mm_GoodC mm_r172 := mm_goodC_of md_g172 (by decide +kernel) (by decide +kernel) rfl (by simp [goodWord, Cond.onTables, Cond.keeps, Cond.steady])
set_option maxRecDepth 20000 in
theorem md_g173 : mm_Good mm_r173 := mm_good_of (by decide +kernel) (by decide +kernel)
set_option maxRecDepth 20000 in
theorem md_c173 : mm_GoodC mm_r173 := mm_goodC_of md_g173 (by decide +kernel) (by decide +kernel) rfl (by simp [goodWord, Cond.onTables, Cond.keeps, Cond.steady])
set_option maxRecDepth 20000 in
theorem md_g174 : mm_Good mm_r174 := mm_good_of (by decide +kernel) (by decide +kernel)
set_option maxRecDepth 20000 in
theorem md_c174 : mm_GoodC mm_r174 := mm_goodC_of md_g174 (by decide +kernel) (by decide +kernel) rfl (by simp [goodWord, Cond.onTables, Cond.keeps, Cond.steady])
set_option maxRecDepth 20000 in
theorem md_g175 : mm_Good mm_r175 := mm_good_of (by decide +kernel) (by decide +kernel)
set_option maxRecDepth 20000 in
theorem md_c175 : mm_GoodC mm_r175 := mm_goodC_of md_g175 (by decide +kernel) (by decide +kernel) rfl (by simp [goodWord, Cond.onTables, Cond.keeps, Cond.steady])
set_option maxRecDepth 20000 in
theorem md_g176 : mm_Good mm_r176 := mm_good_of (by decide +kernel) (by decide +kernel)
set_option maxRecDepth 20000 in
theorem md_c176 : mm_GoodC mm_r176 := mm_goodC_of md_g176 (by decide +kernel) (by decide +kernel) rfl (by simp [goodWord, Cond.onTables, Cond.keeps, Cond.steady])
set_option maxRecDepth 20000 in
theorem md_g177 : mm_Good mm_r177 := mm_good_of (by decide +kernel) (by decide +kernel)
set_option maxRecDepth 20000 in
theorem md_c177 : mm_GoodC mm_r177 := mm_goodC_of md_g177 (by decide +kernel) (by decide +kernel) rfl (by simp [goodWord, Cond.onTables, Cond.keeps, Cond.steady])
set_option maxRecDepth 20000 in
theorem md_g178 : mm_Good mm_r178 := mm_good_of (by decide +kernel) (by decide +kernel)
set_option maxRecDepth 20000 in
theorem md_c178 : mm_GoodC mm_r178 := mm_goodC_of md_g178 (by decide +kernel) (by decide +kernel) rfl (by simp [goodWord, Cond.onTables, Cond.keeps, Cond.steady])
set_option maxRecDepth 20000 in
theorem md_g179 : mm_Good mm_r179 := mm_good_of (by decide +kernel) (by decide +kernel)
set_option maxRecDepth 20000 in
theorem md_c179 : mm_GoodC mm_r179 := mm_goodC_of md_g179 (by decide +kernel) (by decide +kernel) rfl (by simp [goodWord, Cond.onTables, Cond.keeps, Cond.steady])
set_option maxRecDepth 20000 in
theorem md_g180 : mm_Good mm_r180 := mm_good_of (by decide +kernel) (by decide +kernel)
set_option maxRecDepth 20000 in
theorem md_c180 : mm_GoodC mm_r180 := mm_goodC_of md_g180 (by decide +kernel) (by decide +kernel) rfl (by simp [goodWord, Cond.onTables, Cond.keeps, Cond.steady])
set_option maxRecDepth 20000 in
theorem md_g181 : mm_Good mm_r181 := mm_good_of (by decide +kernel) (by decide +kernel)
set_option maxRecDepth 20000 in
theorem md_c181 : mm_GoodC mm_r181 := mm_goodC_of md_g181 (by decide +kernel) (by decide +kernel) rfl (by simp [goodWord, Cond.onTables, Cond.keeps, Cond.steady])
set_option maxRecDepth 20000 in
theorem md_g182 : mm_Good mm_r182 := mm_good_of (by decide +kernel) (by decide +kernel)
set_option maxRecDepth 20000 in
theorem md_c182 : mm_GoodC mm_r182 := mm_goodC_of md_g182 (by decide +kernel) (by decide +kernel) rfl (by simp [goodWord, Cond.onTables, Cond.keeps, Cond.steady])
set_option maxRecDepth 20000 in
theorem md_g183 : mm_Good mm_r183 := mm_good_of (by decide +kernel) (by decide +kernel)
set_option maxRecDepth 20000 in
theorem md_c183 : mm_GoodC mm_r183 := mm_goodC_of md_g183 (by decide +kernel) (by decide +kernel) rfl (by simp [goodWord, Cond.onTables, Cond.keeps, Cond.steady])
set_option maxRecDepth 20000 in
theorem md_g184 : mm_Good mm_r184 := mm_good_of (by decide +kernel) (by decide +kernel)
set_option maxRecDepth 20000 in
theorem md_c184 : mm_GoodC mm_r184 := mm_goodC_of md_g184 (by decide +kernel) (by decide +kernel) rfl (by simp [goodWord, Cond.onTables, Cond.keeps, Cond.steady])
set_option maxRecDepth 20000 in
theorem md_g185 : mm_Good mm_r185 := mm_good_of (by decide +kernel) (by decide +kernel)
set_option maxRecDepth 20000 in
theorem md_c185 : mm_GoodC mm_r185 := mm_goodC_of md_g185 (by decide +kernel) (by decide +kernel) rfl (by simp [goodWord, Cond.onTables, Cond.keeps, Cond.steady])
set_option maxRecDepth 20000 in
theorem md_g186 : mm_Good mm_r186 := mm_good_of (by decide +kernel) (by decide +kernel)
set_option maxRecDepth 20000 in
theorem md_c186 : mm_GoodC mm_r186 := mm_goodC_of md_g186 (by decide +kernel) (by decide +kernel) rfl (by simp [goodWord, Cond.onTables, Cond.keeps, Cond.steady])
set_option maxRecDepth 20000 in
theorem md_g187 : mm_Good mm_r187 := mm_good_of (by decide +kernel) (by decide +kernel)
set_option maxRecDepth 20000 in
theorem md_c187 : mm_GoodC mm_r187 := mm_goodC_of md_g187 (by decide +kernel) (by decide +kernel) rfl (by simp [goodWord, Cond.onTables, Cond.keeps, Cond.steady])
set_option maxRecDepth 20000 in
theorem md_g188 : mm_Good mm_r188 := mm_good_of (by decide +kernel) (by decide +kernel)
set_option maxRecDepth 20000 in
theorem md_c188 : mm_GoodC mm_r188 := mm_goodC_of md_g188 (by decide +kernel) (by decide +kernel) rfl (by simp [goodWord, Cond.onTables, Cond.keeps, Cond.steady])
set_option maxRecDepth 20000 in
theorem md_g189 : mm_Good mm_r189 := mm_good_of (by decide +kernel) (by decide +kernel)
set_option maxRecDepth 20000 in
theorem md_c189 : mm_GoodC mm_r189 := mm_goodC_of md_g189 (by decide +kernel) (by decide +kernel) rfl (by simp [goodWord, Cond.onTables, Cond.keeps, Cond.steady])
set_option maxRecDepth 20000 in
theorem md_g190 : mm_Good mm_r190 := mm_good_of (by decide +kernel) (by decide +kernel)
set_option maxRecDepth 20000 in
theorem md_c190 : mm_GoodC mm_r190 := mm_goodC_of md_g190 (by decide +kernel) (by decide +kernel) rfl (by simp [goodWord, Cond.onTables, Cond.keeps, Cond.steady])
set_option maxRecDepth 20000 in
theorem md_g191 : mm_Good mm_r191 := mm_good_of (by decide +kernel) (by decide +kernel)
set_option maxRecDepth 20000 in
theorem md_c191 : mm_GoodC mm_r191 := mm_goodC_of md_g191 (by decide +kernel) (by decide +kernel) rfl (by simp [goodWord, Cond.onTables, Cond.keeps, Cond.steady])
set_option maxRecDepth 20000 in
theorem md_g192 : mm_Good mm_r192 := mm_good_of (by decide +kernel) (by decide +kernel)
set_option maxRecDepth 20000 in
theorem md_c192 : mm_GoodC mm_r192 := mm_goodC_of md_g192 (by decide +kernel) (by decide +kernel) rfl (by simp [goodWord, Cond.onTables, Cond.keeps, Cond.steady])
set_option maxRecDepth 20000 in
theorem md_g193 : mm_Good mm_r193 := mm_good_of (by decide +kernel) (by decide +kernel)
set_option maxRecDepth 20000 in
theorem md_c193 : mm_GoodC mm_r193 := mm_goodC_of md_g193 (by decide +kernel) (by decide +kernel) rfl (by simp [goodWord, Cond.onTables, Cond.keeps, Cond.steady])
set_option maxRecDepth 20000 in
theorem md_g194 : mm_Good mm_r194 := mm_good_of (by decide +kernel) (by decide +kernel)
set_option maxRecDepth 20000 in
theorem md_c194 : mm_GoodC mm_r194 := mm_goodC_of md_g194 (by decide +kernel) (by decide +kernel) rfl (by simp [goodWord, Cond.onTables, Cond.keeps, Cond.steady])
set_option maxRecDepth 20000 in
theorem md_g195 : mm_Good mm_r195 := mm_good_of (by decide +kernel) (by decide +kernel)
set_option maxRecDepth 20000 in
theorem md_c195 : mm_GoodC mm_r195 := mm_goodC_of md_g195 (by decide +kernel) (by decide +kernel) rfl (by simp [goodWord, Cond.onTables, Cond.keeps, Cond.steady])
set_option maxRecDepth 20000 in
theorem md_g196 : mm_Good mm_r196 := mm_good_of (by decide +kernel) (by decide +kernel)
set_option maxRecDepth 20000 in
theorem md_c196 : mm_GoodC mm_r196 := mm_goodC_of md_g196 (by decide +kernel) (by decide +kernel) rfl (by simp [goodWord, Cond.onTables, Cond.keeps, Cond.steady])
set_option maxRecDepth 20000 in
theorem md_g197 : mm_Good mm_r197 := mm_good_of (by decide +kernel) (by decide +kernel)
set_option maxRecDepth 20000 in
theorem md_c197 : mm_GoodC mm_r197 := mm_goodC_of md_g197 (by decide +kernel) (by decide +kernel) rfl (by simp [goodWord, Cond.onTables, Cond.keeps, Cond.steady])
set_option maxRecDepth 20000 in
theorem md_g198 : mm_Good mm_r198 := mm_good_of (by decide +kernel) (by decide +kernel)
set_option maxRecDepth 20000 in
theorem md_c198 : mm_GoodC mm_r198 := mm_goodC_of md_g198 (by decide +kernel) (by decide +kernel) rfl (by simp [goodWord, Cond.onTables, Cond.keeps, Cond.steady])
set_option maxRecDepth 20000 in
theorem md_g199 : mm_Good mm_r199 := mm_good_of (by decide +kernel) (by decide +kernel)
set_option maxRecDepth 20000 in
theorem md_c199 : mm_GoodC mm_r199 := mm_goodC_of md_g199 (by decide +kernel) (by decide +kernel) rfl (by simp [goodWord, Cond.onTables, Cond.keeps, Cond.steady])
end
section
set_option maxRecDepth 20000 in
theorem md_g200 : mm_Good mm_r200 := mm_good_of (by decide +kernel) (by decide +kernel)
set_option maxRecDepth 20000 in
theorem md_c200 : mm_GoodC mm_r200 := mm_goodC_of md_g200 (by decide +kernel) (by decide +kernel) rfl (by simp [goodWord, Cond.onTables, Cond.keeps, Cond.steady])
set_option maxRecDepth 20000 in
theorem md_g201 : mm_Good mm_r201 := mm_good_of (by decide +kernel) (by decide +kernel)
set_option maxRecDepth 20000 in
theorem md_c201 : mm_GoodC mm_r201 := mm_goodC_of md_g201 (by decide +kernel) (by decide +kernel) rfl (by simp [goodWord, Cond.onTables, Cond.keeps, Cond.steady])
end
section
set_option maxRecDepth 20000 in
theorem md_tL_0 : mm_tL_0.all (fun q => decide (decode cL_law q.1 = .ok q.2)) = true := by decide +kernel
set_option maxRecDepth 20000 in
theorem md_tL_1 : mm_tL_1.all (fun q => decide (decode cL_law q.1 = .ok q.2)) = true := by decide +kernel
set_option maxRecDepth 20000 in
theorem md_tL_2 : mm_tL_2.all (fun q => decide (decode cL_law q.1 = .ok q.2)) = true := by decide +kernel
set_option maxRecDepth 20000 in
theorem md_tL_3 : mm_tL_3.all (fun q => decide (decode cL_law q.1 = .ok q.2)) = true := by decide +kernel
set_option maxRecDepth 20000 in
theorem md_tL_4 : mm_tL_4.all (fun q => decide (decode cL_law q.1 = .ok q.2)) = true := by decide +kernel
set_option maxRecDepth 20000 in
theorem md_tL_5 : mm_tL_5.all (fun q => decide (decode cL_law q.1 = .ok q.2)) = true := by decide +kernel
end
section
set_option maxRecDepth 20000 in
theorem md_tL_6 : mm_tL_6.all (fun q => decide (decode cL_law q.1 = .ok q.2)) = true := by decide +kernel
set_option maxRecDepth 20000 in
theorem md_tL_7 : mm_tL_7.all (fun q => decide (decode cL_law q.1 = .ok q.2)) = true := by decide +kernel
set_option maxRecDepth 20000 in
theorem md_tL_8 : mm_tL_8.all (fun q => decide (decode cL_law q.1 = .ok q.2)) = true := by decide +kernel
set_option maxRecDepth 20000 in
theorem md_tL_9 : mm_tL_9.all (fun q => decide (decode cL_law q.1 = .ok q.2)) = true := by decide +kernel
set_option maxRecDepth 20000 in
theorem md_tL_10 : mm_tL_10.all (fun q => decide (decode cL_law q.1 = .ok q.2)) = true := by decide +kernel
set_option maxRecDepth 20000 in
theorem md_tL_11 : mm_tL_11.all (fun q => decide (decode cL_law q.1 = .ok q.2)) = true := by decide +kernel
end
section
set_option maxRecDepth 20000 in
theorem md_tL_12 : mm_tL_12.all (fun q => decide (decode cL_law q.1 = .ok q.2)) = true := by decide +kernel
set_option maxRecDepth 20000 in
theorem md_tL_13 : mm_tL_13.all (fun q => decide (decode cL_law q.1 = .ok q.2)) = true := by decide +kernel
set_option maxRecDepth 20000 in
theorem md_tL_14 : mm_tL_14.all (fun q => decide (decode cL_law q.1 = .ok q.2)) = true := by decide +kernel
set_option maxRecDepth 20000 in
theorem md_tL_15 : mm_tL_15.all (fun q => decide (decode cL_law q.1 = .ok q.2)) = true := by decide +kernel
set_option maxRecDepth 20000 in
theorem md_tL_16 : mm_tL_16.all (fun q => decide (decode cL_law q.1 = .ok q.2)) = true := by decide +kernel
set_option maxRecDepth 20000 in
theorem md_tL_17 : mm_tL_17.all (fun q => decide (decode cL_law q.1 = .ok q.2)) = true := by decide +kernel
end
section
set_option maxRecDepth 20000 in
theorem md_tL_18 : mm_tL_18.all (fun q => decide (decode cL_law q.1 = .ok q.2)) = true := by decide +kernel
set_option maxRecDepth 20000 in
theorem md_tL_19 : mm_tL_19.all (fun q => decide (decode cL_law q.1 = .ok q.2)) = true := by decide +kernel
set_option maxRecDepth 20000 in
theorem md_tL_20 : mm_tL_20.all (fun q => decide (decode cL_law q.1 = .ok q.2)) = true := by decide +kernel
set_option maxRecDepth 20000 in
theorem md_tL_21 : mm_tL_21.all (fun q => decide (decode cL_law q.1 = .ok q.2)) = true := by decide +kernel
set_option maxRecDepth 20000 in
theorem md_tL_22 : mm_tL_22.all (fun q => decide (decode cL_law q.1 = .ok q.2)) = true := by decide +kernel
set_option maxRecDepth 20000 in
theorem md_tL_23 : mm_tL_23.all (fun q => decide (decode cL_law q.1 = .ok q.2)) = true := by decide +kernel
end
section
set_option maxRecDepth 20000 in
theorem md_tL_24 : mm_tL_24.all (fun q => decide (decode cL_law q.1 = .ok q.2)) = true := by decide +kernel
set_option maxRecDepth 20000 in
theorem md_tL_25 : mm_tL_25.all (fun q => decide (decode cL_law q.1 = .ok q.2)) = true := by decide +kernel
set_option maxRecDepth 20000 in
theorem md_tL_26 : mm_tL_26.all (fun q => decide (decode cL_law q.1 = .ok q.2)) = true := by decide +kernel
set_option maxRecDepth 20000 in
theorem md_tL_27 : mm_tL_27.all (fun q => decide (decode cL_law q.1 = .ok q.2)) = true := by decide +kernel
set_option maxRecDepth 20000 in
theorem md_tL_28 : mm_tL_28.all (fun q => decide (decode cL_law q.1 = .ok q.2)) = true := by decide +kernel
set_option maxRecDepth 20000 in
theorem md_tL_29 : mm_tL_29.all (fun q => decide (decode cL_law q.1 = .ok q.2)) = true := by decide +kernel
end
section
set_option maxRecDepth 20000 in
theorem md_tL_30 : mm_tL_30.all (fun q => decide (decode cL_law q.1 = .ok q.2)) = true := by decide +kernel
set_option maxRecDepth 20000 in
theorem md_tL_31 : mm_tL_31.all (fun q => decide (decode cL_law q.1 = .ok q.2)) = true := by decide +kernel
set_option maxRecDepth 20000 in
theorem md_tL_32 : mm_tL_32.all (fun q => decide (decode cL_law q.1 = .ok q.2)) = true := by decide +kernel
set_option maxRecDepth 20000 in
theorem md_tL_33 : mm_tL_33.all (fun q => decide (decode cL_law q.1 = .ok q.2)) = true := by decide +kernel
set_option maxRecDepth 20000 in
theorem md_tL_34 : mm_tL_34.all (fun q => decide (decode cL_law q.1 = .ok q.2)) = true := by decide +kernel
set_option maxRecDepth 20000 in
theorem md_tL_35 : mm_tL_35.all (fun q => decide (decode cL_law q.1 = .ok q.2)) = true := by decide +kernel
end
section
set_option maxRecDepth 20000 in
theorem md_tL_36 : mm_tL_36.all (fun q => decide (decode cL_law q.1 = .ok q.2)) = true := by decide +kernel
set_option maxRecDepth 20000 in
theorem md_tL_37 : mm_tL_37.all (fun q => decide (decode cL_law q.1 = .ok q.2)) = true := by decide +kernel
set_option maxRecDepth 20000 in
theorem md_tL_38 : mm_tL_38.all (fun q => decide (decode cL_law q.1 = .ok q.2)) = true := by decide +kernel
set_option maxRecDepth 20000 in
theorem md_tL_39 : mm_tL_39.all (fun q => decide (decode cL_law q.1 = .ok q.2)) = true := by decide +kernel
set_option maxRecDepth 20000 in
theorem md_tL_40 : mm_tL_40.all (fun q => decide (decode cL_law q.1 = .ok q.2)) = true := by decide +kernel
set_option maxRecDepth 20000 in
theorem md_tL_41 : mm_tL_41.all (fun q => decide (decode cL_law q.1 = .ok q.2)) = true := by decide +kernel
end
section
theorem md_tok : mm_tok mm_r202 = true := by
  show ([mm_tL_0, mm_tL_1, mm_tL_2, mm_tL_3, mm_tL_4, mm_tL_5, mm_tL_6, mm_tL_7, mm_tL_8, mm_tL_9, mm_tL_10, mm_tL_11, mm_tL_12, mm_tL_13, mm_tL_14, mm_tL_15, mm_tL_16, mm_tL_17, mm_tL_18, mm_tL_19, mm_tL_20, mm_tL_21, mm_tL_22, mm_tL_23, mm_tL_24, mm_tL_25, mm_tL_26, mm_tL_27, mm_tL_28, mm_tL_29, mm_tL_30, mm_tL_31, mm_tL_32, mm_tL_33, mm_tL_34, mm_tL_35, mm_tL_36, mm_tL_37, mm_tL_38, mm_tL_39, mm_tL_40, mm_tL_41] : mm_T).all (fun l => l.all (fun q => decide (decode cL_law q.1 = .ok q.2))) = true
  simp only [List.all_cons, List.all_nil, Bool.and_true, md_tL_0, md_tL_1, md_tL_2, md_tL_3, md_tL_4, md_tL_5, md_tL_6, md_tL_7, md_tL_8, md_tL_9, md_tL_10, md_tL_11, md_tL_12, md_tL_13, md_tL_14, md_tL_15, md_tL_16, md_tL_17, md_tL_18, md_tL_19, md_tL_20, md_tL_21, md_tL_22, md_tL_23, md_tL_24, md_tL_25, md_tL_26, md_tL_27, md_tL_28, md_tL_29, md_tL_30, md_tL_31, md_tL_32, md_tL_33, md_tL_34, md_tL_35, md_tL_36, md_tL_37, md_tL_38, md_tL_39, md_tL_40, md_tL_41]
set_option maxRecDepth 20000 in
theorem md_law : mm_Good mm_rL := mm_good_of md_tok (by decide +kernel)
set_option maxRecDepth 20000 in
theorem mm_all : ∀ (mj : Nat) (r : mm_R), mm_rs[mj]? = some r → mm_GoodC r := by
  intro mj r h
  match mj, h with
  | 0, h => cases h; exact md_c0
  | 1, h => cases h; exact md_c1
  | 2, h => cases h; exact md_c2
  | 3, h => cases h; exact md_c3
  | 4, h => cases h; exact md_c4
  | 5, h => cases h; exact md_c5
  | 6, h => cases h; exact md_c6
  | 7, h => cases h; exact md_c7
  | 8, h => cases h; exact md_c8
  | 9, h => cases h; exact md_c9
  | 10, h => cases h; exact md_c10
  | 11, h => cases h; exact md_c11
  | 12, h => cases h; exact md_c12
  | 13, h => cases h; exact md_c13
  | 14, h => cases h; exact md_c14
  | 15, h => cases h; exact md_c15
  | 16, h => cases h; exact md_c16
  | 17, h => cases h; exact md_c17
  | 18, h => cases h; exact md_c18
  | 19, h => cases h; exact md_c19
  | 20, h => cases h; exact md_c20
  | 21, h => cases h; exact md_c21
  | 22, h => cases h; exact md_c22
  | 23, h => cases h; exact md_c23
  | 24, h => cases h; exact md_c24
  | 25, h => cases h; exact md_c25
  | 26, h => cases h; exact md_c26
  | 27, h => cases h; exact md_c27
  | 28, h => cases h; exact md_c28
  | 29, h => cases h; exact md_c29
  | 30, h => cases h; exact md_c30
  | 31, h => cases h; exact md_c31
  | 32, h => cases h; exact md_c32
  | 33, h => cases h; exact md_c33
  | 34, h => cases h; exact md_c34
  | 35, h => cases h; exact md_c35
  | 36, h => cases h; exact md_c36
  | 37, h => cases h; exact md_c37
  | 38, h => cases h; exact md_c38
  | 39, h => cases h; exact md_c39
  | 40, h => cases h; exact md_c40
  | 41, h => cases h; exact md_c41
  | 42, h => cases h; exact md_c42
  | 43, h => cases h; exact md_c43
  | 44, h => cases h; exact md_c44
  | 45, h => cases h; exact md_c45
  | 46, h => cases h; exact md_c46
  | 47, h => cases h; exact md_c47
  | 48, h => cases h; exact md_c48
  | 49, h => cases h; exact md_c49
  | 50, h => cases h; exact md_c50
  | 51, h => cases h; exact md_c51
  | 52, h => cases h; exact md_c52
  | 53, h => cases h; exact md_c53
  | 54, h => cases h; exact md_c54
  | 55, h => cases h; exact md_c55
  | 56, h => cases h; exact md_c56
  | 57, h => cases h; exact md_c57
  | 58, h => cases h; exact md_c58
  | 59, h => cases h; exact md_c59
  | 60, h => cases h; exact md_c60
  | 61, h => cases h; exact md_c61
  | 62, h => cases h; exact md_c62
  | 63, h => cases h; exact md_c63
  | 64, h => cases h; exact md_c64
  | 65, h => cases h; exact md_c65
  | 66, h => cases h; exact md_c66
  | 67, h => cases h; exact md_c67
  | 68, h => cases h; exact md_c68
  | 69, h => cases h; exact md_c69
  | 70, h => cases h; exact md_c70
  | 71, h => cases h; exact md_c71
  | 72, h => cases h; exact md_c72
  | 73, h => cases h; exact md_c73
  | 74, h => cases h; exact md_c74
  | 75, h => cases h; exact md_c75
  | 76, h => cases h; exact md_c76
  | 77, h => cases h; exact md_c77
  | 78, h => cases h; exact md_c78
  | 79, h => cases h; exact md_c79
  | 80, h => cases h; exact md_c80
  | 81, h => cases h; exact md_c81
  | 82, h => cases h; exact md_c82
  | 83, h => cases h; exact md_c83
  | 84, h => cases h; exact md_c84
  | 85, h => cases h; exact md_c85
  | 86, h => cases h; exact md_c86
  | 87, h => cases h; exact md_c87
  | 88, h => cases h; exact md_c88
  | 89, h => cases h; exact md_c89
  | 90, h => cases h; exact md_c90
  | 91, h => cases h; exact md_c91
  | 92, h => cases h; exact md_c92
  | 93, h => cases h; exact md_c93
  | 94, h => cases h; exact md_c94
  | 95, h => cases h; exact md_c95
  | 96, h => cases h; exact md_c96
  | 97, h => cases h; exact md_c97
  | 98, h => cases h; exact md_c98
  | 99, h => cases h; exact md_c99
  | 100, h => cases h; exact md_c100
  | 101, h => cases h; exact md_c101
  | 102, h => cases h; exact md_c102
  | 103, h => cases h; exact md_c103
  | 104, h => cases h; exact md_c104
  | 105, h => cases h; exact md_c105
  | 106, h => cases h; exact md_c106
  | 107, h => cases h; exact md_c107
  | 108, h => cases h; exact md_c108
  | 109, h => cases h; exact md_c109
  | 110, h => cases h; exact md_c110
  | 111, h => cases h; exact md_c111
  | 112, h => cases h; exact md_c112
  | 113, h => cases h; exact md_c113
  | 114, h => cases h; exact md_c114
  | 115, h => cases h; exact md_c115
  | 116, h => cases h; exact md_c116
  | 117, h => cases h; exact md_c117
  | 118, h => cases h; exact md_c118
  | 119, h => cases h; exact md_c119
  | 120, h => cases h; exact md_c120
  | 121, h => cases h; exact md_c121
  | 122, h => cases h; exact md_c122
  | 123, h => cases h; exact md_c123
  | 124, h => cases h; exact md_c124
  | 125, h => cases h; exact md_c125
  | 126, h => cases h; exact md_c126
  | 127, h => cases h; exact md_c127
  | 128, h => cases h; exact md_c128
  | 129, h => cases h; exact md_c129
  | 130, h => cases h; exact md_c130
  | 131, h => cases h; exact md_c131
  | 132, h => cases h; exact md_c132
  | 133, h => cases h; exact md_c133
  | 134, h => cases h; exact md_c134
  | 135, h => cases h; exact md_c135
  | 136, h => cases h; exact md_c136
  | 137, h => cases h; exact md_c137
  | 138, h => cases h; exact md_c138
  | 139, h => cases h; exact md_c139
  | 140, h => cases h; exact md_c140
  | 141, h => cases h; exact md_c141
  | 142, h => cases h; exact md_c142
  | 143, h => cases h; exact md_c143
  | 144, h => cases h; exact md_c144
  | 145, h => cases h; exact md_c145
  | 146, h => cases h; exact md_c146
  | 147, h => cases h; exact md_c147
  | 148, h => cases h; exact md_c148
  | 149, h => cases h; exact md_c149
  | 150, h => cases h; exact md_c150
  | 151, h => cases h; exact md_c151
  | 152, h => cases h; exact md_c152
  | 153, h => cases h; exact md_c153
  | 154, h => cases h; exact md_c154
  | 155, h => cases h; exact md_c155
  | 156, h => cases h; exact md_c156
  | 157, h => cases h; exact md_c157
  | 158, h => cases h; exact md_c158
  | 159, h => cases h; exact md_c159
  | 160, h => cases h; exact md_c160
  | 161, h => cases h; exact md_c161
  | 162, h => cases h; exact md_c162
  | 163, h => cases h; exact md_c163
  | 164, h => cases h; exact md_c164
  | 165, h => cases h; exact md_c165
  | 166, h => cases h; exact md_c166
  | 167, h => cases h; exact md_c167
  | 168, h => cases h; exact md_c168
  | 169, h => cases h; exact md_c169
  | 170, h => cases h; exact md_c170
  | 171, h => cases h; exact md_c171
  | 172, h => cases h; exact md_c172
  | 173, h => cases h; exact md_c173
  | 174, h => cases h; exact md_c174
  | 175, h => cases h; exact md_c175
  | 176, h => cases h; exact md_c176
  | 177, h => cases h; exact md_c177
  | 178, h => cases h; exact md_c178
  | 179, h => cases h; exact md_c179
  | 180, h => cases h; exact md_c180
  | 181, h => cases h; exact md_c181
  | 182, h => cases h; exact md_c182
  | 183, h => cases h; exact md_c183
  | 184, h => cases h; exact md_c184
  | 185, h => cases h; exact md_c185
  | 186, h => cases h; exact md_c186
  | 187, h => cases h; exact md_c187
  | 188, h => cases h; exact md_c188
  | 189, h => cases h; exact md_c189
  | 190, h => cases h; exact md_c190
  | 191, h => cases h; exact md_c191
  | 192, h => cases h; exact md_c192
  | 193, h => cases h; exact md_c193
  | 194, h => cases h; exact md_c194
  | 195, h => cases h; exact md_c195
  | 196, h => cases h; exact md_c196
  | 197, h => cases h; exact md_c197
  | 198, h => cases h; exact md_c198
  | 199, h => cases h; exact md_c199
  | 200, h => cases h; exact md_c200
  | 201, h => cases h; exact md_c201
  | k + 202, h => simp [mm_rs] at h
end
section
/-! THE CLAIM OUT OF ONE WALK OF THE LAW'S BODY. Your part is whole_start (and what it stands on); all else here is the same for every law, but numbers. -/
def R_law : String := "RainOrganLaw"
def lw_P (b : Addr) (xs : List Int32) (args : Array Value) (s : State) : Prop := args = #[.ref b] ∧ s.IntsAt b xs ∧ xs.length ≤ 2560 ∧ (Jvm.Cond.and given_1 narrow_1).before args s = true
def lw_Q (_ : Array Value) (s : State) (o : Outcome) (t : State) : Prop := o = .returned (some (.int 1)) ∧ Framed s o t [] 600000 7302250
def lw_Z (below : List Frame) (a : Array Value) (s : State) : State → Prop := fun t => ∃ o, t.status = .running ∧ Ended t below o ∧ lw_Q a s o t
/-- the law's own end, with 1 on the stack, nothing written that was there before, its room as the claim has it -/
theorem lw_ret {p : Program} {l : Launch} {e : Env} {s : State} {m : MethodId} {below : List Frame} {meth : Method} {c : Code} {b : Nat} (hx : p.tables.exec = Jvm.exec) (hb : c.code = code) (hr : meth.sig.returnType = ret) (hlocks : meth.locks = false) {pc : Nat} {H : Heap} {ls : Array Slot} (hdg : decode code pc = .ok (.ireturn, 1)) : W p l e room_1 s m #[Value.ref b] below meth c H [] 600000 7302250 (lw_Z below #[Value.ref b] s) (F0 m pc ls [.int 1]) := by
  intro T hT X
  obtain ⟨fs, hret, hrun, hended, hW, hframe⟩ := X.leave (v := some (.int 1)) (hlocks := hlocks) (fun h => by rw [hr] at h; cases h)
  have hmeth' : T.vm.method? m = some meth := X.method'
  refine ⟨T.setFrames fs, ?_, .returned (some (.int 1)), hrun, hended, rfl, ⟨_, rfl⟩, hW, hframe⟩
  jvm_step X.here [X.here.top, hx, hb, hdg, hmeth', hr, ret, narrow_b1]
  (try refine ⟨rfl, ?_⟩); (try refine ⟨rfl, ?_⟩)
  first | (intro acts; rw [hret _ acts rfl rfl rfl]) | rw [hret _ _ rfl rfl rfl]
  exact Steps.refl _
/-- what holds at the law's entry: the machine, the code, the tables' words (any of lw_tbl by 'hts w (by decide +kernel)'), the script of L ints xs at the cell b, what the Statement gives of the start (any of its parts by flat_of_before) -/
def lw_At (p : Program) (s : State) (m : MethodId) (meth : Method) (c : Code) (b L : Nat) (xs : Nat → Int32) : Prop :=
  p.tables.exec = Jvm.exec ∧ c.code = code ∧ meth.sig.returnType = ret ∧ c.maxLocals = 4 ∧ s.vm.findClass R_law = some m.cls ∧ (∀ w ∈ lw_tbl, w.before #[Value.ref b] s = true) ∧ va_X b L xs s s.heap ∧ b < s.heap.size ∧ meth.locks = false ∧ (Jvm.Cond.and given_1 narrow_1).before #[Value.ref b] s = true
theorem mm_ls0 : mm_has [(3, 13)] [.laysStatic "java/lang/String" "COMPACT_STRINGS" "Z"] = true := by decide +kernel
theorem mm_ls1 : mm_has [(3, 29)] [.laysStatic "jdk/internal/util/Preconditions" "SIOOBE_FORMATTER" "Ljava/util/function/BiFunction;"] = true := by decide +kernel
theorem mm_ls2 : mm_has [(1, 13)] [.initialized "java/lang/String"] = true := by decide +kernel
theorem mm_ls3 : mm_has [(1, 15)] [.initialized "jdk/internal/util/Preconditions"] = true := by decide +kernel
theorem mm_srf : mm_has [(2, 239), (3, 68), (3, 77), (3, 78), (3, 79), (3, 92), (3, 93), (3, 94), (3, 95), (3, 96), (3, 97), (3, 101), (3, 114), (3, 119), (3, 124)] (mm_tl.map (fun q => .stringRef RX5 q.1 q.2)) = true := by decide +kernel
def mm_L0 : mm_L := mm_en mm_rL [.retAddr 0]
/-- what is wanted of the mini-machine: on every script the law answers 1, within its room -/
def mm_Want (N : Nat) : Prop := ∀ xs : List Int32, xs.length ≤ N → ∃ (f : Nat) (h' : mm_H), mm_x (some xs) f 13 mm_rL 0 mm_L0 [] [] = some (some (.int 1), h') ∧ h'.length ≤ 600000 ∧ mm_sz h' ≤ 7302250
theorem mm_arrC {s : State} {args : Array Value} {ty : FieldType} (h : (Cond.arrayClass ty).before args s = true) (hno : ∀ C, ty ≠ .object C) : ∃ c : ClassId, ArrOfT s c ty ∧ va_RA s c ty := by
  obtain ⟨c, k, comp, f1, f2, f3⟩ := Cond.arrayClass_spec h
  refine ⟨c, fun N z => ⟨(fun k h => by cases h), k, f2, comp, f3⟩, ?_⟩
  unfold va_RA
  split
  · next C => exact absurd rfl (hno C)
  · exact f1
theorem mm_arrO {s : State} {args : Array Value} {C : String} (h : (Cond.arrayOver (.object C)).before args s = true) : ∃ c : ClassId, ArrOfT s c (.object C) ∧ va_RA s c (.object C) := by
  obtain ⟨comp, c, k, h1, h2, h3, h4, h5⟩ := Cond.arrayOver_spec h
  exact ⟨c, fun N z => ⟨(fun k h => by cases h), k, h3, comp, h4⟩, k, comp, h3, h4, h1, h5⟩
theorem mm_arrA {s : State} {args : Array Value} {t : FieldType} (h : (Cond.arrayOver (.array t)).before args s = true) : ∃ c : ClassId, ArrOfT s c (.array t) ∧ va_RA s c (.array t) := by
  obtain ⟨comp, c, k, h1, h2, h3, h4, h5⟩ := arrayOverA_spec h
  exact ⟨c, fun N z => ⟨(fun k h => by cases h), k, h3, comp, h4⟩, h5⟩
def mm_FL : List Cond := flatC (Jvm.Cond.and given_1 narrow_1)
def mm_tm (i : Nat) : Term := .string RX5 (mm_tl.getD i (0, "")).1
def mm_len : List Nat := mm_txt.map List.length
set_option maxRecDepth 20000 in
theorem mm_n1 : (List.range 15).all (fun i => decide (Cond.exactly (mm_tm i) "java/lang/String" ∈ mm_FL)) = true := by decide +kernel
set_option maxRecDepth 20000 in
theorem mm_n2 : (List.range 15).all (fun i => decide (Cond.eq (.field (mm_tm i) "java/lang/String" "coder" "B") (.int 0) ∈ mm_FL)) = true := by decide +kernel
set_option maxRecDepth 20000 in
theorem mm_n3 : (List.range 15).all (fun i => decide (Cond.arrayOf (.field (mm_tm i) "java/lang/String" "value" "[B") .byte ∈ mm_FL)) = true := by decide +kernel
set_option maxRecDepth 20000 in
theorem mm_n4 : (List.range 15).all (fun i => decide (Cond.eq (.length (.field (mm_tm i) "java/lang/String" "value" "[B")) (.int (Int32.ofNat (mm_len.getD i 0))) ∈ mm_FL)) = true := by decide +kernel
set_option maxRecDepth 20000 in
theorem mm_n5 : (List.range 15).all (fun i => (List.range (mm_len.getD i 0)).all (fun j => decide (Cond.eq (.elem (.field (mm_tm i) "java/lang/String" "value" "[B") (.int (Int32.ofNat j))) (.int ((mm_txt.getD i []).getD j 0)) ∈ mm_FL))) = true := by decide +kernel
def mm_ne (w : Cond) : Option (Nat × Nat) := match w with
  | .not (.eq (.string C a) (.string C' b)) => if C = RX5 ∧ C' = RX5 then some (a, b) else none
  | _ => none
theorem mm_ne_s {w : Cond} {a b : Nat} (h : mm_ne w = some (a, b)) : w = .not (.eq (.string RX5 a) (.string RX5 b)) := by
  unfold mm_ne at h
  split at h
  · split at h
    · next hc => cases h; rw [hc.1, hc.2]
    · cases h
  · cases h
def mm_nes : List (Nat × Nat) := [(93, 102), (93, 161), (102, 161), (93, 107), (102, 107), (161, 107), (93, 163), (102, 163), (161, 163), (107, 163), (93, 189), (102, 189), (161, 189), (107, 189), (163, 189), (93, 191), (102, 191), (161, 191), (107, 191), (163, 191), (189, 191), (93, 193), (102, 193), (161, 193), (107, 193), (163, 193), (189, 193), (191, 193), (93, 195), (102, 195), (161, 195), (107, 195), (163, 195), (189, 195), (191, 195), (193, 195), (93, 197), (102, 197), (161, 197), (107, 197), (163, 197), (189, 197), (191, 197), (193, 197), (195, 197), (93, 199), (102, 199), (161, 199), (107, 199), (163, 199), (189, 199), (191, 199), (193, 199), (195, 199), (197, 199), (93, 112), (102, 112), (161, 112), (107, 112), (163, 112), (189, 112), (191, 112), (193, 112), (195, 112), (197, 112), (199, 112), (93, 117), (102, 117), (161, 117), (107, 117), (163, 117), (189, 117), (191, 117), (193, 117), (195, 117), (197, 117), (199, 117), (112, 117), (93, 122), (102, 122), (161, 122), (107, 122), (163, 122), (189, 122), (191, 122), (193, 122), (195, 122), (197, 122), (199, 122), (112, 122), (117, 122), (93, 127), (102, 127), (161, 127), (107, 127), (163, 127), (189, 127), (191, 127), (193, 127), (195, 127), (197, 127), (199, 127), (112, 127), (117, 127), (122, 127)]
set_option maxRecDepth 20000 in
theorem mm_nes_e : mm_FL.filterMap mm_ne = mm_nes := by decide +kernel
theorem mm_n7 : (List.range 15).all (fun i => (List.range 15).all (fun j => Nat.beq i j || mm_nes.any (fun q => Nat.beq q.1 (mm_tl.getD i (0, "")).1 && Nat.beq q.2 (mm_tl.getD j (0, "")).1) || mm_nes.any (fun q => Nat.beq q.1 (mm_tl.getD j (0, "")).1 && Nat.beq q.2 (mm_tl.getD i (0, "")).1))) = true := by decide +kernel
theorem mm_ne_m {a b : Nat} (h : mm_nes.any (fun q => Nat.beq q.1 a && Nat.beq q.2 b) = true) : Cond.not (Cond.eq (.string RX5 a) (.string RX5 b)) ∈ mm_FL := by
  rw [List.any_eq_true] at h
  obtain ⟨⟨a', b'⟩, hq, hab⟩ := h
  rw [Bool.and_eq_true] at hab
  have e1 := Nat.eq_of_beq_eq_true hab.1
  have e2 := Nat.eq_of_beq_eq_true hab.2
  simp only at e1 e2
  subst e1 e2
  rw [← mm_nes_e] at hq
  obtain ⟨w, hw, he⟩ := List.mem_filterMap.mp hq
  rw [← mm_ne_s he]
  exact hw
theorem mm_n0 : ∀ i, i < 15 → mm_len.getD i 0 < 2 ^ 31 := by decide +kernel
theorem mm_nl : ∀ i, i < 15 → (mm_txt.getD i []).length = mm_len.getD i 0 := by decide +kernel
theorem mm_rg {f : Nat → Bool} {n i : Nat} (h : (List.range n).all f = true) (hi : i < n) : f i = true := List.all_eq_true.mp h i (List.mem_range.mpr hi)
theorem mm_start {p : Program} {e : Env} {s : State} {m : MethodId} {below : List Frame} {meth : Method} {c : Code} (l : Launch) (hflags : l.flags = flags0) (hw : mm_Want 2560) {b L : Nat} {xs : Nat → Int32} (hL : L ≤ 2560) (C0 : lw_At p s m meth c b L xs) : W p l e room_1 s m #[Value.ref b] below meth c s.heap [] 0 0 (lw_Z below #[Value.ref b] s) (entryFrame m ([Value.ref b] : List Value).toArray 4) := by
  obtain ⟨hx, hb, hr, hml, hown, hts, hX, hbl, hlocks, hgv⟩ := id C0
  have k0 := u_known (C := RX0) (T := TX0) (N := 8) (n := 8) hts inX0 (hts _ (mm_has_in mm_in0 _ List.mem_cons_self))
  have k1 := u_known (C := RX1) (T := TX1) (N := 4) (n := 4) hts inX1 (hts _ (mm_has_in mm_in1 _ List.mem_cons_self))
  have k2 := u_known (C := RX2) (T := TX2) (N := 12) (n := 12) hts inX2 (hts _ (mm_has_in mm_in2 _ List.mem_cons_self))
  have k3 := u_known (C := RX3) (T := TX3) (N := 3) (n := 3) hts inX3 (hts _ (mm_has_in mm_in3 _ List.mem_cons_self))
  have k4 := u_known (C := RX4) (T := TX4) (N := 16) (n := 16) hts inX4 (hts _ (mm_has_in mm_in4 _ List.mem_cons_self))
  have k5 := u_known (C := RX5) (T := TX5) (N := 10) (n := 10) hts inX5 (hts _ (mm_has_in mm_in5 _ List.mem_cons_self))
  have k6 := u_known (C := RX6) (T := TX6) (N := 7) (n := 7) hts inX6 (hts _ (mm_has_in mm_in6 _ List.mem_cons_self))
  have k7 := u_known (C := RX7) (T := TX7) (N := 3) (n := 3) hts inX7 (hts _ (mm_has_in mm_in7 _ List.mem_cons_self))
  have k8 := u_known (C := RX8) (T := TX8) (N := 2) (n := 2) hts inX8 (hts _ (mm_has_in mm_in8 _ List.mem_cons_self))
  have k9 := u_known (C := RX9) (T := TX9) (N := 11) (n := 11) hts inX9 (hts _ (mm_has_in mm_in9 _ List.mem_cons_self))
  have k10 := u_known (C := RX10) (T := TX10) (N := 46) (n := 46) hts inX10 (hts _ (mm_has_in mm_in10 _ List.mem_cons_self))
  have hall : ∀ (k : Nat) (q : vw_C), vwCl[k]? = some q → ∃ (cC : ClassId) (iS : Nat → Nat), u_Kn s q.1 q.2.1 q.2.2 cC iS := by
    intro k q hq
    match k, hq with
    | 0, hq => cases hq; exact k0
    | 1, hq => cases hq; exact k1
    | 2, hq => cases hq; exact k2
    | 3, hq => cases hq; exact k3
    | 4, hq => cases hq; exact k4
    | 5, hq => cases hq; exact k5
    | 6, hq => cases hq; exact k6
    | 7, hq => cases hq; exact k7
    | 8, hq => cases hq; exact k8
    | 9, hq => cases hq; exact k9
    | 10, hq => cases hq; exact k10
    | k + 11, hq => simp [vwCl] at hq
  obtain ⟨D, hKc⟩ : ∃ D : va_G, ∀ (k : Nat) (q : vw_C), vwCl[k]? = some q → u_Kn s q.1 q.2.1 q.2.2 (D.1 k) (D.2 k) := by
    have h2 : ∀ k : Nat, ∃ d : ClassId × (Nat → Nat), ∀ q : vw_C, vwCl[k]? = some q → u_Kn s q.1 q.2.1 q.2.2 d.1 d.2 := by
      intro k
      cases hk : vwCl[k]? with
      | none => exact ⟨(0, fun _ => 0), fun q hq => by cases hq⟩
      | some q =>
        obtain ⟨cC, iS, h⟩ := hall k q hk
        exact ⟨(cC, iS), fun q' hq => by cases hq; exact h⟩
    exact ⟨(fun k => (Classical.choose (h2 k)).1, fun k => (Classical.choose (h2 k)).2), fun k q hq => Classical.choose_spec (h2 k) q hq⟩
  obtain ⟨a0, ha0⟩ := mm_arrC (hts (.arrayClass .int) (mm_has_in mm_ac0 _ List.mem_cons_self)) (fun C h => by cases h)
  obtain ⟨a1, ha1⟩ := mm_arrC (hts (.arrayClass .long) (mm_has_in mm_ac1 _ List.mem_cons_self)) (fun C h => by cases h)
  obtain ⟨a2, ha2⟩ := mm_arrC (hts (.arrayClass .byte) (mm_has_in mm_ac2 _ List.mem_cons_self)) (fun C h => by cases h)
  obtain ⟨a3, ha3⟩ := mm_arrC (hts (.arrayClass .boolean) (mm_has_in mm_ac3 _ List.mem_cons_self)) (fun C h => by cases h)
  obtain ⟨a4, ha4⟩ := mm_arrA (hts (.arrayOver (.array .int)) (mm_has_in mm_ao2 _ List.mem_cons_self))
  obtain ⟨a5, ha5⟩ := mm_arrO (hts (.arrayOver (.object "RainOrgan$Image")) (mm_has_in mm_ao0 _ List.mem_cons_self))
  obtain ⟨a6, ha6⟩ := mm_arrO (hts (.arrayOver (.object "RainOrgan$Sheet")) (mm_has_in mm_ao1 _ List.mem_cons_self))
  have hs := flat_of_before _ hgv
  have hA : ∀ a : Nat, a < s.heap.size → ¬ (fun x => s.heap.size ≤ x) a := fun a h => Nat.not_le.mpr h
  obtain ⟨adK, adV, hvS, hvE⟩ := vk_Sof (args := #[Value.ref b]) (s := s) (N := 15) (tm := mm_tm) (len := mm_len) (byt := mm_txt) (A := fun x => s.heap.size ≤ x) mm_n0 (fun i hi => hs _ (of_decide_eq_true (mm_rg mm_n1 hi))) (fun i hi => hs _ (of_decide_eq_true (mm_rg mm_n2 hi))) (fun i hi => hs _ (of_decide_eq_true (mm_rg mm_n3 hi))) (fun i hi => hs _ (of_decide_eq_true (mm_rg mm_n4 hi))) (fun i hi j hj => hs _ (of_decide_eq_true (mm_rg (mm_rg mm_n5 hi) hj)))
    (fun i j hi hj hij => by
      have h6 := mm_rg (mm_rg mm_n7 hi) hj
      rw [Bool.or_eq_true, Bool.or_eq_true] at h6
      rcases h6 with (h6 | h6) | h6
      · exact absurd (Nat.eq_of_beq_eq_true h6) hij
      · exact Or.inl (hs _ (mm_ne_m h6))
      · exact Or.inr (hs _ (mm_ne_m h6))) hA
  have hz1 : va_Z "java/lang/String" "COMPACT_STRINGS" "Z" (.int 1) (fun x => s.heap.size ≤ x) s s.heap := va_Zof (hts _ (mm_has_in mm_ls0 _ List.mem_cons_self)) (hts _ (mm_has_in mm_ls2 _ List.mem_cons_self)) (va_eqi (hs _ (by decide +kernel))) hA
  obtain ⟨fx, hz2⟩ : ∃ fx : Option Nat, va_Z "jdk/internal/util/Preconditions" "SIOOBE_FORMATTER" "Ljava/util/function/BiFunction;" (va_rf fx) (fun x => s.heap.size ≤ x) s s.heap := by
    rcases va_Zqof (hts _ (mm_has_in mm_ls1 _ List.mem_cons_self)) (hts _ (mm_has_in mm_ls3 _ List.mem_cons_self)) (hs _ (by decide +kernel)) hA with h | ⟨t, h⟩
    · exact ⟨none, h⟩
    · exact ⟨some t, h⟩
  obtain ⟨ex, hex⟩ : ∃ ex : Nat → Nat, ex = fun k => if k = 0 then b else if k < 100 then adK (k - 1) else adV (k - 100) := ⟨_, rfl⟩
  have ex0 : ex 0 = b := by rw [hex]; rfl
  have exK : ∀ i, i < 15 → ex (1 + i) = adK i := fun i hi => by rw [hex]; simp only; rw [if_neg (by omega), if_pos (by omega), show 1 + i - 1 = i by omega]
  have exV : ∀ i, ex (100 + i) = adV i := fun i => by rw [hex]; simp only; rw [if_neg (by omega), if_neg (by omega), show 100 + i - 100 = i by omega]
  have hTX : mm_TX s.heap.size (ex, fx) s.heap s := by
    refine ⟨fun i q l0 hq hl0 => ?_, hz1, hz2⟩
    have hi : i < 15 := by have := mm_lt hq; simpa [mm_tl] using this
    have hqi : mm_tl.getD i (0, "") = q := by rw [List.getD_eq_getElem?_getD, hq]; rfl
    have hli : mm_txt.getD i [] = l0 := by rw [List.getD_eq_getElem?_getD, hl0]; rfl
    obtain ⟨g1, g2, g3, g4⟩ := hvS.1 i hi
    have hnl := mm_nl i hi
    rw [hli] at g4 hnl
    rw [← hnl] at g4
    show va_O _ (ex (1 + i)) _ _ _ ∧ va_OF _ _ _ _ (ex (1 + i)) _ _ _ ∧ va_OF _ _ _ (.ref (ex (100 + i))) (ex (1 + i)) _ _ _ ∧ va_T _ (ex (100 + i)) _ _ _ _ _ ∧ vk_R _ _ _ (ex (1 + i)) _
    rw [exK i hi, exV i]
    refine ⟨g1, g2, g3, g4, vk_R.of (A := #[Value.ref b]) (hts _ (mm_has_in mm_srf _ (List.mem_map.mpr ⟨q, List.mem_of_getElem? hq, rfl⟩))) ?_⟩
    have := hvE i hi
    unfold mm_tm at this
    rw [hqi] at this
    exact this
  let dA : Nat → ClassId := fun k => [a0, a1, a2, a3, a4, a5, a6].getD k 0
  have hGI : mm_GI D dA s.heap.size (ex, fx) s.heap (some ((List.range L).map xs)) s := by
    refine ⟨⟨hKc, fun k q hq => ?_⟩, fun w hw => ?_, ⟨hts (.arrayOver (.object "RainOrgan$Image")) (mm_has_in mm_ao0 _ List.mem_cons_self), hts (.arrayOver (.object "RainOrgan$Sheet")) (mm_has_in mm_ao1 _ List.mem_cons_self), hts (.arrayOver (.array .int)) (mm_has_in mm_ao2 _ List.mem_cons_self), hTX⟩, fun ys hy => ?_, rfl⟩
    · match k, hq with
      | 0, hq => cases hq; exact ha0
      | 1, hq => cases hq; exact ha1
      | 2, hq => cases hq; exact ha2
      | 3, hq => cases hq; exact ha3
      | 4, hq => cases hq; exact ha4
      | 5, hq => cases hq; exact ha5
      | 6, hq => cases hq; exact ha6
      | k + 7, hq => simp [mm_tys] at hq
    · obtain ⟨x1, x2, x3, x4, rfl⟩ := mm_nest_s hw
      exact va_Nw.of rfl (hts _ (mm_nest_in _ hw))
    · cases hy
      show va_X (ex 0) _ _ _ _ ∧ ex 0 < _
      rw [ex0]
      refine ⟨?_, hbl⟩
      obtain ⟨scr, g1, g2, g3, g4, g5⟩ := hX
      refine ⟨scr, g1, g2, g3, by simp [g4], fun j hj => ?_⟩
      have hj' : j < L := by simpa using hj
      rw [g5 j hj']
      simp [List.getD_eq_getElem?_getD, hj']
  have C : mm_Ctx D dA s.heap.size (ex, fx) s.heap (some ((List.range L).map xs)) mm_rL p s m #[Value.ref b] meth c := ⟨hx, hb, hml, hr, hlocks, fun h => absurd h (by decide +kernel), hown, fun w hw => hts w (List.mem_filter.mp hw).1, hGI⟩
  obtain ⟨f, h', hrun, hc1, hc2⟩ := hw ((List.range L).map xs) (by simpa using hL)
  have hOK := mm_run (l := l) (D := D) (dA := dA) (B := s.heap.size) (b0 := (ex, fx)) (H0 := s.heap) mm_all f 13 mm_rL 0 mm_L0 [] [] _ h' md_law hrun
  obtain ⟨hLR, hlen⟩ := mm_ent_LR s.heap.size (ex, fx) mm_rL [.retAddr 0] (by decide +kernel)
  rw [lg_entry_eq]
  have e0 : ([Value.retAddr 0].map (mm_mv s.heap.size (ex, fx))) = [Value.ref b] := by show [Value.ref (ex 0)] = _; rw [ex0]
  rw [e0] at hLR
  refine hOK p e room_1 s m #[Value.ref b] below meth c _ 0 0 s.heap [] 0 0 _ C (by decide) (by decide) ⟨⟨rfl, fun k x hk => by simp at hk, fun q _ => rfl⟩, fun q hq => (by cases hq), rfl, rfl⟩ hLR hlen (by show _ ≤ 0 + 600000; omega) (by show _ ≤ 0 + 7302250; omega) ?_
  intro H' locs' cells' slots' real' pc' i stk hat hrt S
  have hd := md_law.1 _ _ _ hat
  refine va_forget S.2.1 (W.widen (k := 600000) (n := 7302250) (by have := S.2.2.1; omega) (by have := S.2.2.2; omega) ?_)
  unfold mm_rt at hrt
  split at hrt
  · next he => cases he
  · next x he =>
    obtain ⟨h1, h2⟩ := mm_setB hrt
    cases h2
    exact lw_ret hx hb hr hlocks hd
  · next he => cases he
  · next he => cases he
  · next he => cases he
  · cases hrt
end
section
/-! reasoning on the mini-machine: what a run comes to -/
theorem mm_x_fuel {X : Option (List Int32)} : ∀ (f Dp : Nat) (r : mm_R) (pc : Nat) (ls : mm_L) (st : List Value) (h : mm_H) (q : Option Value × mm_H) (f' : Nat), mm_x X f Dp r pc ls st h = some q → f ≤ f' → mm_x X f' Dp r pc ls st h = some q
  | 0, _, _, _, _, _, _, _, _, hx, _ => by cases hx
  | f + 1, Dp, r, pc, ls, st, h, q, 0, hx, hf => by omega
  | f + 1, Dp, r, pc, ls, st, h, q, f' + 1, hx, hf => by
    unfold mm_x at hx ⊢
    split at hx
    · cases hx
    · next i n hat =>
      split at hx
      · cases hx
      · exact mm_x_fuel f _ _ _ _ _ _ _ f' hx (by omega)
      · exact hx
      · split at hx
        · cases hx
        · next hc =>
          rw [mm_x_fuel f _ _ _ _ _ _ _ f' hc (by omega)]
          exact mm_x_fuel f _ _ _ _ _ _ _ f' hx (by omega)
theorem mm_g1_X {X : Option (List Int32)} {i : Instr} {st t : List Value} {h : mm_H} (hs : mm_g1 none i st h = some t) : mm_g1 X i st h = some t := by
  unfold mm_g1 at hs ⊢
  split at hs
  · exact hs
  · cases hs
  · exact hs
  · exact hs
  · exact hs
  · exact hs
  · exact hs
  · cases hs
  · exact hs
  · cases hs
theorem mm_g2_X {X : Option (List Int32)} {i : Instr} {st : List Value} {h : mm_H} {q : List Value × mm_H} (hs : mm_g2 i st h = some q) : mm_g1 X i st h = none := by
  unfold mm_g2 at hs
  split at hs
  · rfl
  · rfl
  · rfl
  · rfl
  · cases hs
theorem mm_go_X {X : Option (List Int32)} {r : mm_R} {Dp : Nat} {i : Instr} {n pc : Nat} {ls : mm_L} {st : List Value} {h : mm_H} {o : mm_O} (hg : mm_go none r Dp i n pc ls st h = o) (ho : o ≠ .inl none) : mm_go X r Dp i n pc ls st h = o := by
  unfold mm_go at hg ⊢
  split at hg
  · exact hg
  · exact hg
  · exact hg
  · exact hg
  · exact hg
  · exact hg
  · exact hg
  · exact hg
  · exact hg
  · split at hg
    · split at hg
      · next t h1 => rw [mm_g1_X h1]; exact hg
      · next h1 =>
        cases h2 : mm_g2 i st h with
        | none => rw [h2] at hg; exact absurd hg.symm ho
        | some q => rw [h2] at hg; rw [mm_g2_X h2]; exact hg
    · exact absurd hg.symm ho
  · exact hg
  · exact hg
  · exact hg
  · exact hg
  · exact hg
theorem mm_x_X {X : Option (List Int32)} : ∀ (f Dp : Nat) (r : mm_R) (pc : Nat) (ls : mm_L) (st : List Value) (h : mm_H) (q : Option Value × mm_H), mm_x none f Dp r pc ls st h = some q → mm_x X f Dp r pc ls st h = some q
  | 0, _, _, _, _, _, _, _, hx => by cases hx
  | f + 1, Dp, r, pc, ls, st, h, q, hx => by
    unfold mm_x at hx ⊢
    split at hx
    · cases hx
    · next i n hat =>
      split at hx
      · cases hx
      · next hg => rw [mm_go_X hg (fun h => by cases h)]; exact mm_x_X f _ _ _ _ _ _ _ hx
      · next hg => rw [mm_go_X hg (fun h => by cases h)]; exact hx
      · next hg =>
        rw [mm_go_X hg (fun h => by cases h)]
        simp only
        split at hx
        · cases hx
        · next hc =>
          rw [mm_x_X f _ _ _ _ _ _ _ hc]
          exact mm_x_X f _ _ _ _ _ _ _ hx
def mm_Wp (X : Option (List Int32)) (Dp : Nat) (r : mm_R) (pc : Nat) (ls : mm_L) (st : List Value) (h : mm_H) (Q : Option Value → mm_H → Prop) : Prop := ∃ (f : Nat) (v : Option Value) (h' : mm_H), mm_x X f Dp r pc ls st h = some (v, h') ∧ Q v h'
section wp
variable {X : Option (List Int32)} {Dp Dq : Nat} {r r' : mm_R} {pc pc' n : Nat} {ls ls' : mm_L} {st st' as rest : List Value} {h h' : mm_H} {i : Instr} {Q : Option Value → mm_H → Prop}
theorem wp_s (ha : mm_at r pc = some (i, n)) (hg : mm_go X r Dp i n pc ls st h = .inl (some (pc', ls', st', h'))) (k : mm_Wp X Dp r pc' ls' st' h' Q) : mm_Wp X Dp r pc ls st h Q := by
  obtain ⟨f, v, h1, hx, hq⟩ := k
  refine ⟨f + 1, v, h1, ?_, hq⟩
  unfold mm_x
  rw [ha]
  simp only
  rw [hg]
  exact hx
theorem wp_r {v : Option Value} (ha : mm_at r pc = some (i, n)) (hg : mm_go X r Dp i n pc ls st h = .inr (.inl v)) (k : Q v h) : mm_Wp X Dp r pc ls st h Q := by
  refine ⟨1, v, h, ?_, k⟩
  unfold mm_x
  rw [ha]
  simp only
  rw [hg]
theorem wp_c (ha : mm_at r pc = some (i, n)) (hg : mm_go X r Dp i n pc ls st h = .inr (.inr (Dq, r', as, rest))) (he : mm_en r' as = ls') (k : mm_Wp X Dq r' 0 ls' [] h (fun v1 h1 => mm_Wp X Dp r (pc + 3) ls (v1.toList ++ rest) h1 Q)) : mm_Wp X Dp r pc ls st h Q := by
  subst he
  obtain ⟨f, v, h1, hx, f2, v2, h2, hx2, hq⟩ := k
  refine ⟨max f f2 + 1, v2, h2, ?_, hq⟩
  unfold mm_x
  rw [ha]
  simp only
  rw [hg]
  simp only
  rw [mm_x_fuel f _ _ _ _ _ _ _ (max f f2) hx (Nat.le_max_left _ _)]
  exact mm_x_fuel f2 _ _ _ _ _ _ _ (max f f2) hx2 (Nat.le_max_right _ _)
theorem wp_if {c : ClassFile.Cond} {off : Int} {x : Int32} {t : Nat} (ha : mm_at r pc = some (.ifCond c off, 3)) (ht : mm_tg pc off = some t) (kt : mm_cc c x 0 = true → mm_Wp X Dp r t ls st h Q) (kf : mm_cc c x 0 = false → mm_Wp X Dp r (pc + 3) ls st h Q) : mm_Wp X Dp r pc ls (.int x :: st) h Q := by
  cases hb : mm_cc c x 0
  · refine wp_s ha (pc' := pc + 3) (ls' := ls) (st' := st) (h' := h) ?_ (kf hb)
    show (Sum.inl ((((mm_tg pc off).map (fun t => bif mm_cc c x 0 then t else pc + 3)).map (fun a => (a, st))).map (fun q => (q.1, ls, q.2, h))) : mm_O) = _
    rw [ht, hb]
    rfl
  · refine wp_s ha (pc' := t) (ls' := ls) (st' := st) (h' := h) ?_ (kt hb)
    show (Sum.inl ((((mm_tg pc off).map (fun t => bif mm_cc c x 0 then t else pc + 3)).map (fun a => (a, st))).map (fun q => (q.1, ls, q.2, h))) : mm_O) = _
    rw [ht, hb]
    rfl
theorem wp_ic {c : ClassFile.Cond} {off : Int} {x y : Int32} {t : Nat} (ha : mm_at r pc = some (.if_icmp c off, 3)) (ht : mm_tg pc off = some t) (kt : mm_cc c x y = true → mm_Wp X Dp r t ls st h Q) (kf : mm_cc c x y = false → mm_Wp X Dp r (pc + 3) ls st h Q) : mm_Wp X Dp r pc ls (.int y :: .int x :: st) h Q := by
  cases hb : mm_cc c x y
  · refine wp_s ha (pc' := pc + 3) (ls' := ls) (st' := st) (h' := h) ?_ (kf hb)
    show (Sum.inl ((((mm_tg pc off).map (fun t => bif mm_cc c x y then t else pc + 3)).map (fun a => (a, st))).map (fun q => (q.1, ls, q.2, h))) : mm_O) = _
    rw [ht, hb]
    rfl
  · refine wp_s ha (pc' := t) (ls' := ls) (st' := st) (h' := h) ?_ (kt hb)
    show (Sum.inl ((((mm_tg pc off).map (fun t => bif mm_cc c x y then t else pc + 3)).map (fun a => (a, st))).map (fun q => (q.1, ls, q.2, h))) : mm_O) = _
    rw [ht, hb]
    rfl
theorem wp_ts {d lo hi : Int} {offs : Array Int} {x : Int32} {t : Nat} (ha : mm_at r pc = some (.tableswitch d lo hi offs, n)) (ht : mm_sw pc d lo hi offs x.toInt = some t) (k : mm_Wp X Dp r t ls st h Q) : mm_Wp X Dp r pc ls (.int x :: st) h Q := by
  refine wp_s ha (pc' := t) (ls' := ls) (st' := st) (h' := h) ?_ k
  show (Sum.inl (((mm_sw pc d lo hi offs x.toInt).map (fun a => (a, st))).map (fun q => (q.1, ls, q.2, h))) : mm_O) = _
  rw [ht]
  rfl
/-- a closed run -/
theorem wp_x {v : Option Value} (f : Nat) (hx : mm_x none f Dp r pc ls st h = some (v, h')) (k : Q v h') : mm_Wp X Dp r pc ls st h Q := ⟨f, v, h', mm_x_X f _ _ _ _ _ _ _ hx, k⟩
theorem mm_Wp.mono {Q' : Option Value → mm_H → Prop} (hw : mm_Wp X Dp r pc ls st h Q) (hq : ∀ v h', Q v h' → Q' v h') : mm_Wp X Dp r pc ls st h Q' := by
  obtain ⟨f, v, h1, hx, q⟩ := hw
  exact ⟨f, v, h1, hx, hq _ _ q⟩
end wp
end
section
/-! steps on cells, by what is known of the cell -/
theorem mm_ss {h : mm_H} {a : Nat} {e e' : mm_E} (ha : h[a]? = some e) : (h.set a e')[a]? = some e' := List.getElem?_set_self (mm_lt ha)
theorem mm_sn {h : mm_H} {a b : Nat} {e e' : mm_E} (hn : Nat.beq a b = false) (ha : h[b]? = some e) : (h.set a e')[b]? = some e := by
  rw [List.getElem?_set_ne (fun q => by subst q; rw [Nat.beq_refl] at hn; cases hn)]
  exact ha
theorem mm_sf {h : mm_H} {a : Nat} {e : mm_E} (ha : h[a]? = some e) : h.set a e = h := by
  apply List.ext_getElem?
  intro k
  by_cases hk : k = a
  · subst hk; rw [List.getElem?_set_self (mm_lt ha), ha]
  · rw [List.getElem?_set_ne (Ne.symm hk)]
theorem mm_rs2 {h : mm_H} {a : Nat} {e e' : mm_E} : (h.set a e).set a e' = h.set a e' := by rw [List.set_set]
theorem mm_rc {h h2 : mm_H} {a b : Nat} {e e' : mm_E} (hn : Nat.beq b a = false) (k : h.set a e' = h2) : (h.set b e).set a e' = h2.set b e := by
  rw [List.set_comm _ _ (fun q => by subst q; rw [Nat.beq_refl] at hn; cases hn), k]
section wpc
variable {X : Option (List Int32)} {Dp : Nat} {r : mm_R} {pc pc' n : Nat} {ls : mm_L} {t : List Value} {h h' : mm_H} {Q : Option Value → mm_H → Prop} {idx ci k a : Nat} {fs fs' : List Value} {v : Value} {y : Int × List (Nat × Nat)} {j : Int32}
theorem wp_gf (hat : mm_at r pc = some (.getfield idx, 3)) (hrk : mm_rk r.2.2.2 idx = some (idx, 0, ci, k, y)) (ha : h[a]? = some (.inr (ci, fs))) (hv : fs[k]? = some v) (hp : pc + 3 = pc') (kk : mm_Wp X Dp r pc' ls (v :: t) h Q) : mm_Wp X Dp r pc ls (.ref a :: t) h Q := by
  subst hp
  refine wp_s hat (ls' := ls) (st' := v :: t) (h' := h) ?_ kk
  show (Sum.inl (Option.map (fun q : List Value × mm_H => (pc + 3, ls, q.1, q.2)) (mm_s9 r (.getfield idx) (.ref a :: t) h)) : mm_O) = _
  unfold mm_s9
  simp only [hrk, ha, hv, Nat.beq_refl, cond_true]
  rfl
theorem wp_pf (hat : mm_at r pc = some (.putfield idx, 3)) {fin : Nat} {ps : List (Nat × Nat)} (hrk : mm_rk r.2.2.2 idx = some (idx, 0, ci, k, .ofNat fin, ps)) (hfin : Nat.ble 2 fin = false) (ha : h[a]? = some (.inr (ci, fs))) (hk : Nat.blt k fs.length = true) (hfit : mm_fit (mm_ft ci k) v = true) (hfs : fs.set k v = fs') (hs : h.set a (.inr (ci, fs')) = h') (hp : pc + 3 = pc') (kk : mm_Wp X Dp r pc' ls t h' Q) : mm_Wp X Dp r pc ls (v :: .ref a :: t) h Q := by
  subst hp hs hfs
  refine wp_s hat (ls' := ls) (st' := t) (h' := h.set a (.inr (ci, fs.set k v))) ?_ kk
  show (Sum.inl (Option.map (fun q : List Value × mm_H => (pc + 3, ls, q.1, q.2)) (mm_s9 r (.putfield idx) (v :: .ref a :: t) h)) : mm_O) = _
  unfold mm_s9
  simp only [hrk, hfin, ha, hk, hfit, Nat.beq_refl, cond_true, cond_false, Bool.and_true]
  rfl
theorem wp_ia {l : List Int32} {x : Int32} (hat : mm_at r pc = some (.iaload, 1)) (ha : h[a]? = some (.inl (0, .inl l))) (hj : mm_in j l.length = true) (hx : l.getD j.toNatClampNeg 0 = x) (hp : pc + 1 = pc') (kk : mm_Wp X Dp r pc' ls (.int x :: t) h Q) : mm_Wp X Dp r pc ls (.int j :: .ref a :: t) h Q := by
  subst hp hx
  refine wp_s hat (ls' := ls) (st' := .int (l.getD j.toNatClampNeg 0) :: t) (h' := h) ?_ kk
  have e : mm_g1 X .iaload (.int j :: .ref a :: t) h = some (.int (l.getD j.toNatClampNeg 0) :: t) := by
    unfold mm_g1
    simp only [ha, hj, cond_true]
  show (match mm_g1 X .iaload (.int j :: .ref a :: t) h with | some t => (.inl (some (pc + 1, ls, t, h)) : mm_O) | none => .inl ((mm_g2 .iaload (.int j :: .ref a :: t) h).map (fun q : List Value × mm_H => (pc + 1, ls, q.1, q.2)))) = _
  rw [e]
theorem wp_ba {l : List Int32} {x : Int32} (hat : mm_at r pc = some (.baload, 1)) (ha : h[a]? = some (.inl (2, .inl l)) ∨ h[a]? = some (.inl (3, .inl l))) (hj : mm_in j l.length = true) (hx : l.getD j.toNatClampNeg 0 = x) (hp : pc + 1 = pc') (kk : mm_Wp X Dp r pc' ls (.int x :: t) h Q) : mm_Wp X Dp r pc ls (.int j :: .ref a :: t) h Q := by
  subst hp hx
  refine wp_s hat (ls' := ls) (st' := .int (l.getD j.toNatClampNeg 0) :: t) (h' := h) ?_ kk
  have e : mm_g1 X .baload (.int j :: .ref a :: t) h = some (.int (l.getD j.toNatClampNeg 0) :: t) := by
    unfold mm_g1
    rcases ha with ha | ha <;> simp only [ha, hj, cond_true]
  show (match mm_g1 X .baload (.int j :: .ref a :: t) h with | some t => (.inl (some (pc + 1, ls, t, h)) : mm_O) | none => .inl ((mm_g2 .baload (.int j :: .ref a :: t) h).map (fun q : List Value × mm_H => (pc + 1, ls, q.1, q.2)))) = _
  rw [e]
theorem wp_la {l : List Int64} {x : Int64} (hat : mm_at r pc = some (.laload, 1)) (ha : h[a]? = some (.inl (1, .inr (.inl l)))) (hj : mm_in j l.length = true) (hx : l.getD j.toNatClampNeg 0 = x) (hp : pc + 1 = pc') (kk : mm_Wp X Dp r pc' ls (.long x :: t) h Q) : mm_Wp X Dp r pc ls (.int j :: .ref a :: t) h Q := by
  subst hp hx
  refine wp_s hat (ls' := ls) (st' := .long (l.getD j.toNatClampNeg 0) :: t) (h' := h) ?_ kk
  have e : mm_g1 X .laload (.int j :: .ref a :: t) h = some (.long (l.getD j.toNatClampNeg 0) :: t) := by
    unfold mm_g1
    simp only [ha, hj, cond_true]
  show (match mm_g1 X .laload (.int j :: .ref a :: t) h with | some t => (.inl (some (pc + 1, ls, t, h)) : mm_O) | none => .inl ((mm_g2 .laload (.int j :: .ref a :: t) h).map (fun q : List Value × mm_H => (pc + 1, ls, q.1, q.2)))) = _
  rw [e]
theorem wp_aa {l : List (Option Nat)} {tag b : Nat} (hat : mm_at r pc = some (.aaload, 1)) (ht : tag = 4 ∨ tag = 5 ∨ tag = 6) (ha : h[a]? = some (.inl (tag, .inr (.inr l)))) (hj : mm_in j l.length = true) (hx : l.getD j.toNatClampNeg none = some b) (hp : pc + 1 = pc') (kk : mm_Wp X Dp r pc' ls (.ref b :: t) h Q) : mm_Wp X Dp r pc ls (.int j :: .ref a :: t) h Q := by
  subst hp
  refine wp_s hat (ls' := ls) (st' := .ref b :: t) (h' := h) ?_ kk
  have e : mm_g1 X .aaload (.int j :: .ref a :: t) h = some (.ref b :: t) := by
    unfold mm_g1
    rcases ht with rfl | rfl | rfl <;> simp only [ha, hj, cond_true, hx] <;> rfl
  show (match mm_g1 X .aaload (.int j :: .ref a :: t) h with | some t => (.inl (some (pc + 1, ls, t, h)) : mm_O) | none => .inl ((mm_g2 .aaload (.int j :: .ref a :: t) h).map (fun q : List Value × mm_H => (pc + 1, ls, q.1, q.2)))) = _
  rw [e]
theorem wp_is {l l' : List Int32} {x : Int32} (hat : mm_at r pc = some (.iastore, 1)) (ha : h[a]? = some (.inl (0, .inl l))) (hj : mm_in j l.length = true) (hl : l.set j.toNatClampNeg x = l') (hs : h.set a (.inl (0, .inl l')) = h') (hp : pc + 1 = pc') (kk : mm_Wp X Dp r pc' ls t h' Q) : mm_Wp X Dp r pc ls (.int x :: .int j :: .ref a :: t) h Q := by
  subst hp hs hl
  refine wp_s hat (ls' := ls) (st' := t) (h' := h.set a (.inl (0, .inl (l.set j.toNatClampNeg x)))) ?_ kk
  have e : mm_g2 .iastore (.int x :: .int j :: .ref a :: t) h = some (t, h.set a (.inl (0, .inl (l.set j.toNatClampNeg x)))) := by
    unfold mm_g2
    simp only [ha, hj, cond_true]
  show (.inl ((mm_g2 .iastore (.int x :: .int j :: .ref a :: t) h).map (fun q => (pc + 1, ls, q.1, q.2))) : mm_O) = _
  rw [e]
  rfl
theorem wp_bs {l l' : List Int32} {x : Int32} (hat : mm_at r pc = some (.bastore, 1)) (ha : h[a]? = some (.inl (2, .inl l))) (hj : mm_in j l.length = true) (hl : l.set j.toNatClampNeg x.toInt8.toInt32 = l') (hs : h.set a (.inl (2, .inl l')) = h') (hp : pc + 1 = pc') (kk : mm_Wp X Dp r pc' ls t h' Q) : mm_Wp X Dp r pc ls (.int x :: .int j :: .ref a :: t) h Q := by
  subst hp hs hl
  refine wp_s hat (ls' := ls) (st' := t) (h' := h.set a (.inl (2, .inl (l.set j.toNatClampNeg x.toInt8.toInt32)))) ?_ kk
  have e : mm_g2 .bastore (.int x :: .int j :: .ref a :: t) h = some (t, h.set a (.inl (2, .inl (l.set j.toNatClampNeg x.toInt8.toInt32)))) := by
    unfold mm_g2
    simp only [ha, hj, cond_true]
  show (.inl ((mm_g2 .bastore (.int x :: .int j :: .ref a :: t) h).map (fun q => (pc + 1, ls, q.1, q.2))) : mm_O) = _
  rw [e]
  rfl
theorem wp_zs {l l' : List Int32} {x : Int32} (hat : mm_at r pc = some (.bastore, 1)) (ha : h[a]? = some (.inl (3, .inl l))) (hj : mm_in j l.length = true) (hl : l.set j.toNatClampNeg (x &&& 1) = l') (hs : h.set a (.inl (3, .inl l')) = h') (hp : pc + 1 = pc') (kk : mm_Wp X Dp r pc' ls t h' Q) : mm_Wp X Dp r pc ls (.int x :: .int j :: .ref a :: t) h Q := by
  subst hp hs hl
  refine wp_s hat (ls' := ls) (st' := t) (h' := h.set a (.inl (3, .inl (l.set j.toNatClampNeg (x &&& 1))))) ?_ kk
  have e : mm_g2 .bastore (.int x :: .int j :: .ref a :: t) h = some (t, h.set a (.inl (3, .inl (l.set j.toNatClampNeg (x &&& 1))))) := by
    unfold mm_g2
    simp only [ha, hj, cond_true]
  show (.inl ((mm_g2 .bastore (.int x :: .int j :: .ref a :: t) h).map (fun q => (pc + 1, ls, q.1, q.2))) : mm_O) = _
  rw [e]
  rfl
theorem wp_lst {l l' : List Int64} {x : Int64} (hat : mm_at r pc = some (.lastore, 1)) (ha : h[a]? = some (.inl (1, .inr (.inl l)))) (hj : mm_in j l.length = true) (hl : l.set j.toNatClampNeg x = l') (hs : h.set a (.inl (1, .inr (.inl l'))) = h') (hp : pc + 1 = pc') (kk : mm_Wp X Dp r pc' ls t h' Q) : mm_Wp X Dp r pc ls (.long x :: .int j :: .ref a :: t) h Q := by
  subst hp hs hl
  refine wp_s hat (ls' := ls) (st' := t) (h' := h.set a (.inl (1, .inr (.inl (l.set j.toNatClampNeg x))))) ?_ kk
  have e : mm_g2 .lastore (.long x :: .int j :: .ref a :: t) h = some (t, h.set a (.inl (1, .inr (.inl (l.set j.toNatClampNeg x))))) := by
    unfold mm_g2
    simp only [ha, hj, cond_true]
  show (.inl ((mm_g2 .lastore (.long x :: .int j :: .ref a :: t) h).map (fun q => (pc + 1, ls, q.1, q.2))) : mm_O) = _
  rw [e]
  rfl
/-- a call on an object -/
theorem wp_cv {r' : mm_R} {Dq mj b : Nat} {as0 rest : List Value} {z : Int × List (Nat × Nat)} {ls' : mm_L} (hat : mm_at r pc = some (.invokevirtual idx, 3)) (hrk : mm_rk r.2.2.2 idx = some (idx, 1, mj, b, z)) (hmr : mm_rs[mj]? = some r') (htk : mm_tk r'.1.2.2.2.2.1 [] t = some (as0, .ref a :: rest)) (ha : h[a]? = some (.inr (b, fs))) (hmk : mm_mk Dq r' (.ref a :: as0) rest = .inr (.inr (Dq, r', .ref a :: as0, rest))) (he : mm_en r' (.ref a :: as0) = ls') (hp : pc + 3 = pc') (kk : mm_Wp X Dq r' 0 ls' [] h (fun v1 h1 => mm_Wp X (Dq + 1) r pc' ls (v1.toList ++ rest) h1 Q)) : mm_Wp X (Dq + 1) r pc ls t h Q := by
  subst hp
  refine wp_c hat (Dq := Dq) (r' := r') (as := .ref a :: as0) (rest := rest) ?_ he kk
  show mm_cl (Dq + 1) r idx t (fun k => Nat.beq k 1) true h = _
  unfold mm_cl
  simp only [hrk, hmr, htk, ha, Nat.beq_refl, cond_true, Bool.not_true, Bool.and_false, cond_false]
  exact hmk
end wpc
end
section
def mm_dE : DecidableEq mm_E := instDecidableEqSum
def mm_dH : DecidableEq mm_H := @instDecidableEqList mm_E mm_dE
def mm_dQ : DecidableEq (Option (Option Value × mm_H)) := letI := mm_dH; inferInstance
theorem mm_dec {a b : Option (Option Value × mm_H)} (h : (@decide (a = b) (mm_dQ a b)) = true) : a = b := @of_decide_eq_true _ (mm_dQ a b) h
/-! the heap behind both constructors: cells 0 to 113 are the class's, from 114 on the reference's -/
def hp_a : mm_H := [.inr (9, [.ref 1, .ref 2, .ref 25, .ref 36, .ref 46, .ref 54, .ref 65, .ref 66, .ref 67, .int 0, .int 0]),
  .inr (5, [.ref 2, .ref 4, .ref 15, .int 0, .int 0, .int 0, .int 0, .int 0, .int 0, .int 0]),
  .inr (8, [.ref 3, .int 0]),
  .inl (2, .inl (List.replicate 320 0)),
  .inr (4, [.int 0, .ref 5, .ref 6, .int 0, .ref 7, .ref 8, .int 0, .ref 9, .ref 10, .ref 11, .int 0, .int 0, .ref 12, .ref 13, .ref 14, .int 0]),
  .inl (0, .inl ([0, 0, 0, 0])),
  .inl (0, .inl ([0, 0, 0, 0])),
  .inl (0, .inl ([0, 0, 0, 0, 0])),
  .inl (0, .inl ([0, 0, 0, 0, 0])),
  .inl (0, .inl ([0, 0, 0, 0, 0, 0, 0, 0])),
  .inl (0, .inl ([0, 0, 0, 0, 0, 0, 0, 0])),
  .inl (0, .inl ([0, 0, 0, 0, 0, 0, 0, 0])),
  .inl (0, .inl ([0, 0, 0, 0])),
  .inl (0, .inl ([0, 0, 0, 0])),
  .inl (0, .inl ([0, 0, 0, 0])),
  .inr (6, [.ref 16, .ref 17, .ref 18, .ref 19, .ref 20, .ref 24, .int 0]),
  .inl (0, .inl ([0, 0, 0, 0, 0])),
  .inl (0, .inl ([0, 0, 0, 0, 0])),
  .inl (0, .inl ([0, 0, 0, 0, 0, 0, 0, 0])),
  .inl (0, .inl ([0, 0, 0])),
  .inl (4, .inr (.inr ([(some 21), (some 22), (some 23)]))),
  .inl (0, .inl (List.replicate 12 0)),
  .inl (0, .inl (List.replicate 12 0)),
  .inl (0, .inl (List.replicate 12 0)),
  .inl (0, .inl (List.replicate 12 0)),
  .inr (4, [.int 0, .ref 26, .ref 27, .int 0, .ref 28, .ref 29, .int 0, .ref 30, .ref 31, .ref 32, .int 0, .int 0, .ref 33, .ref 34, .ref 35, .int 0]),
  .inl (0, .inl ([0, 0, 0, 0])),
  .inl (0, .inl ([0, 0, 0, 0])),
  .inl (0, .inl ([0, 0, 0, 0, 0])),
  .inl (0, .inl ([0, 0, 0, 0, 0])),
  .inl (0, .inl ([0, 0, 0, 0, 0, 0, 0, 0])),
  .inl (0, .inl ([0, 0, 0, 0, 0, 0, 0, 0])),
  .inl (0, .inl ([0, 0, 0, 0, 0, 0, 0, 0])),
  .inl (0, .inl ([0, 0, 0, 0])),
  .inl (0, .inl ([0, 0, 0, 0])),
  .inl (0, .inl ([0, 0, 0, 0])),
  .inr (6, [.ref 37, .ref 38, .ref 39, .ref 40, .ref 41, .ref 45, .int 0]),
  .inl (0, .inl ([0, 0, 0, 0, 0])),
  .inl (0, .inl ([0, 0, 0, 0, 0])),
  .inl (0, .inl ([0, 0, 0, 0, 0, 0, 0, 0])),
  .inl (0, .inl ([0, 0, 0])),
  .inl (4, .inr (.inr ([(some 42), (some 43), (some 44)]))),
  .inl (0, .inl (List.replicate 12 0)),
  .inl (0, .inl (List.replicate 12 0)),
  .inl (0, .inl (List.replicate 12 0)),
  .inl (0, .inl (List.replicate 12 0)),
  .inr (2, [.ref 47, .ref 48, .ref 49, .ref 50, .ref 51, .int 0, .int 0, .int 0, .int 0, .int 0, .ref 52, .ref 53]),
  .inl (0, .inl ([0, 0, 0, 0, 0, 0, 0, 0])),
  .inl (0, .inl ([0, 0, 0, 0, 0, 0, 0, 0])),
  .inl (1, .inr (.inl ([0, 0, 0, 0, 0, 0, 0, 0]))),
  .inl (0, .inl ([0, 0, 0, 0, 0, 0, 0, 0])),
  .inl (0, .inl ([0, 0, 0, 0, 0, 0, 0, 0])),
  .inl (0, .inl ([0, 0, 0, 0, 0])),
  .inl (0, .inl ([0, 0, 0, 0, 0, 0, 0, 0])),
  .inr (1, [.ref 55, .ref 63, .ref 64, .int 0]),
  .inr (2, [.ref 56, .ref 57, .ref 58, .ref 59, .ref 60, .int 0, .int 0, .int 0, .int 0, .int 0, .ref 61, .ref 62]),
  .inl (0, .inl ([0, 0, 0, 0, 0, 0, 0, 0])),
  .inl (0, .inl ([0, 0, 0, 0, 0, 0, 0, 0])),
  .inl (1, .inr (.inl ([0, 0, 0, 0, 0, 0, 0, 0]))),
  .inl (0, .inl ([0, 0, 0, 0, 0, 0, 0, 0])),
  .inl (0, .inl ([0, 0, 0, 0, 0, 0, 0, 0])),
  .inl (0, .inl ([0, 0, 0, 0, 0])),
  .inl (0, .inl ([0, 0, 0, 0, 0, 0, 0, 0])),
  .inl (0, .inl (List.replicate 12 0)),
  .inl (0, .inl (List.replicate 12 0)),
  .inr (0, [.int 0, .int 0, .int 0, .int 0, .int 0, .int 0, .int 0, .int 0]),
  .inl (5, .inr (.inr ([(some 68), (some 87)]))),
  .inl (6, .inr (.inr ([(some 106), (some 108), (some 110), (some 112)]))),
  .inr (3, [.ref 69, .ref 79, .int 0]),
  .inr (6, [.ref 70, .ref 71, .ref 72, .ref 73, .ref 74, .ref 78, .int 0]),
  .inl (0, .inl ([0, 0, 0, 0, 0])),
  .inl (0, .inl ([0, 0, 0, 0, 0])),
  .inl (0, .inl ([0, 0, 0, 0, 0, 0, 0, 0])),
  .inl (0, .inl ([0, 0, 0])),
  .inl (4, .inr (.inr ([(some 75), (some 76), (some 77)]))),
  .inl (0, .inl (List.replicate 12 0)),
  .inl (0, .inl (List.replicate 12 0)),
  .inl (0, .inl (List.replicate 12 0)),
  .inl (0, .inl (List.replicate 12 0)),
  .inr (2, [.ref 80, .ref 81, .ref 82, .ref 83, .ref 84, .int 0, .int 0, .int 0, .int 0, .int 0, .ref 85, .ref 86]),
  .inl (0, .inl ([0, 0, 0, 0, 0, 0, 0, 0])),
  .inl (0, .inl ([0, 0, 0, 0, 0, 0, 0, 0])),
  .inl (1, .inr (.inl ([0, 0, 0, 0, 0, 0, 0, 0]))),
  .inl (0, .inl ([0, 0, 0, 0, 0, 0, 0, 0])),
  .inl (0, .inl ([0, 0, 0, 0, 0, 0, 0, 0])),
  .inl (0, .inl ([0, 0, 0, 0, 0])),
  .inl (0, .inl ([0, 0, 0, 0, 0, 0, 0, 0])),
  .inr (3, [.ref 88, .ref 98, .int 0]),
  .inr (6, [.ref 89, .ref 90, .ref 91, .ref 92, .ref 93, .ref 97, .int 0]),
  .inl (0, .inl ([0, 0, 0, 0, 0])),
  .inl (0, .inl ([0, 0, 0, 0, 0])),
  .inl (0, .inl ([0, 0, 0, 0, 0, 0, 0, 0])),
  .inl (0, .inl ([0, 0, 0])),
  .inl (4, .inr (.inr ([(some 94), (some 95), (some 96)]))),
  .inl (0, .inl (List.replicate 12 0)),
  .inl (0, .inl (List.replicate 12 0)),
  .inl (0, .inl (List.replicate 12 0)),
  .inl (0, .inl (List.replicate 12 0)),
  .inr (2, [.ref 99, .ref 100, .ref 101, .ref 102, .ref 103, .int 0, .int 0, .int 0, .int 0, .int 0, .ref 104, .ref 105]),
  .inl (0, .inl ([0, 0, 0, 0, 0, 0, 0, 0])),
  .inl (0, .inl ([0, 0, 0, 0, 0, 0, 0, 0])),
  .inl (1, .inr (.inl ([0, 0, 0, 0, 0, 0, 0, 0]))),
  .inl (0, .inl ([0, 0, 0, 0, 0, 0, 0, 0])),
  .inl (0, .inl ([0, 0, 0, 0, 0, 0, 0, 0])),
  .inl (0, .inl ([0, 0, 0, 0, 0])),
  .inl (0, .inl ([0, 0, 0, 0, 0, 0, 0, 0])),
  .inr (7, [.ref 107, .int 0, .int (-1)]),
  .inl (0, .inl (List.replicate 40 0)),
  .inr (7, [.ref 109, .int 0, .int (-1)]),
  .inl (0, .inl (List.replicate 40 0)),
  .inr (7, [.ref 111, .int 0, .int (-1)]),
  .inl (0, .inl (List.replicate 40 0)),
  .inr (7, [.ref 113, .int 0, .int (-1)]),
  .inl (0, .inl (List.replicate 40 0))]
def hp_b : mm_H := [.inr (10, [.ref 115, .int 0, .int 0, .int 0, .int 0, .int 0, .int 0, .ref 116, .ref 117, .ref 118, .ref 119, .ref 120, .ref 121, .ref 122, .ref 123, .ref 124, .ref 125, .int 0, .int 0, .int 0, .int 0, .ref 126, .int 0, .int 0, .int 0, .int 0, .int 0, .int 0, .int 0, .int 0, .ref 127, .ref 128, .ref 129, .ref 130, .int 0, .ref 131, .ref 132, .int 0, .int 0, .int 0, .int 0, .ref 133, .ref 134, .ref 135, .ref 136, .int 0]),
  .inl (0, .inl (List.replicate 700 0)),
  .inl (0, .inl ([0, 0, 0, 0, 0, 0, 0, 0])),
  .inl (0, .inl (List.replicate 10 0)),
  .inl (0, .inl ([0, 0, 0, 0, 0, 0, 0, 0])),
  .inl (0, .inl (List.replicate 12 0)),
  .inl (0, .inl (List.replicate 140 0)),
  .inl (0, .inl ([0, 0, 0, 0, 0, 0, 0, 0])),
  .inl (0, .inl (List.replicate 10 0)),
  .inl (0, .inl ([0, 0, 0, 0, 0, 0, 0, 0])),
  .inl (0, .inl (List.replicate 12 0)),
  .inl (0, .inl ([0, 0, 0, 0, 0])),
  .inl (0, .inl (List.replicate 320 0)),
  .inl (0, .inl ([0, 4, 7, 12, 16, 21, 25, 29, 35, 41, 46, 49, 53, 57, 61, 67])),
  .inl (0, .inl ([114, 111, 111, 102, 112, 101, 103, 115, 112, 111, 117, 116, 114, 97, 105, 110, 115, 108, 101, 101, 112, 116, 117, 110, 101, 119, 101, 97, 114, 103, 117, 116, 116, 101, 114, 103, 114, 111, 117, 110, 100, 115, 108, 97, 116, 101, 116, 105, 112, 108, 101, 97, 107, 101, 97, 99, 104, 106, 111, 105, 110, 102, 114, 111, 122, 101, 110])),
  .inl (0, .inl ([0, 0, 0, 0, 0])),
  .inl (0, .inl ([0, 0, 0, 0, 0, 0, 0, 0])),
  .inl (0, .inl (List.replicate 12 0)),
  .inl (0, .inl (List.replicate 12 0)),
  .inl (3, .inl ([0, 0])),
  .inl (0, .inl ([(-4), (-4), (-4), (-4)])),
  .inl (0, .inl ([0, 0, 0, 0])),
  .inl (0, .inl (List.replicate 160 0))]
def hp_0 : mm_H := hp_a ++ hp_b
set_option maxRecDepth 20000 in
theorem hp_ia : mm_x none 2000 12 mm_r63 0 (mm_en mm_r63 [.ref 0]) [] [.inr (9, mm_dfs 9)] = some (none, hp_a) := mm_dec (by decide +kernel)
set_option maxRecDepth 20000 in
theorem hp_ib : mm_x none 2000 12 mm_r119 0 (mm_en mm_r119 [.ref 114]) [] (hp_a ++ [.inr (10, mm_dfs 10)]) = some (none, hp_0) := mm_dec (by decide +kernel)
end
section
/-! what a heap of the law's run is, told by numbers: Z b f i = the i-th number of field f of the object whose cell is b (numbers count modulo 2^32, 2^64) -/
abbrev dz_Z : Type := Nat → Nat → Int → Int
abbrev dz_I (x : Int) : Value := .int (Int32.ofInt x)
abbrev dz_J (x : Int) : Value := .long (Int64.ofInt x)
abbrev dz_B (b : Bool) : Value := .int (bif b then 1 else 0)
def dz_c (x : Int) : Int := (Int32.ofInt x).toInt
def dz_l (x : Int) : Int := (Int64.ofInt x).toInt
def dz_u (Z : dz_Z) (b f : Nat) (i v : Int) : dz_Z := fun b' f' i' => if b' = b ∧ f' = f ∧ i' = i then v else Z b' f' i'
def dz_f (Z : dz_Z) (b f : Nat) (g : Int → Int) : dz_Z := fun b' f' i' => if b' = b ∧ f' = f then g i' else Z b' f' i'
def dz_w (n : Nat) (g : Int → Int) : List Int32 := (List.range n).map (fun i : Nat => Int32.ofInt (g (i : Int)))
def dz_x (n : Nat) (g : Int → Int) : List Int64 := (List.range n).map (fun i : Nat => Int64.ofInt (g (i : Int)))
def dz_sl (x y : Int) : Int := (Int32.ofInt x <<< (Int32.ofInt y &&& 31)).toInt
def dz_sr (x y : Int) : Int := (Int32.ofInt x >>> (Int32.ofInt y &&& 31)).toInt
def dz_ur (x y : Int) : Int := (((Int32.ofInt x).toUInt32 >>> ((Int32.ofInt y).toUInt32 &&& Int32.toUInt32 31)).toInt32).toInt
def dz_an (x y : Int) : Int := (Int32.ofInt x &&& Int32.ofInt y).toInt
def dz_or (x y : Int) : Int := (Int32.ofInt x ||| Int32.ofInt y).toInt
def dz_xo (x y : Int) : Int := (Int32.ofInt x ^^^ Int32.ofInt y).toInt
def dz_lsr (x y : Int) : Int := (Int64.ofInt x >>> ((Int32.ofInt y).toInt64 &&& 63)).toInt
def dz_lur (x y : Int) : Int := ((Int64.ofInt x).toUInt64 >>> ((Int32.ofInt y).toInt64.toUInt64 &&& Int64.toUInt64 63)).toInt64.toInt
def dz_lsl (x y : Int) : Int := (Int64.ofInt x <<< ((Int32.ofInt y).toInt64 &&& 63)).toInt
def dz_lan (x y : Int) : Int := (Int64.ofInt x &&& Int64.ofInt y).toInt
def dz_lor (x y : Int) : Int := (Int64.ofInt x ||| Int64.ofInt y).toInt
def dz_b (x : Int) : Int := (Int32.ofInt x).toInt8.toInt32.toInt
def dz_s (x : Int) : Int := (Int32.ofInt x).toInt16.toInt32.toInt
def dz_li (x : Int) : Int := (Int64.ofInt x).toInt32.toInt
-- programs: what they come to
def dz_p {α : Type} (o : Option α) (K : α → Prop) : Prop := match o with
  | none => False
  | some a => K a
def dz_a {α β : Type} (x : α) (f : α → β) : β := f x
def dz_lp {S R : Type} (body : S → Option (S ⊕ R)) : Nat → S → Option R
  | 0, _ => none
  | n + 1, s => (body s).bind (fun q => match q with
    | .inl s' => dz_lp body n s'
    | .inr r => some r)
section dzp
variable {α β : Type} {K : α → Prop} {c : Prop}
theorem dz_ck [Decidable c] {a : Option α} (H : dz_p (if c then a else none) K) : c ∧ dz_p a K := by
  by_cases h : c
  · rw [if_pos h] at H; exact ⟨h, H⟩
  · rw [if_neg h] at H; exact H.elim
theorem dz_it [Decidable c] {a b : Option α} (h : c) (H : dz_p (if c then a else b) K) : dz_p a K := by rw [if_pos h] at H; exact H
theorem dz_if [Decidable c] {a b : Option α} (h : ¬c) (H : dz_p (if c then a else b) K) : dz_p b K := by rw [if_neg h] at H; exact H
theorem dz_bi {x : Option β} {f : β → Option α} (H : dz_p (x.bind f) K) : dz_p x (fun a => dz_p (f a) K) := by
  cases x with
  | none => exact H
  | some a => exact H
theorem dz_pm {x : Option α} {K' : α → Prop} (H : dz_p x K) (h : ∀ a, K a → K' a) : dz_p x K' := by
  cases x with
  | none => exact H
  | some a => exact h a H
theorem dz_le {e : β} {f : β → Option α} (H : dz_p (dz_a e f) K) (z : β) (h : z = e) : dz_p (f z) K := by subst h; exact H
theorem dz_lpi {S : Type} {body : S → Option (S ⊕ α)} (P : S → Prop) (hb : ∀ s, dz_p (body s) (Sum.elim P K) → P s) : ∀ (n : Nat) (s : S), dz_p (dz_lp body n s) K → P s
  | 0, _, H => H.elim
  | n + 1, s, H => by
    apply hb
    unfold dz_lp at H
    cases hq : body s with
    | none => rw [hq] at H; exact H.elim
    | some q =>
      rw [hq] at H
      cases q with
      | inl s' => exact dz_lpi P hb n s' H
      | inr r => exact H
theorem dz_some {o : Option α} {a : α} (h : o = some a) (k : K a) : dz_p o K := by subst h; exact k
end dzp
-- numbers
theorem dz_oc (x : Int32) : Int32.ofInt x.toInt = x := Int32.ofInt_toInt x
theorem dz_ol (x : Int64) : Int64.ofInt x.toInt = x := Int64.ofInt_toInt x
theorem dz_cx (x : Int) : Int32.ofInt (dz_c x) = Int32.ofInt x := Int32.ofInt_toInt _
theorem dz_cb (x : Int) : -2147483648 ≤ dz_c x ∧ dz_c x ≤ 2147483647 := ⟨Int32.le_toInt _, Int32.toInt_le _⟩
theorem dz_ci {x : Int} (h : -2147483648 ≤ x) (h' : x ≤ 2147483647) : dz_c x = x := by
  unfold dz_c
  exact Int32.toInt_ofInt_of_le h (by omega)
theorem dz_li' {x : Int} (h : -9223372036854775808 ≤ x) (h' : x ≤ 9223372036854775807) : dz_l x = x := by
  unfold dz_l
  exact Int64.toInt_ofInt_of_le h (by omega)
theorem dz_lc (x : Int) : dz_l (dz_c x) = dz_c x := dz_li' (by have := dz_cb x; omega) (by have := dz_cb x; omega)
theorem dz_lcc (x y : Int) : dz_l (dz_c x + dz_c y) = dz_c x + dz_c y := dz_li' (by have := dz_cb x; have := dz_cb y; omega) (by have := dz_cb x; have := dz_cb y; omega)
theorem dz_cc (x : Int) : dz_c (dz_c x) = dz_c x := by unfold dz_c; rw [Int32.ofInt_toInt]
-- operations
theorem op_add (x y : Int) : mm_s2 .iadd (Int32.ofInt x) (Int32.ofInt y) = some (Int32.ofInt (x + y)) := congrArg some (Int32.ofInt_add x y).symm
theorem op_sub (x y : Int) : mm_s2 .isub (Int32.ofInt x) (Int32.ofInt y) = some (Int32.ofInt (x - y)) := congrArg some (Int32.ofInt_sub x y).symm
theorem op_mul (x y : Int) : mm_s2 .imul (Int32.ofInt x) (Int32.ofInt y) = some (Int32.ofInt (x * y)) := congrArg some (Int32.ofInt_mul x y).symm
theorem op_and (x y : Int) : mm_s2 .iand (Int32.ofInt x) (Int32.ofInt y) = some (Int32.ofInt (dz_an x y)) := congrArg some (dz_oc _).symm
theorem op_or (x y : Int) : mm_s2 .ior (Int32.ofInt x) (Int32.ofInt y) = some (Int32.ofInt (dz_or x y)) := congrArg some (dz_oc _).symm
theorem op_xor (x y : Int) : mm_s2 .ixor (Int32.ofInt x) (Int32.ofInt y) = some (Int32.ofInt (dz_xo x y)) := congrArg some (dz_oc _).symm
theorem op_shl (x y : Int) : mm_s2 .ishl (Int32.ofInt x) (Int32.ofInt y) = some (Int32.ofInt (dz_sl x y)) := congrArg some (dz_oc _).symm
theorem op_shr (x y : Int) : mm_s2 .ishr (Int32.ofInt x) (Int32.ofInt y) = some (Int32.ofInt (dz_sr x y)) := congrArg some (dz_oc _).symm
theorem op_ushr (x y : Int) : mm_s2 .iushr (Int32.ofInt x) (Int32.ofInt y) = some (Int32.ofInt (dz_ur x y)) := congrArg some (dz_oc _).symm
theorem dz_dv (x y : Int) : Int32.ofInt x / Int32.ofInt y = Int32.ofInt ((dz_c x).tdiv (dz_c y)) := by
  apply Int32.toInt_inj.mp
  rw [Int32.toInt_div, Int32.toInt_ofInt (n := (dz_c x).tdiv (dz_c y))]
  rfl
theorem op_div {x y x' y' : Int} (hx : dz_c x = x') (hy : dz_c y = y') (h : y' ≠ 0) : mm_s2 .idiv (Int32.ofInt x) (Int32.ofInt y) = some (Int32.ofInt (x'.tdiv y')) := by
  subst hx hy
  show (if Int32.ofInt y = 0 then none else some (Int32.ofInt x / Int32.ofInt y)) = _
  rw [if_neg (fun e => h (by unfold dz_c; rw [e]; rfl)), dz_dv]
theorem op_rem {x y x' y' : Int} (hx : dz_c x = x') (hy : dz_c y = y') (h : y' ≠ 0) : mm_s2 .irem (Int32.ofInt x) (Int32.ofInt y) = some (Int32.ofInt (x'.tmod y')) := by
  subst hx hy
  show (if Int32.ofInt y = 0 then none else some (Int32.ofInt x - Int32.ofInt x / Int32.ofInt y * Int32.ofInt y)) = _
  rw [if_neg (fun e => h (by unfold dz_c; rw [e]; rfl)), dz_dv]
  have e : (dz_c x).tmod (dz_c y) = dz_c x - (dz_c x).tdiv (dz_c y) * dz_c y := by have := Int.tmod_add_mul_tdiv (dz_c x) (dz_c y); rw [Int.mul_comm] at this; omega
  rw [e, Int32.ofInt_sub, Int32.ofInt_mul, dz_cx, dz_cx]
theorem oq_i2l (x : Int) : mm_s3 .i2l (dz_I x) = some (dz_J (dz_c x)) := by
  show some (Value.long (Int32.ofInt x).toInt64) = _
  rw [← Int64.ofInt_toInt (Int32.ofInt x).toInt64, Int32.toInt_toInt64]
  rfl
theorem oq_i2b (x : Int) : mm_s3 .i2b (dz_I x) = some (dz_I (dz_b x)) := by
  show some (Value.int _) = _
  rw [← dz_oc (Int32.ofInt x).toInt8.toInt32]
  rfl
theorem oq_i2s (x : Int) : mm_s3 .i2s (dz_I x) = some (dz_I (dz_s x)) := by
  show some (Value.int _) = _
  rw [← dz_oc (Int32.ofInt x).toInt16.toInt32]
  rfl
theorem oq_l2i (x : Int) : mm_s3 .l2i (dz_J x) = some (dz_I (dz_li x)) := by
  show some (Value.int _) = _
  rw [← dz_oc (Int64.ofInt x).toInt32]
  rfl
theorem ol_add (x y : Int) : mm_s4 .ladd (dz_J x) (dz_J y) = some (dz_J (x + y)) := congrArg (fun z => some (Value.long z)) (Int64.ofInt_add x y).symm
theorem ol_and (x y : Int) : mm_s4 .land (dz_J x) (dz_J y) = some (dz_J (dz_lan x y)) := congrArg (fun z => some (Value.long z)) (dz_ol _).symm
theorem ol_or (x y : Int) : mm_s4 .lor (dz_J x) (dz_J y) = some (dz_J (dz_lor x y)) := congrArg (fun z => some (Value.long z)) (dz_ol _).symm
theorem ol_shl (x y : Int) : mm_s4 .lshl (dz_J x) (dz_I y) = some (dz_J (dz_lsl x y)) := congrArg (fun z => some (Value.long z)) (dz_ol _).symm
theorem ol_shr (x y : Int) : mm_s4 .lshr (dz_J x) (dz_I y) = some (dz_J (dz_lsr x y)) := congrArg (fun z => some (Value.long z)) (dz_ol _).symm
theorem ol_ushr (x y : Int) : mm_s4 .lushr (dz_J x) (dz_I y) = some (dz_J (dz_lur x y)) := congrArg (fun z => some (Value.long z)) (dz_ol _).symm
-- comparisons
section ccs
variable {x y x' y' : Int}
theorem cq_lt (hx : dz_c x = x') (hy : dz_c y = y') : mm_cc .lt (Int32.ofInt x) (Int32.ofInt y) = decide (x' < y') := by
  subst hx hy
  exact decide_eq_decide.mpr Int32.lt_iff_toInt_lt
theorem cq_ge (hx : dz_c x = x') (hy : dz_c y = y') : mm_cc .ge (Int32.ofInt x) (Int32.ofInt y) = decide (y' ≤ x') := by
  subst hx hy
  exact decide_eq_decide.mpr Int32.le_iff_toInt_le
theorem cq_gt (hx : dz_c x = x') (hy : dz_c y = y') : mm_cc .gt (Int32.ofInt x) (Int32.ofInt y) = decide (y' < x') := by
  subst hx hy
  exact decide_eq_decide.mpr Int32.lt_iff_toInt_lt
theorem cq_le (hx : dz_c x = x') (hy : dz_c y = y') : mm_cc .le (Int32.ofInt x) (Int32.ofInt y) = decide (x' ≤ y') := by
  subst hx hy
  exact decide_eq_decide.mpr Int32.le_iff_toInt_le
theorem cq_eq (hx : dz_c x = x') (hy : dz_c y = y') : mm_cc .eq (Int32.ofInt x) (Int32.ofInt y) = decide (x' = y') := by
  subst hx hy
  exact decide_eq_decide.mpr Int32.toInt_inj.symm
theorem cq_ne (hx : dz_c x = x') (hy : dz_c y = y') : mm_cc .ne (Int32.ofInt x) (Int32.ofInt y) = decide (x' ≠ y') := by
  have := cq_eq hx hy
  show (!(mm_cc .eq (Int32.ofInt x) (Int32.ofInt y))) = _
  rw [this, decide_not]
theorem cz_lt (hx : dz_c x = x') : mm_cc .lt (Int32.ofInt x) 0 = decide (x' < 0) := cq_lt (y := 0) hx rfl
theorem cz_ge (hx : dz_c x = x') : mm_cc .ge (Int32.ofInt x) 0 = decide (0 ≤ x') := cq_ge (y := 0) hx rfl
theorem cz_gt (hx : dz_c x = x') : mm_cc .gt (Int32.ofInt x) 0 = decide (0 < x') := cq_gt (y := 0) hx rfl
theorem cz_le (hx : dz_c x = x') : mm_cc .le (Int32.ofInt x) 0 = decide (x' ≤ 0) := cq_le (y := 0) hx rfl
theorem cz_eq (hx : dz_c x = x') : mm_cc .eq (Int32.ofInt x) 0 = decide (x' = 0) := cq_eq (y := 0) hx rfl
theorem cz_ne (hx : dz_c x = x') : mm_cc .ne (Int32.ofInt x) 0 = decide (x' ≠ 0) := cq_ne (y := 0) hx rfl
theorem cb_eq {b : Bool} : mm_cc .eq (bif b then 1 else 0) 0 = decide (b = false) := by cases b <;> decide
theorem cb_ne {b : Bool} : mm_cc .ne (bif b then 1 else 0) 0 = decide (b = true) := by cases b <;> decide
theorem cd_eq {p : Prop} [Decidable p] : mm_cc .eq (bif decide p then 1 else 0) 0 = decide (¬p) := by by_cases h : p <;> simp only [h, decide_true, decide_false, not_true, not_false_eq_true] <;> decide
theorem cd_ne {p : Prop} [Decidable p] : mm_cc .ne (bif decide p then 1 else 0) 0 = decide p := by by_cases h : p <;> simp only [h, decide_true, decide_false] <;> decide
theorem cl_v (x y : Int) : (lg_cmp (Int64.ofInt x) (Int64.ofInt y)).toInt = if dz_l y < dz_l x then 1 else if dz_l x = dz_l y then 0 else -1 := by
  unfold lg_cmp dz_l
  simp only [gt_iff_lt, Int64.lt_iff_toInt_lt, ← Int64.toInt_inj]
  split
  · rfl
  · split <;> rfl
theorem cl_w (c : ClassFile.Cond) (z : Int32) (b : Bool) (h : mm_cc c (Int32.ofInt z.toInt) 0 = b) : mm_cc c z 0 = b := by rw [dz_oc] at h; exact h
theorem cl_lt (hx : dz_l x = x') (hy : dz_l y = y') : mm_cc .lt (lg_cmp (Int64.ofInt x) (Int64.ofInt y)) 0 = decide (x' < y') := by
  subst hx hy
  apply cl_w
  rw [cz_lt (by unfold dz_c; rw [dz_oc, cl_v])]
  apply decide_eq_decide.mpr
  split
  · omega
  · split <;> omega
theorem cl_ge (hx : dz_l x = x') (hy : dz_l y = y') : mm_cc .ge (lg_cmp (Int64.ofInt x) (Int64.ofInt y)) 0 = decide (y' ≤ x') := by
  subst hx hy
  apply cl_w
  rw [cz_ge (by unfold dz_c; rw [dz_oc, cl_v])]
  apply decide_eq_decide.mpr
  split
  · omega
  · split <;> omega
theorem cl_gt (hx : dz_l x = x') (hy : dz_l y = y') : mm_cc .gt (lg_cmp (Int64.ofInt x) (Int64.ofInt y)) 0 = decide (y' < x') := by
  subst hx hy
  apply cl_w
  rw [cz_gt (by unfold dz_c; rw [dz_oc, cl_v])]
  apply decide_eq_decide.mpr
  split
  · omega
  · split <;> omega
theorem cl_le (hx : dz_l x = x') (hy : dz_l y = y') : mm_cc .le (lg_cmp (Int64.ofInt x) (Int64.ofInt y)) 0 = decide (x' ≤ y') := by
  subst hx hy
  apply cl_w
  rw [cz_le (by unfold dz_c; rw [dz_oc, cl_v])]
  apply decide_eq_decide.mpr
  split
  · omega
  · split <;> omega
end ccs
end
section
abbrev hz_S : Type := (Nat × Nat × Nat × Nat) ⊕ (Nat × Nat × List (Nat × Nat)) ⊕ (Nat × List Nat)
def hz_v (Z : dz_Z) (b : Nat) (q : Nat × Nat) : Value := match q.1 with
  | 0 => dz_I (Z b q.2 0)
  | 1 => .ref q.2
  | _ => .ref (Z b q.2 0).toNat
def hz_c (Z : dz_Z) (s : hz_S) : mm_E := match s with
  | .inl (1, b, f, n) => .inl (1, .inr (.inl (dz_x n (Z b f))))
  | .inl (t, b, f, n) => .inl (t, .inl (dz_w n (Z b f)))
  | .inr (.inl (c, b, fs)) => .inr (c, fs.map (hz_v Z b))
  | .inr (.inr (t, l)) => .inl (t, .inr (.inr (l.map some)))
def hz_l (s : hz_S) : List (Nat × Nat) := match s with
  | .inl (_, b, f, _) => [(b, f)]
  | .inr (.inl (_, b, fs)) => (fs.filter (fun q => !Nat.beq q.1 1)).map (fun q => (b, q.2))
  | .inr (.inr _) => []
def hz_bo (s : hz_S) : Option Nat := match s with
  | .inl (_, b, _, _) => some b
  | .inr (.inl (_, b, _)) => some b
  | .inr (.inr _) => none
def hz_m (b f : Nat) (s : hz_S) : Bool := (hz_l s).any (fun p => Nat.beq p.1 b && Nat.beq p.2 f)
def hz_dis (s s' : hz_S) : Bool := match hz_bo s, hz_bo s' with
  | some b, some b' => bif Nat.beq b b' then (hz_l s).all (fun p => !hz_m p.1 p.2 s') else true
  | _, _ => true
def hz_pw : List hz_S → Bool
  | [] => true
  | s :: t => t.all (hz_dis s) && hz_pw t
def hz_t : List hz_S := [.inr (.inl (9, 0, [(1, 1), (1, 2), (2, 2), (2, 3), (1, 46), (1, 54), (1, 65), (1, 66), (1, 67), (0, 9), (0, 10)])),
  .inr (.inl (5, 1, [(1, 2), (2, 1), (2, 2), (0, 3), (0, 4), (0, 5), (0, 6), (0, 7), (0, 8), (0, 9)])),
  .inr (.inl (8, 2, [(1, 3), (0, 1)])),
  .inl (2, 2, 0, 320),
  .inr (.inl (4, 4, [(0, 0), (1, 5), (1, 6), (0, 3), (1, 7), (1, 8), (0, 6), (1, 9), (1, 10), (1, 11), (0, 10), (0, 11), (1, 12), (1, 13), (1, 14), (0, 15)])),
  .inl (0, 4, 1, 4),
  .inl (0, 4, 2, 4),
  .inl (0, 4, 4, 5),
  .inl (0, 4, 5, 5),
  .inl (0, 4, 7, 8),
  .inl (0, 4, 8, 8),
  .inl (0, 4, 9, 8),
  .inl (0, 4, 12, 4),
  .inl (0, 4, 13, 4),
  .inl (0, 4, 14, 4),
  .inr (.inl (6, 15, [(1, 16), (1, 17), (1, 18), (1, 19), (1, 20), (1, 24), (0, 6)])),
  .inl (0, 15, 0, 5),
  .inl (0, 15, 1, 5),
  .inl (0, 15, 2, 8),
  .inl (0, 15, 3, 3),
  .inr (.inr (4, [21, 22, 23])),
  .inl (0, 15, 20, 12),
  .inl (0, 15, 21, 12),
  .inl (0, 15, 22, 12),
  .inl (0, 15, 5, 12),
  .inr (.inl (4, 25, [(0, 0), (1, 26), (1, 27), (0, 3), (1, 28), (1, 29), (0, 6), (1, 30), (1, 31), (1, 32), (0, 10), (0, 11), (1, 33), (1, 34), (1, 35), (0, 15)])),
  .inl (0, 25, 1, 4),
  .inl (0, 25, 2, 4),
  .inl (0, 25, 4, 5),
  .inl (0, 25, 5, 5),
  .inl (0, 25, 7, 8),
  .inl (0, 25, 8, 8),
  .inl (0, 25, 9, 8),
  .inl (0, 25, 12, 4),
  .inl (0, 25, 13, 4),
  .inl (0, 25, 14, 4),
  .inr (.inl (6, 36, [(1, 37), (1, 38), (1, 39), (1, 40), (1, 41), (1, 45), (0, 6)])),
  .inl (0, 36, 0, 5),
  .inl (0, 36, 1, 5),
  .inl (0, 36, 2, 8),
  .inl (0, 36, 3, 3),
  .inr (.inr (4, [42, 43, 44])),
  .inl (0, 36, 20, 12),
  .inl (0, 36, 21, 12),
  .inl (0, 36, 22, 12),
  .inl (0, 36, 5, 12),
  .inr (.inl (2, 46, [(1, 47), (1, 48), (1, 49), (1, 50), (1, 51), (0, 5), (0, 6), (0, 7), (0, 8), (0, 9), (1, 52), (1, 53)])),
  .inl (0, 46, 0, 8),
  .inl (0, 46, 1, 8),
  .inl (1, 46, 2, 8),
  .inl (0, 46, 3, 8),
  .inl (0, 46, 4, 8),
  .inl (0, 46, 10, 5),
  .inl (0, 46, 11, 8),
  .inr (.inl (1, 54, [(1, 55), (1, 63), (1, 64), (0, 3)])),
  .inr (.inl (2, 55, [(1, 56), (1, 57), (1, 58), (1, 59), (1, 60), (0, 5), (0, 6), (0, 7), (0, 8), (0, 9), (1, 61), (1, 62)])),
  .inl (0, 55, 0, 8),
  .inl (0, 55, 1, 8),
  .inl (1, 55, 2, 8),
  .inl (0, 55, 3, 8),
  .inl (0, 55, 4, 8),
  .inl (0, 55, 10, 5),
  .inl (0, 55, 11, 8),
  .inl (0, 54, 1, 12),
  .inl (0, 54, 2, 12),
  .inr (.inl (0, 65, [(0, 0), (0, 1), (0, 2), (0, 3), (0, 4), (0, 5), (0, 6), (0, 7)])),
  .inr (.inr (5, [68, 87])),
  .inr (.inr (6, [106, 108, 110, 112])),
  .inr (.inl (3, 68, [(1, 69), (1, 79), (0, 2)])),
  .inr (.inl (6, 69, [(1, 70), (1, 71), (1, 72), (1, 73), (1, 74), (1, 78), (0, 6)])),
  .inl (0, 69, 0, 5),
  .inl (0, 69, 1, 5),
  .inl (0, 69, 2, 8),
  .inl (0, 69, 3, 3),
  .inr (.inr (4, [75, 76, 77])),
  .inl (0, 69, 20, 12),
  .inl (0, 69, 21, 12),
  .inl (0, 69, 22, 12),
  .inl (0, 69, 5, 12),
  .inr (.inl (2, 79, [(1, 80), (1, 81), (1, 82), (1, 83), (1, 84), (0, 5), (0, 6), (0, 7), (0, 8), (0, 9), (1, 85), (1, 86)])),
  .inl (0, 79, 0, 8),
  .inl (0, 79, 1, 8),
  .inl (1, 79, 2, 8),
  .inl (0, 79, 3, 8),
  .inl (0, 79, 4, 8),
  .inl (0, 79, 10, 5),
  .inl (0, 79, 11, 8),
  .inr (.inl (3, 87, [(1, 88), (1, 98), (0, 2)])),
  .inr (.inl (6, 88, [(1, 89), (1, 90), (1, 91), (1, 92), (1, 93), (1, 97), (0, 6)])),
  .inl (0, 88, 0, 5),
  .inl (0, 88, 1, 5),
  .inl (0, 88, 2, 8),
  .inl (0, 88, 3, 3),
  .inr (.inr (4, [94, 95, 96])),
  .inl (0, 88, 20, 12),
  .inl (0, 88, 21, 12),
  .inl (0, 88, 22, 12),
  .inl (0, 88, 5, 12),
  .inr (.inl (2, 98, [(1, 99), (1, 100), (1, 101), (1, 102), (1, 103), (0, 5), (0, 6), (0, 7), (0, 8), (0, 9), (1, 104), (1, 105)])),
  .inl (0, 98, 0, 8),
  .inl (0, 98, 1, 8),
  .inl (1, 98, 2, 8),
  .inl (0, 98, 3, 8),
  .inl (0, 98, 4, 8),
  .inl (0, 98, 10, 5),
  .inl (0, 98, 11, 8),
  .inr (.inl (7, 106, [(1, 107), (0, 1), (0, 2)])),
  .inl (0, 106, 0, 40),
  .inr (.inl (7, 108, [(1, 109), (0, 1), (0, 2)])),
  .inl (0, 108, 0, 40),
  .inr (.inl (7, 110, [(1, 111), (0, 1), (0, 2)])),
  .inl (0, 110, 0, 40),
  .inr (.inl (7, 112, [(1, 113), (0, 1), (0, 2)])),
  .inl (0, 112, 0, 40),
  .inr (.inl (10, 114, [(1, 115), (0, 1), (0, 2), (0, 3), (0, 4), (0, 5), (0, 6), (1, 116), (1, 117), (1, 118), (1, 119), (1, 120), (1, 121), (1, 122), (1, 123), (1, 124), (1, 125), (0, 17), (0, 18), (0, 19), (0, 20), (1, 126), (0, 22), (0, 23), (0, 24), (0, 25), (0, 26), (0, 27), (0, 28), (0, 29), (1, 127), (1, 128), (1, 129), (1, 130), (0, 34), (1, 131), (1, 132), (0, 37), (0, 38), (0, 39), (0, 40), (1, 133), (1, 134), (1, 135), (1, 136), (0, 45)])),
  .inl (0, 114, 0, 700),
  .inl (0, 114, 7, 8),
  .inl (0, 114, 8, 10),
  .inl (0, 114, 9, 8),
  .inl (0, 114, 10, 12),
  .inl (0, 114, 11, 140),
  .inl (0, 114, 12, 8),
  .inl (0, 114, 13, 10),
  .inl (0, 114, 14, 8),
  .inl (0, 114, 15, 12),
  .inl (0, 114, 16, 5),
  .inl (0, 114, 21, 320),
  .inl (0, 114, 30, 16),
  .inl (0, 114, 31, 67),
  .inl (0, 114, 32, 5),
  .inl (0, 114, 33, 8),
  .inl (0, 114, 35, 12),
  .inl (0, 114, 36, 12),
  .inl (3, 114, 41, 2),
  .inl (0, 114, 42, 4),
  .inl (0, 114, 43, 4),
  .inl (0, 114, 44, 160)]
def hz_0 (Z : dz_Z) : mm_H := hz_t.map (hz_c Z)
set_option maxRecDepth 20000 in
theorem hz_ok : hz_pw hz_t = true := by decide +kernel
end
section
/-! the heap as a table over Z: lookups, writes, and the machine's steps over it -/
theorem hz_g {Z : dz_Z} {c : Nat} {s : hz_S} (h : hz_t[c]? = some s) : (hz_0 Z)[c]? = some (hz_c Z s) := by
  unfold hz_0
  rw [List.getElem?_map, h]
  rfl
theorem hz_pwl {s s' : hz_S} : ∀ (l : List hz_S) (i j : Nat), hz_pw l = true → i < j → l[i]? = some s → l[j]? = some s' → hz_dis s s' = true
  | [], i, j, _, _, hi, _ => by simp at hi
  | a :: t, 0, 0, _, hl, _, _ => by omega
  | a :: t, 0, j + 1, hp, _, hi, hj => by
    simp only [List.getElem?_cons_zero, Option.some.injEq] at hi
    simp only [List.getElem?_cons_succ] at hj
    subst hi
    unfold hz_pw at hp
    rw [Bool.and_eq_true, List.all_eq_true] at hp
    exact hp.1 _ (List.mem_of_getElem? hj)
  | a :: t, i + 1, 0, _, hl, _, _ => by omega
  | a :: t, i + 1, j + 1, hp, hl, hi, hj => by
    simp only [List.getElem?_cons_succ] at hi hj
    unfold hz_pw at hp
    rw [Bool.and_eq_true] at hp
    exact hz_pwl t i j hp.2 (by omega) hi hj
theorem hz_bs {b f : Nat} {s : hz_S} (h : hz_m b f s = true) : hz_bo s = some b := by
  unfold hz_m hz_l at h
  unfold hz_bo
  split at h
  · simp only [List.any_cons, List.any_nil, Bool.or_false, Bool.and_eq_true] at h
    rw [Nat.eq_of_beq_eq_true h.1]
  · rw [List.any_eq_true] at h
    obtain ⟨p, hp, hq⟩ := h
    obtain ⟨q, -, rfl⟩ := List.mem_map.mp hp
    rw [Bool.and_eq_true] at hq
    exact congrArg some (Nat.eq_of_beq_eq_true hq.1)
  · simp at h
theorem hz_dm {b f : Nat} {s s' : hz_S} (h : hz_m b f s = true) (h' : hz_m b f s' = true) (hd : hz_dis s s' = true) : False := by
  have e1 := hz_bs h
  have e2 := hz_bs h'
  unfold hz_dis at hd
  rw [e1, e2] at hd
  simp only [Nat.beq_refl, cond_true] at hd
  unfold hz_m at h
  rw [List.any_eq_true] at h
  obtain ⟨p, hp, hq⟩ := h
  rw [Bool.and_eq_true] at hq
  rw [List.all_eq_true] at hd
  have := hd p hp
  rw [Nat.eq_of_beq_eq_true hq.1, Nat.eq_of_beq_eq_true hq.2, h'] at this
  cases this
theorem hz_one {b f c c' : Nat} {s s' : hz_S} (h : hz_t[c]? = some s) (h' : hz_t[c']? = some s') (hn : c' ≠ c) (hm : hz_m b f s = true) : hz_m b f s' = false := by
  cases hm' : hz_m b f s' with
  | false => rfl
  | true =>
    exfalso
    rcases Nat.lt_or_gt_of_ne hn with hl | hl
    · exact hz_dm hm' hm (hz_pwl hz_t c' c hz_ok hl h' h)
    · exact hz_dm hm hm' (hz_pwl hz_t c c' hz_ok hl h h')
theorem hz_cm {Z Z' : dz_Z} {b f : Nat} (hz : ∀ b' f', ¬(b' = b ∧ f' = f) → Z' b' f' = Z b' f') {s : hz_S} (hm : hz_m b f s = false) : hz_c Z' s = hz_c Z s := by
  unfold hz_m hz_l at hm
  have hk : ∀ b' f', (Nat.beq b' b && Nat.beq f' f) = false → Z' b' f' = Z b' f' := by
    intro b' f' h
    apply hz
    rintro ⟨rfl, rfl⟩
    simp [Nat.beq_refl] at h
  unfold hz_c
  split
  · simp only [List.any_cons, List.any_nil, Bool.or_false] at hm
    rw [hk _ _ hm]
  · simp only [List.any_cons, List.any_nil, Bool.or_false] at hm
    rw [hk _ _ hm]
  · next b1 fs =>
    congr 2
    apply List.map_congr_left
    intro q hq
    rw [List.any_eq_false] at hm
    unfold hz_v
    split
    · next h0 => rw [hk _ _ (by have := hm (b1, q.2) (List.mem_map.mpr ⟨q, List.mem_filter.mpr ⟨hq, by rw [h0]; rfl⟩, rfl⟩); exact Bool.eq_false_iff.mpr this)]
    · rfl
    · next h0 h1 => rw [hk _ _ (by have := hm (b1, q.2) (List.mem_map.mpr ⟨q, List.mem_filter.mpr ⟨hq, by cases hb : Nat.beq q.1 1 with | false => rfl | true => exact absurd (Nat.eq_of_beq_eq_true hb) h1⟩, rfl⟩); exact Bool.eq_false_iff.mpr this)]
  · rfl
theorem hz_s {Z Z' : dz_Z} {b f c : Nat} {s : hz_S} (hc : hz_t[c]? = some s) (hm : hz_m b f s = true) (hz : ∀ b' f', ¬(b' = b ∧ f' = f) → Z' b' f' = Z b' f') : (hz_0 Z).set c (hz_c Z' s) = hz_0 Z' := by
  apply List.ext_getElem?
  intro k
  by_cases hk : k = c
  · subst hk
    rw [List.getElem?_set_self (mm_lt (hz_g hc)), hz_g hc]
  · rw [List.getElem?_set_ne (Ne.symm hk)]
    unfold hz_0
    rw [List.getElem?_map, List.getElem?_map]
    cases h : hz_t[k]? with
    | none => rfl
    | some s' => simp only [Option.map_some]; rw [hz_cm hz (hz_one hc h hk hm)]
theorem dz_uo {Z : dz_Z} {b f : Nat} {i v : Int} : ∀ b' f', ¬(b' = b ∧ f' = f) → dz_u Z b f i v b' f' = Z b' f' := by
  intro b' f' h
  funext i'
  unfold dz_u
  rw [if_neg (fun q => h ⟨q.1, q.2.1⟩)]
theorem dz_fo {Z : dz_Z} {b f : Nat} {g : Int → Int} : ∀ b' f', ¬(b' = b ∧ f' = f) → dz_f Z b f g b' f' = Z b' f' := by
  intro b' f' h
  funext i'
  unfold dz_f
  rw [if_neg h]
theorem dz_ws {Z : dz_Z} {b f n : Nat} {j v : Int} (h0 : 0 ≤ j) : (dz_w n (Z b f)).set j.toNat (Int32.ofInt v) = dz_w n (dz_u Z b f j v b f) := by
  apply List.ext_getElem?
  intro k
  unfold dz_w dz_u
  rw [List.getElem?_set]
  simp only [List.length_map, List.length_range, List.getElem?_map]
  by_cases hk : j.toNat = k
  · subst hk
    rw [if_pos rfl]
    by_cases hl : j.toNat < n
    · rw [if_pos hl, List.getElem?_range hl]
      simp only [Option.map_some, true_and]
      rw [if_pos (by omega)]
    · rw [if_neg hl, List.getElem?_eq_none (by simp; omega)]
      rfl
  · rw [if_neg hk]
    cases h : (List.range n)[k]? with
    | none => rfl
    | some k' =>
      have : k' = k := by have := List.getElem?_eq_some_iff.mp h; obtain ⟨h1, h2⟩ := this; simpa using h2.symm
      subst this
      simp only [Option.map_some, true_and]
      rw [if_neg (by omega)]
theorem dz_xs {Z : dz_Z} {b f n : Nat} {j v : Int} (h0 : 0 ≤ j) : (dz_x n (Z b f)).set j.toNat (Int64.ofInt v) = dz_x n (dz_u Z b f j v b f) := by
  apply List.ext_getElem?
  intro k
  unfold dz_x dz_u
  rw [List.getElem?_set]
  simp only [List.length_map, List.length_range, List.getElem?_map]
  by_cases hk : j.toNat = k
  · subst hk
    rw [if_pos rfl]
    by_cases hl : j.toNat < n
    · rw [if_pos hl, List.getElem?_range hl]
      simp only [Option.map_some, true_and]
      rw [if_pos (by omega)]
    · rw [if_neg hl, List.getElem?_eq_none (by simp; omega)]
      rfl
  · rw [if_neg hk]
    cases h : (List.range n)[k]? with
    | none => rfl
    | some k' =>
      have : k' = k := by have := List.getElem?_eq_some_iff.mp h; obtain ⟨h1, h2⟩ := this; simpa using h2.symm
      subst this
      simp only [Option.map_some, true_and]
      rw [if_neg (by omega)]
theorem dz_wn (n : Nat) (g : Int → Int) : (dz_w n g).length = n := by unfold dz_w; simp
theorem dz_xn (n : Nat) (g : Int → Int) : (dz_x n g).length = n := by unfold dz_x; simp
theorem dz_wg {n : Nat} {g : Int → Int} {j : Int} (h0 : 0 ≤ j) (h1 : j < n) : (dz_w n g).getD j.toNat 0 = Int32.ofInt (g j) := by
  unfold dz_w
  rw [List.getD_eq_getElem?_getD, List.getElem?_map, List.getElem?_range (by omega)]
  simp only [Option.map_some, Option.getD_some]
  rw [Int.toNat_of_nonneg h0]
theorem dz_xg {n : Nat} {g : Int → Int} {j : Int} (h0 : 0 ≤ j) (h1 : j < n) : (dz_x n g).getD j.toNat 0 = Int64.ofInt (g j) := by
  unfold dz_x
  rw [List.getD_eq_getElem?_getD, List.getElem?_map, List.getElem?_range (by omega)]
  simp only [Option.map_some, Option.getD_some]
  rw [Int.toNat_of_nonneg h0]
theorem dz_tn (j : Int) : (Int32.ofInt j).toNatClampNeg = (dz_c j).toNat := rfl
theorem dz_in {j j' : Int} {n : Nat} (hj : dz_c j = j') (h0 : 0 ≤ j') (h1 : j' < n) : mm_in (Int32.ofInt j) n = true := by
  subst hj
  unfold mm_in
  rw [dz_tn, Bool.and_eq_true, Bool.not_eq_true', decide_eq_false_iff_not]
  refine ⟨fun h => ?_, by rw [Nat.blt_eq]; omega⟩
  have : dz_c j < (0 : Int32).toInt := Int32.lt_iff_toInt_lt.mp h
  simp only [Int32.toInt_zero] at this
  omega
section wq
variable {X : Option (List Int32)} {Dp : Nat} {r : mm_R} {pc pc' n : Nat} {ls ls' : mm_L} {t : List Value} {h h' : mm_H} {Q : Option Value → mm_H → Prop} {i : Instr} {Z : dz_Z} {idx ci c b f k : Nat} {x y z j j' : Int} {fs : List (Nat × Nat)} {w : Int × List (Nat × Nat)}
theorem wq_2 (hat : mm_at r pc = some (i, 1)) (hk : mm_kd i = 1) (hop : mm_s2 i (Int32.ofInt x) (Int32.ofInt y) = some (Int32.ofInt z)) (hp : pc + 1 = pc') (kk : mm_Wp X Dp r pc' ls (dz_I z :: t) h Q) : mm_Wp X Dp r pc ls (dz_I y :: dz_I x :: t) h Q := by
  subst hp
  refine wp_s hat (ls' := ls) (st' := dz_I z :: t) (h' := h) ?_ kk
  unfold mm_go
  rw [hk]
  simp only [hop, Option.map_some]
theorem wq_3 {v v' : Value} (hat : mm_at r pc = some (i, 1)) (hk : mm_kd i = 2) (hop : mm_s3 i v = some v') (hp : pc + 1 = pc') (kk : mm_Wp X Dp r pc' ls (v' :: t) h Q) : mm_Wp X Dp r pc ls (v :: t) h Q := by
  subst hp
  refine wp_s hat (ls' := ls) (st' := v' :: t) (h' := h) ?_ kk
  unfold mm_go
  rw [hk]
  simp only [hop, Option.map_some]
theorem wq_4 {v v' u : Value} (hat : mm_at r pc = some (i, 1)) (hk : mm_kd i = 3) (hop : mm_s4 i v u = some v') (hp : pc + 1 = pc') (kk : mm_Wp X Dp r pc' ls (v' :: t) h Q) : mm_Wp X Dp r pc ls (u :: v :: t) h Q := by
  subst hp
  refine wp_s hat (ls' := ls) (st' := v' :: t) (h' := h) ?_ kk
  unfold mm_go
  rw [hk]
  simp only [hop, Option.map_some]
theorem wq_inc {d : Int} (hat : mm_at r pc = some (.iinc k d, 3)) (hl : mm_ld ls k = some (dz_I x)) (hs : mm_sv ls k (dz_I (x + d)) = some ls') (hp : pc + 3 = pc') (kk : mm_Wp X Dp r pc' ls' t h Q) : mm_Wp X Dp r pc ls t h Q := by
  subst hp
  refine wp_s hat (ls' := ls') (st' := t) (h' := h) ?_ kk
  show (Sum.inl ((mm_s7 (.iinc k d) 3 ls t).map (fun q : mm_L × List Value => (pc + 3, q.1, q.2, h))) : mm_O) = _
  unfold mm_s7
  simp only [hl]
  rw [← Int32.ofInt_add, hs]
  rfl
theorem wq_st (hat : mm_at r pc = some (i, n)) {v : Int32} (hk : mm_kd i = 6) (hi : mm_s7 i n ls (.int v :: t) = (mm_sv ls k (.int v)).map (fun q => (q, t))) (hs : mm_sv ls k (.int v) = some ls') (hp : pc + n = pc') (kk : mm_Wp X Dp r pc' ls' t h Q) : mm_Wp X Dp r pc ls (.int v :: t) h Q := by
  subst hp
  refine wp_s hat (ls' := ls') (st' := t) (h' := h) ?_ kk
  unfold mm_go
  rw [hk]
  simp only [hi, hs, Option.map_some]
theorem wq_sa (hat : mm_at r pc = some (i, n)) (hk : mm_kd i = 6) (hi : ∀ z, mm_s7 i n ls (dz_I z :: t) = (mm_sv ls k (dz_I z)).map (fun q => (q, t))) (hs : ∀ z, mm_sv ls k (dz_I z) = some (ls.set k (some (dz_I z)))) (hp : pc + n = pc') (kk : ∀ z, z = x → mm_Wp X Dp r pc' (ls.set k (some (dz_I z))) t h Q) : mm_Wp X Dp r pc ls (dz_I x :: t) h Q := wq_st hat hk (hi x) (hs x) hp (kk x rfl)
theorem wq_if {q : ClassFile.Cond} {off : Int} {v : Int32} {tt : Nat} {p : Prop} [Decidable p] (hat : mm_at r pc = some (.ifCond q off, 3)) (ht : mm_tg pc off = some tt) (hc : mm_cc q v 0 = decide p) (hp : pc + 3 = pc') (kt : p → mm_Wp X Dp r tt ls t h Q) (kf : ¬p → mm_Wp X Dp r pc' ls t h Q) : mm_Wp X Dp r pc ls (.int v :: t) h Q := by
  subst hp
  exact wp_if hat ht (fun e => kt (of_decide_eq_true (hc ▸ e))) (fun e => kf (of_decide_eq_false (hc ▸ e)))
theorem wq_ic {q : ClassFile.Cond} {off : Int} {u v : Int32} {tt : Nat} {p : Prop} [Decidable p] (hat : mm_at r pc = some (.if_icmp q off, 3)) (ht : mm_tg pc off = some tt) (hc : mm_cc q u v = decide p) (hp : pc + 3 = pc') (kt : p → mm_Wp X Dp r tt ls t h Q) (kf : ¬p → mm_Wp X Dp r pc' ls t h Q) : mm_Wp X Dp r pc ls (.int v :: .int u :: t) h Q := by
  subst hp
  exact wp_ic hat ht (fun e => kt (of_decide_eq_true (hc ▸ e))) (fun e => kf (of_decide_eq_false (hc ▸ e)))
-- fields
theorem wq_gi (hat : mm_at r pc = some (.getfield idx, 3)) (hrk : mm_rk r.2.2.2 idx = some (idx, 0, ci, k, w)) (hc : hz_t[c]? = some (.inr (.inl (ci, b, fs)))) (hv : fs[k]? = some (0, k)) (hp : pc + 3 = pc') (kk : mm_Wp X Dp r pc' ls (dz_I (Z b k 0) :: t) (hz_0 Z) Q) : mm_Wp X Dp r pc ls (.ref c :: t) (hz_0 Z) Q :=
  wp_gf hat hrk (hz_g hc) (by show (fs.map (hz_v Z b))[k]? = _; rw [List.getElem?_map, hv]; rfl) hp kk
theorem wq_gr {a : Nat} (hat : mm_at r pc = some (.getfield idx, 3)) (hrk : mm_rk r.2.2.2 idx = some (idx, 0, ci, k, w)) (hc : hz_t[c]? = some (.inr (.inl (ci, b, fs)))) (hv : fs[k]? = some (1, a)) (hp : pc + 3 = pc') (kk : mm_Wp X Dp r pc' ls (.ref a :: t) (hz_0 Z) Q) : mm_Wp X Dp r pc ls (.ref c :: t) (hz_0 Z) Q :=
  wp_gf hat hrk (hz_g hc) (by show (fs.map (hz_v Z b))[k]? = _; rw [List.getElem?_map, hv]; rfl) hp kk
theorem wq_gd (hat : mm_at r pc = some (.getfield idx, 3)) (hrk : mm_rk r.2.2.2 idx = some (idx, 0, ci, k, w)) (hc : hz_t[c]? = some (.inr (.inl (ci, b, fs)))) (hv : fs[k]? = some (2, k)) (hp : pc + 3 = pc') (kk : mm_Wp X Dp r pc' ls (.ref (Z b k 0).toNat :: t) (hz_0 Z) Q) : mm_Wp X Dp r pc ls (.ref c :: t) (hz_0 Z) Q :=
  wp_gf hat hrk (hz_g hc) (by show (fs.map (hz_v Z b))[k]? = _; rw [List.getElem?_map, hv]; rfl) hp kk
theorem hz_ob {v : Value} {u : Nat} (hu : u ≠ 1) (hnd : ∀ (j : Nat) (p : Nat × Nat), fs[j]? = some p → p.1 ≠ 1 → p.2 = j) (hv : fs[k]? = some (u, k)) (hx : hz_v (dz_u Z b k 0 x) b (u, k) = v) : (fs.map (hz_v Z b)).set k v = fs.map (hz_v (dz_u Z b k 0 x) b) := by
  apply List.ext_getElem?
  intro j
  rw [List.getElem?_set]
  by_cases hj : k = j
  · subst hj
    rw [if_pos rfl, List.getElem?_map, hv, if_pos (by rw [List.length_map]; exact (List.getElem?_eq_some_iff.mp hv).1)]
    simp only [Option.map_some, hx]
  · rw [if_neg hj, List.getElem?_map, List.getElem?_map]
    cases hq : fs[j]? with
    | none => rfl
    | some p =>
      simp only [Option.map_some, Option.some.injEq]
      by_cases h1 : p.1 = 1
      · unfold hz_v; rw [h1]; rfl
      · have e := hnd j p hq h1
        unfold hz_v
        rw [dz_uo b p.2 (fun q => hj (by omega))]
theorem hz_mo {u : Nat} (hu : u ≠ 1) (hv : fs[k]? = some (u, k)) : hz_m b k (.inr (.inl (ci, b, fs))) = true := by
  unfold hz_m hz_l
  rw [List.any_eq_true]
  refine ⟨(b, k), List.mem_map.mpr ⟨(u, k), List.mem_filter.mpr ⟨List.mem_of_getElem? hv, ?_⟩, rfl⟩, by simp [Nat.beq_refl]⟩
  cases hb : Nat.beq u 1 with
  | false => rfl
  | true => exact absurd (Nat.eq_of_beq_eq_true hb) hu
def hz_nd (fs : List (Nat × Nat)) : Bool := (List.range fs.length).all (fun j => match fs[j]? with
  | some p => Nat.beq p.1 1 || Nat.beq p.2 j
  | none => true)
theorem hz_ndp (hb : hz_nd fs = true) : ∀ (j : Nat) (p : Nat × Nat), fs[j]? = some p → p.1 ≠ 1 → p.2 = j := by
  intro j p hj hp
  unfold hz_nd at hb
  rw [List.all_eq_true] at hb
  have := hb j (List.mem_range.mpr (List.getElem?_eq_some_iff.mp hj).1)
  rw [hj] at this
  simp only [Bool.or_eq_true] at this
  rcases this with h1 | h1
  · exact absurd (Nat.eq_of_beq_eq_true h1) hp
  · exact Nat.eq_of_beq_eq_true h1
theorem wq_pi {fin : Nat} {ps : List (Nat × Nat)} (hat : mm_at r pc = some (.putfield idx, 3)) (hrk : mm_rk r.2.2.2 idx = some (idx, 0, ci, k, .ofNat fin, ps)) (hfin : Nat.ble 2 fin = false) (hc : hz_t[c]? = some (.inr (.inl (ci, b, fs)))) (hfit : mm_fit (mm_ft ci k) (dz_I x) = true) (hv : fs[k]? = some (0, k)) (hb : hz_nd fs = true) (hp : pc + 3 = pc') (kk : ∀ Z', Z' = dz_u Z b k 0 x → mm_Wp X Dp r pc' ls t (hz_0 Z') Q) : mm_Wp X Dp r pc ls (dz_I x :: .ref c :: t) (hz_0 Z) Q := by
  refine wp_pf hat hrk hfin (hz_g hc) ?_ hfit (hz_ob (by decide) (hz_ndp hb) hv (by unfold hz_v dz_u; simp)) (hz_s (Z' := dz_u Z b k 0 x) hc (hz_mo (by decide) hv) dz_uo) hp (kk _ rfl)
  rw [Nat.blt_eq, List.length_map]
  exact (List.getElem?_eq_some_iff.mp hv).1
theorem wq_pr {a : Nat} {fin : Nat} {ps : List (Nat × Nat)} (hat : mm_at r pc = some (.putfield idx, 3)) (hrk : mm_rk r.2.2.2 idx = some (idx, 0, ci, k, .ofNat fin, ps)) (hfin : Nat.ble 2 fin = false) (hc : hz_t[c]? = some (.inr (.inl (ci, b, fs)))) (hfit : mm_fit (mm_ft ci k) (.ref a) = true) (hv : fs[k]? = some (2, k)) (hb : hz_nd fs = true) (hp : pc + 3 = pc') (kk : ∀ Z', Z' = dz_u Z b k 0 (a : Int) → mm_Wp X Dp r pc' ls t (hz_0 Z') Q) : mm_Wp X Dp r pc ls (.ref a :: .ref c :: t) (hz_0 Z) Q := by
  refine wp_pf hat hrk hfin (hz_g hc) ?_ hfit (hz_ob (by decide) (hz_ndp hb) hv (by unfold hz_v dz_u; simp)) (hz_s (Z' := dz_u Z b k 0 (a : Int)) hc (hz_mo (by decide) hv) dz_uo) hp (kk _ rfl)
  rw [Nat.blt_eq, List.length_map]
  exact (List.getElem?_eq_some_iff.mp hv).1
-- arrays
theorem hz_ma {tag n : Nat} : hz_m b f (.inl (tag, b, f, n)) = true := by unfold hz_m hz_l; simp [Nat.beq_refl]
theorem wq_ia (hat : mm_at r pc = some (.iaload, 1)) (hc : hz_t[c]? = some (.inl (0, b, f, n))) (hj : dz_c j = j') (h0 : 0 ≤ j') (h1 : j' < (n : Int)) (hp : pc + 1 = pc') (kk : mm_Wp X Dp r pc' ls (dz_I (Z b f j') :: t) (hz_0 Z) Q) : mm_Wp X Dp r pc ls (dz_I j :: .ref c :: t) (hz_0 Z) Q :=
  wp_ia hat (hz_g hc) (by rw [dz_wn]; exact dz_in hj h0 h1) (by rw [dz_tn, hj]; exact dz_wg h0 h1) hp kk
theorem wq_ba {tag : Nat} (hat : mm_at r pc = some (.baload, 1)) (htg : tag = 2 ∨ tag = 3) (hc : hz_t[c]? = some (.inl (tag, b, f, n))) (hj : dz_c j = j') (h0 : 0 ≤ j') (h1 : j' < (n : Int)) (hp : pc + 1 = pc') (kk : mm_Wp X Dp r pc' ls (dz_I (Z b f j') :: t) (hz_0 Z) Q) : mm_Wp X Dp r pc ls (dz_I j :: .ref c :: t) (hz_0 Z) Q := by
  refine wp_ba (l := dz_w n (Z b f)) hat ?_ (by rw [dz_wn]; exact dz_in hj h0 h1) (by rw [dz_tn, hj]; exact dz_wg h0 h1) hp kk
  rcases htg with rfl | rfl
  · exact Or.inl (hz_g hc)
  · exact Or.inr (hz_g hc)
theorem wq_la (hat : mm_at r pc = some (.laload, 1)) (hc : hz_t[c]? = some (.inl (1, b, f, n))) (hj : dz_c j = j') (h0 : 0 ≤ j') (h1 : j' < (n : Int)) (hp : pc + 1 = pc') (kk : mm_Wp X Dp r pc' ls (dz_J (Z b f j') :: t) (hz_0 Z) Q) : mm_Wp X Dp r pc ls (dz_I j :: .ref c :: t) (hz_0 Z) Q :=
  wp_la hat (hz_g hc) (by rw [dz_xn]; exact dz_in hj h0 h1) (by rw [dz_tn, hj]; exact dz_xg h0 h1) hp kk
theorem wq_aa {tag a : Nat} {l : List Nat} (hat : mm_at r pc = some (.aaload, 1)) (htg : tag = 4 ∨ tag = 5 ∨ tag = 6) (hc : hz_t[c]? = some (.inr (.inr (tag, l)))) (hj : dz_c j = j') (h0 : 0 ≤ j') (h1 : j' < (l.length : Int)) (ha : l[j'.toNat]? = some a) (hp : pc + 1 = pc') (kk : mm_Wp X Dp r pc' ls (.ref a :: t) (hz_0 Z) Q) : mm_Wp X Dp r pc ls (dz_I j :: .ref c :: t) (hz_0 Z) Q :=
  wp_aa hat htg (hz_g hc) (by rw [List.length_map]; exact dz_in hj h0 h1) (by rw [dz_tn, hj, List.getD_eq_getElem?_getD, List.getElem?_map, ha]; rfl) hp kk
theorem wq_is (hat : mm_at r pc = some (.iastore, 1)) (hc : hz_t[c]? = some (.inl (0, b, f, n))) (hj : dz_c j = j') (h0 : 0 ≤ j') (h1 : j' < (n : Int)) (hp : pc + 1 = pc') (kk : ∀ Z', Z' = dz_u Z b f j' x → mm_Wp X Dp r pc' ls t (hz_0 Z') Q) : mm_Wp X Dp r pc ls (dz_I x :: dz_I j :: .ref c :: t) (hz_0 Z) Q :=
  wp_is hat (hz_g hc) (by rw [dz_wn]; exact dz_in hj h0 h1) (by rw [dz_tn, hj]; exact dz_ws h0) (hz_s (Z' := dz_u Z b f j' x) hc hz_ma dz_uo) hp (kk _ rfl)
theorem wq_bs (hat : mm_at r pc = some (.bastore, 1)) (hc : hz_t[c]? = some (.inl (2, b, f, n))) (hj : dz_c j = j') (h0 : 0 ≤ j') (h1 : j' < (n : Int)) (hp : pc + 1 = pc') (kk : ∀ Z', Z' = dz_u Z b f j' (dz_b x) → mm_Wp X Dp r pc' ls t (hz_0 Z') Q) : mm_Wp X Dp r pc ls (dz_I x :: dz_I j :: .ref c :: t) (hz_0 Z) Q :=
  wp_bs hat (hz_g hc) (by rw [dz_wn]; exact dz_in hj h0 h1) (by rw [dz_tn, hj, ← dz_oc (Int32.ofInt x).toInt8.toInt32]; exact dz_ws h0) (hz_s (Z' := dz_u Z b f j' (dz_b x)) hc hz_ma dz_uo) hp (kk _ rfl)
theorem wq_zs (hat : mm_at r pc = some (.bastore, 1)) (hc : hz_t[c]? = some (.inl (3, b, f, n))) (hx : Int32.ofInt x &&& 1 = Int32.ofInt x) (hj : dz_c j = j') (h0 : 0 ≤ j') (h1 : j' < (n : Int)) (hp : pc + 1 = pc') (kk : ∀ Z', Z' = dz_u Z b f j' x → mm_Wp X Dp r pc' ls t (hz_0 Z') Q) : mm_Wp X Dp r pc ls (dz_I x :: dz_I j :: .ref c :: t) (hz_0 Z) Q :=
  wp_zs hat (hz_g hc) (by rw [dz_wn]; exact dz_in hj h0 h1) (by rw [dz_tn, hj, hx]; exact dz_ws h0) (hz_s (Z' := dz_u Z b f j' x) hc hz_ma dz_uo) hp (kk _ rfl)
theorem wq_ls (hat : mm_at r pc = some (.lastore, 1)) (hc : hz_t[c]? = some (.inl (1, b, f, n))) (hj : dz_c j = j') (h0 : 0 ≤ j') (h1 : j' < (n : Int)) (hp : pc + 1 = pc') (kk : ∀ Z', Z' = dz_u Z b f j' x → mm_Wp X Dp r pc' ls t (hz_0 Z') Q) : mm_Wp X Dp r pc ls (dz_J x :: dz_I j :: .ref c :: t) (hz_0 Z) Q :=
  wp_lst hat (hz_g hc) (by rw [dz_xn]; exact dz_in hj h0 h1) (by rw [dz_tn, hj]; exact dz_xs h0) (hz_s (Z' := dz_u Z b f j' x) hc hz_ma dz_uo) hp (kk _ rfl)
theorem wq_al (hat : mm_at r pc = some (.arraylength, 1)) {tag : Nat} (htg : tag = 0 ∨ tag = 1) (hc : hz_t[c]? = some (.inl (tag, b, f, n))) (hp : pc + 1 = pc') (kk : mm_Wp X Dp r pc' ls (dz_I (n : Int) :: t) (hz_0 Z) Q) : mm_Wp X Dp r pc ls (.ref c :: t) (hz_0 Z) Q := by
  subst hp
  refine wp_s hat (ls' := ls) (st' := dz_I (n : Int) :: t) (h' := hz_0 Z) ?_ kk
  have e : mm_g1 X .arraylength (.ref c :: t) (hz_0 Z) = some (dz_I (n : Int) :: t) := by
    unfold mm_g1
    rcases htg with rfl | rfl
    · have := hz_g (Z := Z) hc
      simp only [this, hz_c, dz_wn]
      rfl
    · have := hz_g (Z := Z) hc
      simp only [this, hz_c, dz_xn]
      rfl
  show (match mm_g1 X .arraylength (.ref c :: t) (hz_0 Z) with | some t => (.inl (some (pc + 1, ls, t, hz_0 Z)) : mm_O) | none => .inl ((mm_g2 .arraylength (.ref c :: t) (hz_0 Z)).map (fun q : List Value × mm_H => (pc + 1, ls, q.1, q.2)))) = _
  rw [e]
theorem hz_cpw {n : Nat} {g g' : Int → Int} : mm_cp (dz_w n g) (dz_w n g') 0 0 n = dz_w n g := by
  unfold mm_cp
  rw [List.take_zero, List.nil_append, List.drop_zero, List.take_of_length_le (by rw [dz_wn]; exact Nat.le_refl _), Nat.zero_add, List.drop_of_length_le (by rw [dz_wn]; exact Nat.le_refl _), List.append_nil]
theorem hz_cpx {n : Nat} {g g' : Int → Int} : mm_cp (dz_x n g) (dz_x n g') 0 0 n = dz_x n g := by
  unfold mm_cp
  rw [List.take_zero, List.nil_append, List.drop_zero, List.take_of_length_le (by rw [dz_xn]; exact Nat.le_refl _), Nat.zero_add, List.drop_of_length_le (by rw [dz_xn]; exact Nat.le_refl _), List.append_nil]
theorem dz_fe {g : Int → Int} : dz_f Z b f g b f = g := by funext i'; unfold dz_f; simp
theorem wq_cp {c2 b2 f2 tag : Nat} {y2 : Nat} (hat : mm_at r pc = some (.invokestatic idx, 3)) (hrk : mm_rk r.2.2.2 idx = some (idx, 12, y2, k, w)) (htg : tag = 0 ∨ tag = 1) (hc : hz_t[c]? = some (.inl (tag, b, f, n))) (hc2 : hz_t[c2]? = some (.inl (tag, b2, f2, n))) (hn : dz_c (n : Int) = (n : Int)) (hw : Nat.ble (mm_wt t) 8 = true) (hp : pc + 3 = pc') (kk : ∀ Z', Z' = dz_f Z b2 f2 (Z b f) → mm_Wp X (Dp + 1) r pc' ls t (hz_0 Z') Q) : mm_Wp X (Dp + 1) r pc ls (dz_I (n : Int) :: dz_I 0 :: .ref c2 :: dz_I 0 :: .ref c :: t) (hz_0 Z) Q := by
  subst hp
  refine wp_s hat (ls' := ls) (st' := t) (h' := hz_0 (dz_f Z b2 f2 (Z b f))) ?_ (kk _ rfl)
  have e : mm_ac (dz_I (n : Int) :: dz_I 0 :: .ref c2 :: dz_I 0 :: .ref c :: t) (hz_0 Z) = some (t, hz_0 (dz_f Z b2 f2 (Z b f))) := by
    unfold mm_ac
    have h0 : decide (Int32.ofInt 0 < 0) = false := by decide
    have hn0 : decide (Int32.ofInt (n : Int) < 0) = false := by
      rw [decide_eq_false_iff_not]
      intro hlt
      have : dz_c (n : Int) < (0 : Int32).toInt := Int32.lt_iff_toInt_lt.mp hlt
      rw [hn, Int32.toInt_zero] at this
      omega
    have e1 := hz_g (Z := Z) hc
    have e2 := hz_g (Z := Z) hc2
    have ez : (Int32.ofInt 0).toNatClampNeg = 0 := rfl
    have eb : Nat.ble n n = true := Nat.ble_eq.mpr (Nat.le_refl n)
    have en : (Int32.ofInt (n : Int)).toNatClampNeg = n := by rw [dz_tn, hn]; omega
    rcases htg with rfl | rfl
    · simp only [hz_c] at e1 e2
      simp only [h0, hn0, hw, Bool.not_false, Bool.and_true, cond_true, e1, e2, ez, en, Nat.zero_add, dz_wn, eb, hz_cpw]
      rw [← hz_s (Z := Z) (Z' := dz_f Z b2 f2 (Z b f)) hc2 hz_ma dz_fo]
      simp only [hz_c, dz_fe]
    · simp only [hz_c] at e1 e2
      simp only [h0, hn0, hw, Bool.not_false, Bool.and_true, cond_true, e1, e2, ez, en, Nat.zero_add, dz_xn, eb, hz_cpx]
      rw [← hz_s (Z := Z) (Z' := dz_f Z b2 f2 (Z b f)) hc2 hz_ma dz_fo]
      simp only [hz_c, dz_fe]
  show mm_iv (Dp + 1) r (.invokestatic idx) pc ls _ _ = _
  unfold mm_iv
  simp only [hrk, e, Option.map_some]
-- calls
theorem wq_cv {r' : mm_R} {Dq mj : Nat} {as0 rest : List Value} {ls' : mm_L} (hat : mm_at r pc = some (.invokevirtual idx, 3)) (hrk : mm_rk r.2.2.2 idx = some (idx, 1, mj, ci, w)) (hmr : mm_rs[mj]? = some r') (htk : mm_tk r'.1.2.2.2.2.1 [] t = some (as0, .ref c :: rest)) (hc : hz_t[c]? = some (.inr (.inl (ci, b, fs)))) (hmk : mm_mk Dq r' (.ref c :: as0) rest = .inr (.inr (Dq, r', .ref c :: as0, rest))) (he : mm_en r' (.ref c :: as0) = ls') (hp : pc + 3 = pc') (kk : mm_Wp X Dq r' 0 ls' [] (hz_0 Z) (fun v1 h1 => mm_Wp X (Dq + 1) r pc' ls (v1.toList ++ rest) h1 Q)) : mm_Wp X (Dq + 1) r pc ls t (hz_0 Z) Q :=
  wp_cv hat hrk hmr htk (hz_g hc) hmk he hp kk
theorem wq_cs {r' : mm_R} {Dq mj kd z : Nat} {as0 rest : List Value} {ls' : mm_L} (hat : mm_at r pc = some (.invokestatic idx, 3)) (hrk : mm_rk r.2.2.2 idx = some (idx, kd, mj, z, w)) (hkd : kd = 2 ∨ kd = 5) (hmr : mm_rs[mj]? = some r') (htk : mm_tk r'.1.2.2.2.2.1 [] t = some (as0, rest)) (hmk : mm_mk Dq r' as0 rest = .inr (.inr (Dq, r', as0, rest))) (he : mm_en r' as0 = ls') (hp : pc + 3 = pc') (kk : mm_Wp X Dq r' 0 ls' [] h (fun v1 h1 => mm_Wp X (Dq + 1) r pc' ls (v1.toList ++ rest) h1 Q)) : mm_Wp X (Dq + 1) r pc ls t h Q := by
  subst hp
  refine wp_c hat (Dq := Dq) (r' := r') (as := as0) (rest := rest) ?_ he kk
  show mm_iv (Dq + 1) r (.invokestatic idx) pc ls t h = _
  unfold mm_iv mm_cl
  rcases hkd with rfl | rfl
  · simp only [hrk, hmr, htk, Nat.beq_refl, Bool.true_or, cond_true, cond_false]
    exact hmk
  · simp only [hrk, hmr, htk, Nat.beq_refl, Bool.or_true, cond_true, cond_false]
    exact hmk
-- answers
theorem wq_ri (hat : mm_at r pc = some (.ireturn, 1)) (hty : r.1.2.2.2.1 = some .int) (kk : Q (some (dz_I x)) h) : mm_Wp X Dp r pc ls [dz_I x] h Q := by
  refine wp_r hat (v := some (dz_I x)) ?_ kk
  show (match 1, mm_rt r.1.2.2.2.1 .ireturn [dz_I x] with | 1, some v => (.inr (.inl v) : mm_O) | _, _ => .inl none) = _
  rw [hty]
  rfl
theorem wq_rb {e : Bool} (hat : mm_at r pc = some (.ireturn, 1)) (hty : r.1.2.2.2.1 = some .boolean) (kk : Q (some (dz_B e)) h) : mm_Wp X Dp r pc ls [dz_B e] h Q := by
  refine wp_r hat (v := some (dz_B e)) ?_ kk
  show (match 1, mm_rt r.1.2.2.2.1 .ireturn [dz_B e] with | 1, some v => (.inr (.inl v) : mm_O) | _, _ => .inl none) = _
  rw [hty]
  cases e <;> rfl
theorem wq_rt (hat : mm_at r pc = some (.ireturn, 1)) (hty : r.1.2.2.2.1 = some .boolean) (kk : Q (some (dz_B true)) h) : mm_Wp X Dp r pc ls [dz_I 1] h Q := wq_rb (e := true) hat hty kk
theorem wq_rf (hat : mm_at r pc = some (.ireturn, 1)) (hty : r.1.2.2.2.1 = some .boolean) (kk : Q (some (dz_B false)) h) : mm_Wp X Dp r pc ls [dz_I 0] h Q := wq_rb (e := false) hat hty kk
theorem wq_rv (hat : mm_at r pc = some (.return_, 1)) (hty : r.1.2.2.2.1 = none) (kk : Q none h) : mm_Wp X Dp r pc ls [] h Q := by
  refine wp_r hat (v := none) ?_ kk
  show (match 1, mm_rt r.1.2.2.2.1 .return_ [] with | 1, some v => (.inr (.inl v) : mm_O) | _, _ => .inl none) = _
  rw [hty]
  rfl
end wq
end
