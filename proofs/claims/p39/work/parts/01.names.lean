-- ===== PART A: goes FIRST, ahead of the names: the tables' words, and 'selects' of the private methods out of them =====
/-- a private method of a class that the tables say can be made, by its rows of tables_1 -/
def lw_okq (q : MethodName × Nat) : Prop := (q.1.cls ≠ "java/lang/invoke/MethodHandle" ∧ q.1.cls ≠ "java/lang/invoke/VarHandle") ∧ Cond.instantiable q.1.cls q.2 ∈ tables_1 ∧ Cond.privateMethod q.1 ∈ tables_1 ∧ Cond.instanceMethod q.1 ∈ tables_1
theorem lw_p0 : lw_okq (⟨"RainOrgan$Reader", "nextToken", "()Z"⟩, 10) := ⟨⟨by decide +kernel, by decide +kernel⟩, List.mem_of_getElem? (i := 28) (by decide +kernel), List.mem_of_getElem? (i := 460) (by decide +kernel), List.mem_of_getElem? (i := 461) (by decide +kernel)⟩
theorem lw_p1 : lw_okq (⟨"RainOrgan$Reader", "kindAt", "(I)I"⟩, 10) := ⟨⟨by decide +kernel, by decide +kernel⟩, List.mem_of_getElem? (i := 28) (by decide +kernel), List.mem_of_getElem? (i := 464) (by decide +kernel), List.mem_of_getElem? (i := 465) (by decide +kernel)⟩
theorem lw_p2 : lw_okq (⟨"RainOrgan$Reader", "fail", "(I)Z"⟩, 10) := ⟨⟨by decide +kernel, by decide +kernel⟩, List.mem_of_getElem? (i := 28) (by decide +kernel), List.mem_of_getElem? (i := 468) (by decide +kernel), List.mem_of_getElem? (i := 469) (by decide +kernel)⟩
theorem lw_p3 : lw_okq (⟨"RainOrgan$Reader", "allPartsAreThere", "()Z"⟩, 10) := ⟨⟨by decide +kernel, by decide +kernel⟩, List.mem_of_getElem? (i := 28) (by decide +kernel), List.mem_of_getElem? (i := 472) (by decide +kernel), List.mem_of_getElem? (i := 473) (by decide +kernel)⟩
theorem lw_p4 : lw_okq (⟨"RainOrgan$Reader", "isThere", "(I)Z"⟩, 10) := ⟨⟨by decide +kernel, by decide +kernel⟩, List.mem_of_getElem? (i := 28) (by decide +kernel), List.mem_of_getElem? (i := 476) (by decide +kernel), List.mem_of_getElem? (i := 477) (by decide +kernel)⟩
theorem lw_p5 : lw_okq (⟨"RainOrgan$Reader", "isNamed", "(Ljava/lang/String;)Z"⟩, 10) := ⟨⟨by decide +kernel, by decide +kernel⟩, List.mem_of_getElem? (i := 28) (by decide +kernel), List.mem_of_getElem? (i := 481) (by decide +kernel), List.mem_of_getElem? (i := 482) (by decide +kernel)⟩
theorem lw_p6 : lw_okq (⟨"RainOrgan$Reader", "readRoof", "()Z"⟩, 10) := ⟨⟨by decide +kernel, by decide +kernel⟩, List.mem_of_getElem? (i := 28) (by decide +kernel), List.mem_of_getElem? (i := 533) (by decide +kernel), List.mem_of_getElem? (i := 534) (by decide +kernel)⟩
theorem lw_p7 : lw_okq (⟨"RainOrgan$Reader", "needsNumber", "(II)Z"⟩, 10) := ⟨⟨by decide +kernel, by decide +kernel⟩, List.mem_of_getElem? (i := 28) (by decide +kernel), List.mem_of_getElem? (i := 537) (by decide +kernel), List.mem_of_getElem? (i := 538) (by decide +kernel)⟩
theorem lw_p8 : lw_okq (⟨"RainOrgan$Reader", "numberRead", "()I"⟩, 10) := ⟨⟨by decide +kernel, by decide +kernel⟩, List.mem_of_getElem? (i := 28) (by decide +kernel), List.mem_of_getElem? (i := 541) (by decide +kernel), List.mem_of_getElem? (i := 542) (by decide +kernel)⟩
theorem lw_p9 : lw_okq (⟨"RainOrgan$Reader", "needs", "(I)Z"⟩, 10) := ⟨⟨by decide +kernel, by decide +kernel⟩, List.mem_of_getElem? (i := 28) (by decide +kernel), List.mem_of_getElem? (i := 545) (by decide +kernel), List.mem_of_getElem? (i := 546) (by decide +kernel)⟩
theorem lw_p10 : lw_okq (⟨"RainOrgan$Reader", "readPeg", "()Z"⟩, 10) := ⟨⟨by decide +kernel, by decide +kernel⟩, List.mem_of_getElem? (i := 28) (by decide +kernel), List.mem_of_getElem? (i := 550) (by decide +kernel), List.mem_of_getElem? (i := 551) (by decide +kernel)⟩
theorem lw_p11 : lw_okq (⟨"RainOrgan$Reader", "readWay", "(I)Z"⟩, 10) := ⟨⟨by decide +kernel, by decide +kernel⟩, List.mem_of_getElem? (i := 28) (by decide +kernel), List.mem_of_getElem? (i := 554) (by decide +kernel), List.mem_of_getElem? (i := 555) (by decide +kernel)⟩
theorem lw_p12 : lw_okq (⟨"RainOrgan$Reader", "readSpout", "()Z"⟩, 10) := ⟨⟨by decide +kernel, by decide +kernel⟩, List.mem_of_getElem? (i := 28) (by decide +kernel), List.mem_of_getElem? (i := 561) (by decide +kernel), List.mem_of_getElem? (i := 562) (by decide +kernel)⟩
theorem lw_p13 : lw_okq (⟨"RainOrgan$Reader", "readCup", "(I)Z"⟩, 10) := ⟨⟨by decide +kernel, by decide +kernel⟩, List.mem_of_getElem? (i := 28) (by decide +kernel), List.mem_of_getElem? (i := 565) (by decide +kernel), List.mem_of_getElem? (i := 566) (by decide +kernel)⟩
theorem lw_p14 : lw_okq (⟨"RainOrgan$Reader", "namedKind", "()I"⟩, 10) := ⟨⟨by decide +kernel, by decide +kernel⟩, List.mem_of_getElem? (i := 28) (by decide +kernel), List.mem_of_getElem? (i := 569) (by decide +kernel), List.mem_of_getElem? (i := 570) (by decide +kernel)⟩
theorem lw_p15 : lw_okq (⟨"RainOrgan$Reader", "readRain", "()Z"⟩, 10) := ⟨⟨by decide +kernel, by decide +kernel⟩, List.mem_of_getElem? (i := 28) (by decide +kernel), List.mem_of_getElem? (i := 583) (by decide +kernel), List.mem_of_getElem? (i := 584) (by decide +kernel)⟩
def lw_privs_1 : List (MethodName × Nat) := [(⟨"RainOrgan$Reader", "nextToken", "()Z"⟩, 10), (⟨"RainOrgan$Reader", "kindAt", "(I)I"⟩, 10), (⟨"RainOrgan$Reader", "fail", "(I)Z"⟩, 10), (⟨"RainOrgan$Reader", "allPartsAreThere", "()Z"⟩, 10), (⟨"RainOrgan$Reader", "isThere", "(I)Z"⟩, 10), (⟨"RainOrgan$Reader", "isNamed", "(Ljava/lang/String;)Z"⟩, 10), (⟨"RainOrgan$Reader", "readRoof", "()Z"⟩, 10), (⟨"RainOrgan$Reader", "needsNumber", "(II)Z"⟩, 10), (⟨"RainOrgan$Reader", "numberRead", "()I"⟩, 10), (⟨"RainOrgan$Reader", "needs", "(I)Z"⟩, 10), (⟨"RainOrgan$Reader", "readPeg", "()Z"⟩, 10), (⟨"RainOrgan$Reader", "readWay", "(I)Z"⟩, 10), (⟨"RainOrgan$Reader", "readSpout", "()Z"⟩, 10), (⟨"RainOrgan$Reader", "readCup", "(I)Z"⟩, 10), (⟨"RainOrgan$Reader", "namedKind", "()I"⟩, 10), (⟨"RainOrgan$Reader", "readRain", "()Z"⟩, 10)]
theorem lw_r1 : ∀ q ∈ lw_privs_1, lw_okq q := List.forall_mem_cons.mpr ⟨lw_p0, List.forall_mem_cons.mpr ⟨lw_p1, List.forall_mem_cons.mpr ⟨lw_p2, List.forall_mem_cons.mpr ⟨lw_p3, List.forall_mem_cons.mpr ⟨lw_p4, List.forall_mem_cons.mpr ⟨lw_p5, List.forall_mem_cons.mpr ⟨lw_p6, List.forall_mem_cons.mpr ⟨lw_p7, List.forall_mem_cons.mpr ⟨lw_p8, List.forall_mem_cons.mpr ⟨lw_p9, List.forall_mem_cons.mpr ⟨lw_p10, List.forall_mem_cons.mpr ⟨lw_p11, List.forall_mem_cons.mpr ⟨lw_p12, List.forall_mem_cons.mpr ⟨lw_p13, List.forall_mem_cons.mpr ⟨lw_p14, List.forall_mem_cons.mpr ⟨lw_p15, fun _ h => absurd h List.not_mem_nil⟩⟩⟩⟩⟩⟩⟩⟩⟩⟩⟩⟩⟩⟩⟩⟩
theorem lw_p16 : lw_okq (⟨"RainOrgan$Reader", "readSeconds", "([II)I"⟩, 10) := ⟨⟨by decide +kernel, by decide +kernel⟩, List.mem_of_getElem? (i := 28) (by decide +kernel), List.mem_of_getElem? (i := 587) (by decide +kernel), List.mem_of_getElem? (i := 588) (by decide +kernel)⟩
theorem lw_p17 : lw_okq (⟨"RainOrgan$Reader", "isSecond", "(II)Z"⟩, 10) := ⟨⟨by decide +kernel, by decide +kernel⟩, List.mem_of_getElem? (i := 28) (by decide +kernel), List.mem_of_getElem? (i := 591) (by decide +kernel), List.mem_of_getElem? (i := 592) (by decide +kernel)⟩
theorem lw_p18 : lw_okq (⟨"RainOrgan$Reader", "readTune", "()Z"⟩, 10) := ⟨⟨by decide +kernel, by decide +kernel⟩, List.mem_of_getElem? (i := 28) (by decide +kernel), List.mem_of_getElem? (i := 596) (by decide +kernel), List.mem_of_getElem? (i := 597) (by decide +kernel)⟩
theorem lw_p19 : lw_okq (⟨"RainOrgan$Reader", "readSleep", "()Z"⟩, 10) := ⟨⟨by decide +kernel, by decide +kernel⟩, List.mem_of_getElem? (i := 28) (by decide +kernel), List.mem_of_getElem? (i := 601) (by decide +kernel), List.mem_of_getElem? (i := 602) (by decide +kernel)⟩
theorem lw_p20 : lw_okq (⟨"RainOrgan$Reader", "readWear", "()Z"⟩, 10) := ⟨⟨by decide +kernel, by decide +kernel⟩, List.mem_of_getElem? (i := 28) (by decide +kernel), List.mem_of_getElem? (i := 606) (by decide +kernel), List.mem_of_getElem? (i := 607) (by decide +kernel)⟩
theorem lw_p21 : lw_okq (⟨"RainOrgan", "takeWhatWasRead", "()V"⟩, 11) := ⟨⟨by decide +kernel, by decide +kernel⟩, List.mem_of_getElem? (i := 20) (by decide +kernel), List.mem_of_getElem? (i := 610) (by decide +kernel), List.mem_of_getElem? (i := 611) (by decide +kernel)⟩
theorem lw_p22 : lw_okq (⟨"RainOrgan", "isGutter", "(I)Z"⟩, 11) := ⟨⟨by decide +kernel, by decide +kernel⟩, List.mem_of_getElem? (i := 20) (by decide +kernel), List.mem_of_getElem? (i := 634) (by decide +kernel), List.mem_of_getElem? (i := 635) (by decide +kernel)⟩
theorem lw_p23 : lw_okq (⟨"RainOrgan", "isSpout", "(I)Z"⟩, 11) := ⟨⟨by decide +kernel, by decide +kernel⟩, List.mem_of_getElem? (i := 20) (by decide +kernel), List.mem_of_getElem? (i := 642) (by decide +kernel), List.mem_of_getElem? (i := 643) (by decide +kernel)⟩
theorem lw_p24 : lw_okq (⟨"RainOrgan", "manySettings", "()I"⟩, 11) := ⟨⟨by decide +kernel, by decide +kernel⟩, List.mem_of_getElem? (i := 20) (by decide +kernel), List.mem_of_getElem? (i := 671) (by decide +kernel), List.mem_of_getElem? (i := 672) (by decide +kernel)⟩
theorem lw_p25 : lw_okq (⟨"RainOrgan$Flow", "fallOnRoofs", "(LRainOrgan$Plan;I)V"⟩, 12) := ⟨⟨by decide +kernel, by decide +kernel⟩, List.mem_of_getElem? (i := 238) (by decide +kernel), List.mem_of_getElem? (i := 697) (by decide +kernel), List.mem_of_getElem? (i := 698) (by decide +kernel)⟩
theorem lw_p26 : lw_okq (⟨"RainOrgan$Flow", "lead", "(II)V"⟩, 12) := ⟨⟨by decide +kernel, by decide +kernel⟩, List.mem_of_getElem? (i := 238) (by decide +kernel), List.mem_of_getElem? (i := 701) (by decide +kernel), List.mem_of_getElem? (i := 702) (by decide +kernel)⟩
theorem lw_p27 : lw_okq (⟨"RainOrgan$Flow", "runThroughGutters", "(LRainOrgan$Plan;LRainOrgan$Setup;)V"⟩, 12) := ⟨⟨by decide +kernel, by decide +kernel⟩, List.mem_of_getElem? (i := 238) (by decide +kernel), List.mem_of_getElem? (i := 705) (by decide +kernel), List.mem_of_getElem? (i := 706) (by decide +kernel)⟩
theorem lw_p28 : lw_okq (⟨"RainOrgan$Flow", "shareOfLeft", "(II)I"⟩, 12) := ⟨⟨by decide +kernel, by decide +kernel⟩, List.mem_of_getElem? (i := 238) (by decide +kernel), List.mem_of_getElem? (i := 709) (by decide +kernel), List.mem_of_getElem? (i := 710) (by decide +kernel)⟩
theorem lw_p29 : lw_okq (⟨"RainOrgan$Flow", "fillCups", "(LRainOrgan$Plan;LRainOrgan$Setup;)I"⟩, 12) := ⟨⟨by decide +kernel, by decide +kernel⟩, List.mem_of_getElem? (i := 238) (by decide +kernel), List.mem_of_getElem? (i := 713) (by decide +kernel), List.mem_of_getElem? (i := 714) (by decide +kernel)⟩
theorem lw_p30 : lw_okq (⟨"RainOrgan$Flow", "fillCup", "(LRainOrgan$Plan;III)I"⟩, 12) := ⟨⟨by decide +kernel, by decide +kernel⟩, List.mem_of_getElem? (i := 238) (by decide +kernel), List.mem_of_getElem? (i := 718) (by decide +kernel), List.mem_of_getElem? (i := 719) (by decide +kernel)⟩
theorem lw_p31 : lw_okq (⟨"RainOrgan$Flow", "tip", "(IIII)I"⟩, 12) := ⟨⟨by decide +kernel, by decide +kernel⟩, List.mem_of_getElem? (i := 238) (by decide +kernel), List.mem_of_getElem? (i := 722) (by decide +kernel), List.mem_of_getElem? (i := 723) (by decide +kernel)⟩
def lw_privs_2 : List (MethodName × Nat) := [(⟨"RainOrgan$Reader", "readSeconds", "([II)I"⟩, 10), (⟨"RainOrgan$Reader", "isSecond", "(II)Z"⟩, 10), (⟨"RainOrgan$Reader", "readTune", "()Z"⟩, 10), (⟨"RainOrgan$Reader", "readSleep", "()Z"⟩, 10), (⟨"RainOrgan$Reader", "readWear", "()Z"⟩, 10), (⟨"RainOrgan", "takeWhatWasRead", "()V"⟩, 11), (⟨"RainOrgan", "isGutter", "(I)Z"⟩, 11), (⟨"RainOrgan", "isSpout", "(I)Z"⟩, 11), (⟨"RainOrgan", "manySettings", "()I"⟩, 11), (⟨"RainOrgan$Flow", "fallOnRoofs", "(LRainOrgan$Plan;I)V"⟩, 12), (⟨"RainOrgan$Flow", "lead", "(II)V"⟩, 12), (⟨"RainOrgan$Flow", "runThroughGutters", "(LRainOrgan$Plan;LRainOrgan$Setup;)V"⟩, 12), (⟨"RainOrgan$Flow", "shareOfLeft", "(II)I"⟩, 12), (⟨"RainOrgan$Flow", "fillCups", "(LRainOrgan$Plan;LRainOrgan$Setup;)I"⟩, 12), (⟨"RainOrgan$Flow", "fillCup", "(LRainOrgan$Plan;III)I"⟩, 12), (⟨"RainOrgan$Flow", "tip", "(IIII)I"⟩, 12)]
theorem lw_r2 : ∀ q ∈ lw_privs_2, lw_okq q := List.forall_mem_cons.mpr ⟨lw_p16, List.forall_mem_cons.mpr ⟨lw_p17, List.forall_mem_cons.mpr ⟨lw_p18, List.forall_mem_cons.mpr ⟨lw_p19, List.forall_mem_cons.mpr ⟨lw_p20, List.forall_mem_cons.mpr ⟨lw_p21, List.forall_mem_cons.mpr ⟨lw_p22, List.forall_mem_cons.mpr ⟨lw_p23, List.forall_mem_cons.mpr ⟨lw_p24, List.forall_mem_cons.mpr ⟨lw_p25, List.forall_mem_cons.mpr ⟨lw_p26, List.forall_mem_cons.mpr ⟨lw_p27, List.forall_mem_cons.mpr ⟨lw_p28, List.forall_mem_cons.mpr ⟨lw_p29, List.forall_mem_cons.mpr ⟨lw_p30, List.forall_mem_cons.mpr ⟨lw_p31, fun _ h => absurd h List.not_mem_nil⟩⟩⟩⟩⟩⟩⟩⟩⟩⟩⟩⟩⟩⟩⟩⟩
theorem lw_p32 : lw_okq (⟨"RainOrgan$Flow", "leak", "(III)I"⟩, 12) := ⟨⟨by decide +kernel, by decide +kernel⟩, List.mem_of_getElem? (i := 238) (by decide +kernel), List.mem_of_getElem? (i := 726) (by decide +kernel), List.mem_of_getElem? (i := 727) (by decide +kernel)⟩
theorem lw_p33 : lw_okq (⟨"RainOrgan$Flow", "countEach", "(III)I"⟩, 12) := ⟨⟨by decide +kernel, by decide +kernel⟩, List.mem_of_getElem? (i := 238) (by decide +kernel), List.mem_of_getElem? (i := 730) (by decide +kernel), List.mem_of_getElem? (i := 731) (by decide +kernel)⟩
theorem lw_p34 : lw_okq (⟨"RainOrgan", "isShower", "(I)Z"⟩, 11) := ⟨⟨by decide +kernel, by decide +kernel⟩, List.mem_of_getElem? (i := 20) (by decide +kernel), List.mem_of_getElem? (i := 753) (by decide +kernel), List.mem_of_getElem? (i := 754) (by decide +kernel)⟩
theorem lw_p35 : lw_okq (⟨"RainOrgan", "allSpouts", "()I"⟩, 11) := ⟨⟨by decide +kernel, by decide +kernel⟩, List.mem_of_getElem? (i := 20) (by decide +kernel), List.mem_of_getElem? (i := 779) (by decide +kernel), List.mem_of_getElem? (i := 780) (by decide +kernel)⟩
theorem lw_p36 : lw_okq (⟨"RainOrgan", "distance", "(I)I"⟩, 11) := ⟨⟨by decide +kernel, by decide +kernel⟩, List.mem_of_getElem? (i := 20) (by decide +kernel), List.mem_of_getElem? (i := 795) (by decide +kernel), List.mem_of_getElem? (i := 796) (by decide +kernel)⟩
theorem lw_p37 : lw_okq (⟨"RainOrgan", "chooseForShower", "(IZ)V"⟩, 11) := ⟨⟨by decide +kernel, by decide +kernel⟩, List.mem_of_getElem? (i := 20) (by decide +kernel), List.mem_of_getElem? (i := 813) (by decide +kernel), List.mem_of_getElem? (i := 814) (by decide +kernel)⟩
theorem lw_p38 : lw_okq (⟨"RainOrgan$Choice", "changedPegs", "(I)I"⟩, 8) := ⟨⟨by decide +kernel, by decide +kernel⟩, List.mem_of_getElem? (i := 315) (by decide +kernel), List.mem_of_getElem? (i := 829) (by decide +kernel), List.mem_of_getElem? (i := 830) (by decide +kernel)⟩
theorem lw_p39 : lw_okq (⟨"RainOrgan", "chooseForAllShowers", "()V"⟩, 11) := ⟨⟨by decide +kernel, by decide +kernel⟩, List.mem_of_getElem? (i := 20) (by decide +kernel), List.mem_of_getElem? (i := 841) (by decide +kernel), List.mem_of_getElem? (i := 842) (by decide +kernel)⟩
theorem lw_p40 : lw_okq (⟨"RainOrgan", "soundsAsTheTune", "(I)Z"⟩, 11) := ⟨⟨by decide +kernel, by decide +kernel⟩, List.mem_of_getElem? (i := 20) (by decide +kernel), List.mem_of_getElem? (i := 857) (by decide +kernel), List.mem_of_getElem? (i := 858) (by decide +kernel)⟩
theorem lw_p41 : lw_okq (⟨"RainOrgan", "keptImages", "()I"⟩, 11) := ⟨⟨by decide +kernel, by decide +kernel⟩, List.mem_of_getElem? (i := 20) (by decide +kernel), List.mem_of_getElem? (i := 942) (by decide +kernel), List.mem_of_getElem? (i := 943) (by decide +kernel)⟩
theorem lw_p42 : lw_okq (⟨"RainOrganModel", "step", "()V"⟩, 46) := ⟨⟨by decide +kernel, by decide +kernel⟩, List.mem_of_getElem? (i := 947) (by decide +kernel), List.mem_of_getElem? (i := 1108) (by decide +kernel), List.mem_of_getElem? (i := 1109) (by decide +kernel)⟩
theorem lw_p43 : lw_okq (⟨"RainOrganModel", "byteAt", "(I)I"⟩, 46) := ⟨⟨by decide +kernel, by decide +kernel⟩, List.mem_of_getElem? (i := 947) (by decide +kernel), List.mem_of_getElem? (i := 1112) (by decide +kernel), List.mem_of_getElem? (i := 1113) (by decide +kernel)⟩
theorem lw_p44 : lw_okq (⟨"RainOrganModel", "fails", "(I)V"⟩, 46) := ⟨⟨by decide +kernel, by decide +kernel⟩, List.mem_of_getElem? (i := 947) (by decide +kernel), List.mem_of_getElem? (i := 1120) (by decide +kernel), List.mem_of_getElem? (i := 1121) (by decide +kernel)⟩
theorem lw_p45 : lw_okq (⟨"RainOrganModel", "readLine", "()V"⟩, 46) := ⟨⟨by decide +kernel, by decide +kernel⟩, List.mem_of_getElem? (i := 947) (by decide +kernel), List.mem_of_getElem? (i := 1124) (by decide +kernel), List.mem_of_getElem? (i := 1125) (by decide +kernel)⟩
theorem lw_p46 : lw_okq (⟨"RainOrganModel", "nameHere", "()I"⟩, 46) := ⟨⟨by decide +kernel, by decide +kernel⟩, List.mem_of_getElem? (i := 947) (by decide +kernel), List.mem_of_getElem? (i := 1128) (by decide +kernel), List.mem_of_getElem? (i := 1129) (by decide +kernel)⟩
theorem lw_p47 : lw_okq (⟨"RainOrganModel", "readThing", "(I)V"⟩, 46) := ⟨⟨by decide +kernel, by decide +kernel⟩, List.mem_of_getElem? (i := 947) (by decide +kernel), List.mem_of_getElem? (i := 1133) (by decide +kernel), List.mem_of_getElem? (i := 1134) (by decide +kernel)⟩
def lw_privs_3 : List (MethodName × Nat) := [(⟨"RainOrgan$Flow", "leak", "(III)I"⟩, 12), (⟨"RainOrgan$Flow", "countEach", "(III)I"⟩, 12), (⟨"RainOrgan", "isShower", "(I)Z"⟩, 11), (⟨"RainOrgan", "allSpouts", "()I"⟩, 11), (⟨"RainOrgan", "distance", "(I)I"⟩, 11), (⟨"RainOrgan", "chooseForShower", "(IZ)V"⟩, 11), (⟨"RainOrgan$Choice", "changedPegs", "(I)I"⟩, 8), (⟨"RainOrgan", "chooseForAllShowers", "()V"⟩, 11), (⟨"RainOrgan", "soundsAsTheTune", "(I)Z"⟩, 11), (⟨"RainOrgan", "keptImages", "()I"⟩, 11), (⟨"RainOrganModel", "step", "()V"⟩, 46), (⟨"RainOrganModel", "byteAt", "(I)I"⟩, 46), (⟨"RainOrganModel", "fails", "(I)V"⟩, 46), (⟨"RainOrganModel", "readLine", "()V"⟩, 46), (⟨"RainOrganModel", "nameHere", "()I"⟩, 46), (⟨"RainOrganModel", "readThing", "(I)V"⟩, 46)]
theorem lw_r3 : ∀ q ∈ lw_privs_3, lw_okq q := List.forall_mem_cons.mpr ⟨lw_p32, List.forall_mem_cons.mpr ⟨lw_p33, List.forall_mem_cons.mpr ⟨lw_p34, List.forall_mem_cons.mpr ⟨lw_p35, List.forall_mem_cons.mpr ⟨lw_p36, List.forall_mem_cons.mpr ⟨lw_p37, List.forall_mem_cons.mpr ⟨lw_p38, List.forall_mem_cons.mpr ⟨lw_p39, List.forall_mem_cons.mpr ⟨lw_p40, List.forall_mem_cons.mpr ⟨lw_p41, List.forall_mem_cons.mpr ⟨lw_p42, List.forall_mem_cons.mpr ⟨lw_p43, List.forall_mem_cons.mpr ⟨lw_p44, List.forall_mem_cons.mpr ⟨lw_p45, List.forall_mem_cons.mpr ⟨lw_p46, List.forall_mem_cons.mpr ⟨lw_p47, fun _ h => absurd h List.not_mem_nil⟩⟩⟩⟩⟩⟩⟩⟩⟩⟩⟩⟩⟩⟩⟩⟩
theorem lw_p48 : lw_okq (⟨"RainOrganModel", "number", "(II)I"⟩, 46) := ⟨⟨by decide +kernel, by decide +kernel⟩, List.mem_of_getElem? (i := 947) (by decide +kernel), List.mem_of_getElem? (i := 1137) (by decide +kernel), List.mem_of_getElem? (i := 1138) (by decide +kernel)⟩
theorem lw_p49 : lw_okq (⟨"RainOrganModel", "looks", "(II)V"⟩, 46) := ⟨⟨by decide +kernel, by decide +kernel⟩, List.mem_of_getElem? (i := 947) (by decide +kernel), List.mem_of_getElem? (i := 1141) (by decide +kernel), List.mem_of_getElem? (i := 1142) (by decide +kernel)⟩
theorem lw_p50 : lw_okq (⟨"RainOrganModel", "readWay", "(I)I"⟩, 46) := ⟨⟨by decide +kernel, by decide +kernel⟩, List.mem_of_getElem? (i := 947) (by decide +kernel), List.mem_of_getElem? (i := 1145) (by decide +kernel), List.mem_of_getElem? (i := 1146) (by decide +kernel)⟩
theorem lw_p51 : lw_okq (⟨"RainOrganModel", "readCup", "(I)V"⟩, 46) := ⟨⟨by decide +kernel, by decide +kernel⟩, List.mem_of_getElem? (i := 947) (by decide +kernel), List.mem_of_getElem? (i := 1149) (by decide +kernel), List.mem_of_getElem? (i := 1150) (by decide +kernel)⟩
theorem lw_p52 : lw_okq (⟨"RainOrganModel", "readSeconds", "(II)V"⟩, 46) := ⟨⟨by decide +kernel, by decide +kernel⟩, List.mem_of_getElem? (i := 947) (by decide +kernel), List.mem_of_getElem? (i := 1155) (by decide +kernel), List.mem_of_getElem? (i := 1156) (by decide +kernel)⟩
theorem lw_p53 : lw_okq (⟨"RainOrganModel", "takes", "()V"⟩, 46) := ⟨⟨by decide +kernel, by decide +kernel⟩, List.mem_of_getElem? (i := 947) (by decide +kernel), List.mem_of_getElem? (i := 1159) (by decide +kernel), List.mem_of_getElem? (i := 1160) (by decide +kernel)⟩
theorem lw_p54 : lw_okq (⟨"RainOrganModel", "isGutter", "(I)Z"⟩, 46) := ⟨⟨by decide +kernel, by decide +kernel⟩, List.mem_of_getElem? (i := 947) (by decide +kernel), List.mem_of_getElem? (i := 1175) (by decide +kernel), List.mem_of_getElem? (i := 1176) (by decide +kernel)⟩
theorem lw_p55 : lw_okq (⟨"RainOrganModel", "isSpout", "(I)Z"⟩, 46) := ⟨⟨by decide +kernel, by decide +kernel⟩, List.mem_of_getElem? (i := 947) (by decide +kernel), List.mem_of_getElem? (i := 1183) (by decide +kernel), List.mem_of_getElem? (i := 1184) (by decide +kernel)⟩
theorem lw_p56 : lw_okq (⟨"RainOrganModel", "settingMany", "()I"⟩, 46) := ⟨⟨by decide +kernel, by decide +kernel⟩, List.mem_of_getElem? (i := 947) (by decide +kernel), List.mem_of_getElem? (i := 1204) (by decide +kernel), List.mem_of_getElem? (i := 1205) (by decide +kernel)⟩
theorem lw_p57 : lw_okq (⟨"RainOrganModel", "settingsNow", "()I"⟩, 46) := ⟨⟨by decide +kernel, by decide +kernel⟩, List.mem_of_getElem? (i := 947) (by decide +kernel), List.mem_of_getElem? (i := 1208) (by decide +kernel), List.mem_of_getElem? (i := 1209) (by decide +kernel)⟩
theorem lw_p58 : lw_okq (⟨"RainOrganModel", "sets", "(I)V"⟩, 46) := ⟨⟨by decide +kernel, by decide +kernel⟩, List.mem_of_getElem? (i := 947) (by decide +kernel), List.mem_of_getElem? (i := 1212) (by decide +kernel), List.mem_of_getElem? (i := 1213) (by decide +kernel)⟩
theorem lw_p59 : lw_okq (⟨"RainOrganModel", "second", "(II)I"⟩, 46) := ⟨⟨by decide +kernel, by decide +kernel⟩, List.mem_of_getElem? (i := 947) (by decide +kernel), List.mem_of_getElem? (i := 1221) (by decide +kernel), List.mem_of_getElem? (i := 1222) (by decide +kernel)⟩
theorem lw_p60 : lw_okq (⟨"RainOrganModel", "gutters", "(II)V"⟩, 46) := ⟨⟨by decide +kernel, by decide +kernel⟩, List.mem_of_getElem? (i := 947) (by decide +kernel), List.mem_of_getElem? (i := 1225) (by decide +kernel), List.mem_of_getElem? (i := 1226) (by decide +kernel)⟩
theorem lw_p61 : lw_okq (⟨"RainOrganModel", "leads", "(III)V"⟩, 46) := ⟨⟨by decide +kernel, by decide +kernel⟩, List.mem_of_getElem? (i := 947) (by decide +kernel), List.mem_of_getElem? (i := 1229) (by decide +kernel), List.mem_of_getElem? (i := 1230) (by decide +kernel)⟩
theorem lw_p62 : lw_okq (⟨"RainOrganModel", "sounds", "(III)I"⟩, 46) := ⟨⟨by decide +kernel, by decide +kernel⟩, List.mem_of_getElem? (i := 947) (by decide +kernel), List.mem_of_getElem? (i := 1233) (by decide +kernel), List.mem_of_getElem? (i := 1234) (by decide +kernel)⟩
theorem lw_p63 : lw_okq (⟨"RainOrganModel", "dries", "(I)V"⟩, 46) := ⟨⟨by decide +kernel, by decide +kernel⟩, List.mem_of_getElem? (i := 947) (by decide +kernel), List.mem_of_getElem? (i := 1241) (by decide +kernel), List.mem_of_getElem? (i := 1242) (by decide +kernel)⟩
def lw_privs_4 : List (MethodName × Nat) := [(⟨"RainOrganModel", "number", "(II)I"⟩, 46), (⟨"RainOrganModel", "looks", "(II)V"⟩, 46), (⟨"RainOrganModel", "readWay", "(I)I"⟩, 46), (⟨"RainOrganModel", "readCup", "(I)V"⟩, 46), (⟨"RainOrganModel", "readSeconds", "(II)V"⟩, 46), (⟨"RainOrganModel", "takes", "()V"⟩, 46), (⟨"RainOrganModel", "isGutter", "(I)Z"⟩, 46), (⟨"RainOrganModel", "isSpout", "(I)Z"⟩, 46), (⟨"RainOrganModel", "settingMany", "()I"⟩, 46), (⟨"RainOrganModel", "settingsNow", "()I"⟩, 46), (⟨"RainOrganModel", "sets", "(I)V"⟩, 46), (⟨"RainOrganModel", "second", "(II)I"⟩, 46), (⟨"RainOrganModel", "gutters", "(II)V"⟩, 46), (⟨"RainOrganModel", "leads", "(III)V"⟩, 46), (⟨"RainOrganModel", "sounds", "(III)I"⟩, 46), (⟨"RainOrganModel", "dries", "(I)V"⟩, 46)]
theorem lw_r4 : ∀ q ∈ lw_privs_4, lw_okq q := List.forall_mem_cons.mpr ⟨lw_p48, List.forall_mem_cons.mpr ⟨lw_p49, List.forall_mem_cons.mpr ⟨lw_p50, List.forall_mem_cons.mpr ⟨lw_p51, List.forall_mem_cons.mpr ⟨lw_p52, List.forall_mem_cons.mpr ⟨lw_p53, List.forall_mem_cons.mpr ⟨lw_p54, List.forall_mem_cons.mpr ⟨lw_p55, List.forall_mem_cons.mpr ⟨lw_p56, List.forall_mem_cons.mpr ⟨lw_p57, List.forall_mem_cons.mpr ⟨lw_p58, List.forall_mem_cons.mpr ⟨lw_p59, List.forall_mem_cons.mpr ⟨lw_p60, List.forall_mem_cons.mpr ⟨lw_p61, List.forall_mem_cons.mpr ⟨lw_p62, List.forall_mem_cons.mpr ⟨lw_p63, fun _ h => absurd h List.not_mem_nil⟩⟩⟩⟩⟩⟩⟩⟩⟩⟩⟩⟩⟩⟩⟩⟩
theorem lw_p64 : lw_okq (⟨"RainOrganModel", "sumOf", "(II)I"⟩, 46) := ⟨⟨by decide +kernel, by decide +kernel⟩, List.mem_of_getElem? (i := 947) (by decide +kernel), List.mem_of_getElem? (i := 1249) (by decide +kernel), List.mem_of_getElem? (i := 1250) (by decide +kernel)⟩
theorem lw_p65 : lw_okq (⟨"RainOrganModel", "isShower", "(I)Z"⟩, 46) := ⟨⟨by decide +kernel, by decide +kernel⟩, List.mem_of_getElem? (i := 947) (by decide +kernel), List.mem_of_getElem? (i := 1261) (by decide +kernel), List.mem_of_getElem? (i := 1262) (by decide +kernel)⟩
theorem lw_p66 : lw_okq (⟨"RainOrganModel", "lengthOf", "(I)I"⟩, 46) := ⟨⟨by decide +kernel, by decide +kernel⟩, List.mem_of_getElem? (i := 947) (by decide +kernel), List.mem_of_getElem? (i := 1265) (by decide +kernel), List.mem_of_getElem? (i := 1266) (by decide +kernel)⟩
theorem lw_p67 : lw_okq (⟨"RainOrganModel", "plays2", "(I)V"⟩, 46) := ⟨⟨by decide +kernel, by decide +kernel⟩, List.mem_of_getElem? (i := 947) (by decide +kernel), List.mem_of_getElem? (i := 1273) (by decide +kernel), List.mem_of_getElem? (i := 1274) (by decide +kernel)⟩
theorem lw_p68 : lw_okq (⟨"RainOrganModel", "showers", "(I)V"⟩, 46) := ⟨⟨by decide +kernel, by decide +kernel⟩, List.mem_of_getElem? (i := 947) (by decide +kernel), List.mem_of_getElem? (i := 1277) (by decide +kernel), List.mem_of_getElem? (i := 1278) (by decide +kernel)⟩
theorem lw_p69 : lw_okq (⟨"RainOrganModel", "farOf", "(I)I"⟩, 46) := ⟨⟨by decide +kernel, by decide +kernel⟩, List.mem_of_getElem? (i := 947) (by decide +kernel), List.mem_of_getElem? (i := 1299) (by decide +kernel), List.mem_of_getElem? (i := 1300) (by decide +kernel)⟩
theorem lw_p70 : lw_okq (⟨"RainOrganModel", "layBest", "(I)V"⟩, 46) := ⟨⟨by decide +kernel, by decide +kernel⟩, List.mem_of_getElem? (i := 947) (by decide +kernel), List.mem_of_getElem? (i := 1310) (by decide +kernel), List.mem_of_getElem? (i := 1311) (by decide +kernel)⟩
theorem lw_p71 : lw_okq (⟨"RainOrganModel", "unlikePegs", "(II)I"⟩, 46) := ⟨⟨by decide +kernel, by decide +kernel⟩, List.mem_of_getElem? (i := 947) (by decide +kernel), List.mem_of_getElem? (i := 1318) (by decide +kernel), List.mem_of_getElem? (i := 1319) (by decide +kernel)⟩
theorem lw_p72 : lw_okq (⟨"RainOrganModel", "wakes", "(I)I"⟩, 46) := ⟨⟨by decide +kernel, by decide +kernel⟩, List.mem_of_getElem? (i := 947) (by decide +kernel), List.mem_of_getElem? (i := 1330) (by decide +kernel), List.mem_of_getElem? (i := 1331) (by decide +kernel)⟩
theorem lw_p73 : lw_okq (⟨"RainOrganModel", "copies", "(II)V"⟩, 46) := ⟨⟨by decide +kernel, by decide +kernel⟩, List.mem_of_getElem? (i := 947) (by decide +kernel), List.mem_of_getElem? (i := 1365) (by decide +kernel), List.mem_of_getElem? (i := 1366) (by decide +kernel)⟩
def lw_privs_5 : List (MethodName × Nat) := [(⟨"RainOrganModel", "sumOf", "(II)I"⟩, 46), (⟨"RainOrganModel", "isShower", "(I)Z"⟩, 46), (⟨"RainOrganModel", "lengthOf", "(I)I"⟩, 46), (⟨"RainOrganModel", "plays2", "(I)V"⟩, 46), (⟨"RainOrganModel", "showers", "(I)V"⟩, 46), (⟨"RainOrganModel", "farOf", "(I)I"⟩, 46), (⟨"RainOrganModel", "layBest", "(I)V"⟩, 46), (⟨"RainOrganModel", "unlikePegs", "(II)I"⟩, 46), (⟨"RainOrganModel", "wakes", "(I)I"⟩, 46), (⟨"RainOrganModel", "copies", "(II)V"⟩, 46)]
theorem lw_r5 : ∀ q ∈ lw_privs_5, lw_okq q := List.forall_mem_cons.mpr ⟨lw_p64, List.forall_mem_cons.mpr ⟨lw_p65, List.forall_mem_cons.mpr ⟨lw_p66, List.forall_mem_cons.mpr ⟨lw_p67, List.forall_mem_cons.mpr ⟨lw_p68, List.forall_mem_cons.mpr ⟨lw_p69, List.forall_mem_cons.mpr ⟨lw_p70, List.forall_mem_cons.mpr ⟨lw_p71, List.forall_mem_cons.mpr ⟨lw_p72, List.forall_mem_cons.mpr ⟨lw_p73, fun _ h => absurd h List.not_mem_nil⟩⟩⟩⟩⟩⟩⟩⟩⟩⟩
def lw_privs : List (MethodName × Nat) := lw_privs_1 ++ (lw_privs_2 ++ (lw_privs_3 ++ (lw_privs_4 ++ (lw_privs_5))))
def lw_tbl : List Cond := k2_sels lw_privs ++ tables_1
theorem lw_privs_ok : ∀ q ∈ lw_privs, lw_okq q := by
  show ∀ q ∈ lw_privs_1 ++ (lw_privs_2 ++ (lw_privs_3 ++ (lw_privs_4 ++ (lw_privs_5)))), lw_okq q
  exact List.forall_mem_append.mpr ⟨lw_r1, List.forall_mem_append.mpr ⟨lw_r2, List.forall_mem_append.mpr ⟨lw_r3, List.forall_mem_append.mpr ⟨lw_r4, lw_r5⟩⟩⟩⟩
/-! ===== BEGIN printed: names, fields, word lists, decode rows ===== -/
def RX0 : String := "RainOrgan$Choice"
def TX0 : u_T := fun k => match k with
  | 0 => ("RainOrgan$Choice", "number", "I", false)
  | 1 => ("RainOrgan$Choice", "far", "I", false)
  | 2 => ("RainOrgan$Choice", "asNear", "I", false)
  | 3 => ("RainOrgan$Choice", "offers", "I", false)
  | 4 => ("RainOrgan$Choice", "fewestNumber", "I", false)
  | 5 => ("RainOrgan$Choice", "fewestChanges", "I", false)
  | 6 => ("RainOrgan$Choice", "now", "I", false)
  | _ => ("RainOrgan$Choice", "gutters", "I", false)
def tyX0 : Nat → FieldType := fun k => match k with
  | 0 => .int
  | 1 => .int
  | 2 => .int
  | 3 => .int
  | 4 => .int
  | 5 => .int
  | 6 => .int
  | _ => .int
abbrev wsX00 : List Cond := u_ws RX0 TX0 8
theorem nmX0 : ∀ a, a < 8 → ∀ b, b < 8 → a ≠ b → (TX0 a).2.1 ≠ (TX0 b).2.1 := by decide +kernel
theorem tyX0_ok : ∀ k, k < 8 → parseFieldDescriptor (TX0 k).2.2.1 = some (tyX0 k) := by decide +kernel
abbrev cX0_init : ByteArray := prog_2_method_1_code
def yX0_init : MethodName := ⟨RX0, "<init>", "()V"⟩
abbrev cX0_begin : ByteArray := prog_2_method_2_code
def yX0_begin : MethodName := ⟨RX0, "begin", "(II)V"⟩
abbrev cX0_offer : ByteArray := prog_2_method_3_code
def yX0_offer : MethodName := ⟨RX0, "offer", "(II)V"⟩
abbrev cX0_changedPegs : ByteArray := prog_2_method_4_code
def yX0_changedPegs : MethodName := ⟨RX0, "changedPegs", "(I)I"⟩
def RX1 : String := "RainOrgan$Concert"
def TX1 : u_T := fun k => match k with
  | 0 => ("RainOrgan$Concert", "flow", "LRainOrgan$Flow;", true)
  | 1 => ("RainOrgan$Concert", "tones", "[I", true)
  | 2 => ("RainOrgan$Concert", "sounds", "[I", true)
  | _ => ("RainOrgan$Concert", "seconds", "I", false)
def tyX1 : Nat → FieldType := fun k => match k with
  | 0 => .object "RainOrgan$Flow"
  | 1 => .array .int
  | 2 => .array .int
  | _ => .int
abbrev wsX10 : List Cond := u_ws RX1 TX1 4
theorem nmX1 : ∀ a, a < 4 → ∀ b, b < 4 → a ≠ b → (TX1 a).2.1 ≠ (TX1 b).2.1 := by decide +kernel
theorem tyX1_ok : ∀ k, k < 4 → parseFieldDescriptor (TX1 k).2.2.1 = some (tyX1 k) := by decide +kernel
abbrev cX1_init : ByteArray := prog_3_method_1_code
def yX1_init : MethodName := ⟨RX1, "<init>", "()V"⟩
abbrev cX1_perform : ByteArray := prog_3_method_2_code
def yX1_perform : MethodName := ⟨RX1, "perform", "(LRainOrgan$Plan;LRainOrgan$Setup;I)V"⟩
abbrev cX1_farFromTune : ByteArray := prog_3_method_3_code
def yX1_farFromTune : MethodName := ⟨RX1, "farFromTune", "(LRainOrgan$Setup;)I"⟩
abbrev cX1_loudestSecond : ByteArray := prog_3_method_4_code
def yX1_loudestSecond : MethodName := ⟨RX1, "loudestSecond", "()I"⟩
abbrev cX1_wokenSleepers : ByteArray := prog_3_method_5_code
def yX1_wokenSleepers : MethodName := ⟨RX1, "wokenSleepers", "(LRainOrgan$Plan;)I"⟩
def RX2 : String := "RainOrgan$Flow"
def TX2 : u_T := fun k => match k with
  | 0 => ("RainOrgan$Flow", "held", "[I", true)
  | 1 => ("RainOrgan$Flow", "counts", "[I", true)
  | 2 => ("RainOrgan$Flow", "hits", "[J", true)
  | 3 => ("RainOrgan$Flow", "onTheWay", "[I", true)
  | 4 => ("RainOrgan$Flow", "louds", "[I", true)
  | 5 => ("RainOrgan$Flow", "second", "I", false)
  | 6 => ("RainOrgan$Flow", "fallen", "I", false)
  | 7 => ("RainOrgan$Flow", "ranOff", "I", false)
  | 8 => ("RainOrgan$Flow", "sounded", "I", false)
  | 9 => ("RainOrgan$Flow", "spoutsHeard", "I", false)
  | 10 => ("RainOrgan$Flow", "inGutters", "[I", true)
  | _ => ("RainOrgan$Flow", "atSpouts", "[I", true)
def tyX2 : Nat → FieldType := fun k => match k with
  | 0 => .array .int
  | 1 => .array .int
  | 2 => .array .long
  | 3 => .array .int
  | 4 => .array .int
  | 5 => .int
  | 6 => .int
  | 7 => .int
  | 8 => .int
  | 9 => .int
  | 10 => .array .int
  | _ => .array .int
abbrev wsX20 : List Cond := u_ws RX2 TX2 12
theorem nmX2 : ∀ a, a < 12 → ∀ b, b < 12 → a ≠ b → (TX2 a).2.1 ≠ (TX2 b).2.1 := by decide +kernel
theorem tyX2_ok : ∀ k, k < 12 → parseFieldDescriptor (TX2 k).2.2.1 = some (tyX2 k) := by decide +kernel
abbrev cX2_init : ByteArray := prog_4_method_1_code
def yX2_init : MethodName := ⟨RX2, "<init>", "()V"⟩
abbrev cX2_dryUp : ByteArray := prog_4_method_2_code
def yX2_dryUp : MethodName := ⟨RX2, "dryUp", "()V"⟩
abbrev cX2_copyFrom : ByteArray := prog_4_method_3_code
def yX2_copyFrom : MethodName := ⟨RX2, "copyFrom", "(LRainOrgan$Flow;)V"⟩
abbrev cX2_passSecond : ByteArray := prog_4_method_4_code
def yX2_passSecond : MethodName := ⟨RX2, "passSecond", "(LRainOrgan$Plan;LRainOrgan$Setup;I)I"⟩
abbrev cX2_fallOnRoofs : ByteArray := prog_4_method_5_code
def yX2_fallOnRoofs : MethodName := ⟨RX2, "fallOnRoofs", "(LRainOrgan$Plan;I)V"⟩
abbrev cX2_runThroughGutters : ByteArray := prog_4_method_6_code
def yX2_runThroughGutters : MethodName := ⟨RX2, "runThroughGutters", "(LRainOrgan$Plan;LRainOrgan$Setup;)V"⟩
abbrev cX2_shareOfLeft : ByteArray := prog_4_method_7_code
def yX2_shareOfLeft : MethodName := ⟨RX2, "shareOfLeft", "(II)I"⟩
abbrev cX2_lead : ByteArray := prog_4_method_8_code
def yX2_lead : MethodName := ⟨RX2, "lead", "(II)V"⟩
abbrev cX2_fillCups : ByteArray := prog_4_method_9_code
def yX2_fillCups : MethodName := ⟨RX2, "fillCups", "(LRainOrgan$Plan;LRainOrgan$Setup;)I"⟩
abbrev cX2_fillCup : ByteArray := prog_4_method_10_code
def yX2_fillCup : MethodName := ⟨RX2, "fillCup", "(LRainOrgan$Plan;III)I"⟩
abbrev cX2_tip : ByteArray := prog_4_method_11_code
def yX2_tip : MethodName := ⟨RX2, "tip", "(IIII)I"⟩
abbrev cX2_leak : ByteArray := prog_4_method_12_code
def yX2_leak : MethodName := ⟨RX2, "leak", "(III)I"⟩
abbrev cX2_countEach : ByteArray := prog_4_method_13_code
def yX2_countEach : MethodName := ⟨RX2, "countEach", "(III)I"⟩
abbrev cX2_emptyCup : ByteArray := prog_4_method_14_code
def yX2_emptyCup : MethodName := ⟨RX2, "emptyCup", "(I)V"⟩
abbrev cX2_isBroken : ByteArray := prog_4_method_15_code
def yX2_isBroken : MethodName := ⟨RX2, "isBroken", "(LRainOrgan$Plan;I)Z"⟩
abbrev cX2_brokenSpouts : ByteArray := prog_4_method_16_code
def yX2_brokenSpouts : MethodName := ⟨RX2, "brokenSpouts", "(LRainOrgan$Plan;)I"⟩
def RX3 : String := "RainOrgan$Image"
def TX3 : u_T := fun k => match k with
  | 0 => ("RainOrgan$Image", "setup", "LRainOrgan$Setup;", true)
  | 1 => ("RainOrgan$Image", "flow", "LRainOrgan$Flow;", true)
  | _ => ("RainOrgan$Image", "taken", "Z", false)
def tyX3 : Nat → FieldType := fun k => match k with
  | 0 => .object "RainOrgan$Setup"
  | 1 => .object "RainOrgan$Flow"
  | _ => .boolean
abbrev wsX30 : List Cond := u_ws RX3 TX3 3
theorem nmX3 : ∀ a, a < 3 → ∀ b, b < 3 → a ≠ b → (TX3 a).2.1 ≠ (TX3 b).2.1 := by decide +kernel
theorem tyX3_ok : ∀ k, k < 3 → parseFieldDescriptor (TX3 k).2.2.1 = some (tyX3 k) := by decide +kernel
abbrev cX3_init : ByteArray := prog_5_method_1_code
def yX3_init : MethodName := ⟨RX3, "<init>", "()V"⟩
def RX4 : String := "RainOrgan$Plan"
def TX4 : u_T := fun k => match k with
  | 0 => ("RainOrgan$Plan", "roofs", "I", false)
  | 1 => ("RainOrgan$Plan", "areas", "[I", true)
  | 2 => ("RainOrgan$Plan", "roofGutters", "[I", true)
  | 3 => ("RainOrgan$Plan", "gutters", "I", false)
  | 4 => ("RainOrgan$Plan", "left", "[I", true)
  | 5 => ("RainOrgan$Plan", "right", "[I", true)
  | 6 => ("RainOrgan$Plan", "spouts", "I", false)
  | 7 => ("RainOrgan$Plan", "tones", "[I", true)
  | 8 => ("RainOrgan$Plan", "sizes", "[I", true)
  | 9 => ("RainOrgan$Plan", "others", "[I", true)
  | 10 => ("RainOrgan$Plan", "showers", "I", false)
  | 11 => ("RainOrgan$Plan", "sleepers", "I", false)
  | 12 => ("RainOrgan$Plan", "sleepsFrom", "[I", true)
  | 13 => ("RainOrgan$Plan", "sleepsTo", "[I", true)
  | 14 => ("RainOrgan$Plan", "wakesAt", "[I", true)
  | _ => ("RainOrgan$Plan", "wear", "I", false)
def tyX4 : Nat → FieldType := fun k => match k with
  | 0 => .int
  | 1 => .array .int
  | 2 => .array .int
  | 3 => .int
  | 4 => .array .int
  | 5 => .array .int
  | 6 => .int
  | 7 => .array .int
  | 8 => .array .int
  | 9 => .array .int
  | 10 => .int
  | 11 => .int
  | 12 => .array .int
  | 13 => .array .int
  | 14 => .array .int
  | _ => .int
abbrev wsX40 : List Cond := u_ws RX4 TX4 16
theorem nmX4 : ∀ a, a < 16 → ∀ b, b < 16 → a ≠ b → (TX4 a).2.1 ≠ (TX4 b).2.1 := by decide +kernel
theorem tyX4_ok : ∀ k, k < 16 → parseFieldDescriptor (TX4 k).2.2.1 = some (tyX4 k) := by decide +kernel
abbrev cX4_init : ByteArray := prog_6_method_1_code
def yX4_init : MethodName := ⟨RX4, "<init>", "()V"⟩
abbrev cX4_forget : ByteArray := prog_6_method_2_code
def yX4_forget : MethodName := ⟨RX4, "forget", "()V"⟩
def RX5 : String := "RainOrgan$Reader"
def TX5 : u_T := fun k => match k with
  | 0 => ("RainOrgan$Reader", "tape", "LRainOrgan$Tape;", true)
  | 1 => ("RainOrgan$Reader", "plan", "LRainOrgan$Plan;", false)
  | 2 => ("RainOrgan$Reader", "setup", "LRainOrgan$Setup;", false)
  | 3 => ("RainOrgan$Reader", "fault", "I", false)
  | 4 => ("RainOrgan$Reader", "place", "I", false)
  | 5 => ("RainOrgan$Reader", "wearTold", "Z", false)
  | 6 => ("RainOrgan$Reader", "at", "I", false)
  | 7 => ("RainOrgan$Reader", "start", "I", false)
  | 8 => ("RainOrgan$Reader", "kind", "I", false)
  | _ => ("RainOrgan$Reader", "value", "I", false)
def tyX5 : Nat → FieldType := fun k => match k with
  | 0 => .object "RainOrgan$Tape"
  | 1 => .object "RainOrgan$Plan"
  | 2 => .object "RainOrgan$Setup"
  | 3 => .int
  | 4 => .int
  | 5 => .boolean
  | 6 => .int
  | 7 => .int
  | 8 => .int
  | _ => .int
abbrev wsX50 : List Cond := u_ws RX5 TX5 10
theorem nmX5 : ∀ a, a < 10 → ∀ b, b < 10 → a ≠ b → (TX5 a).2.1 ≠ (TX5 b).2.1 := by decide +kernel
theorem tyX5_ok : ∀ k, k < 10 → parseFieldDescriptor (TX5 k).2.2.1 = some (tyX5 k) := by decide +kernel
abbrev cX5_init : ByteArray := prog_7_method_1_code
def yX5_init : MethodName := ⟨RX5, "<init>", "()V"⟩
abbrev cX5_begin : ByteArray := prog_7_method_2_code
def yX5_begin : MethodName := ⟨RX5, "begin", "()V"⟩
abbrev cX5_fail : ByteArray := prog_7_method_3_code
def yX5_fail : MethodName := ⟨RX5, "fail", "(I)Z"⟩
abbrev cX5_nextToken : ByteArray := prog_7_method_4_code
def yX5_nextToken : MethodName := ⟨RX5, "nextToken", "()Z"⟩
abbrev cX5_kindAt : ByteArray := prog_7_method_5_code
def yX5_kindAt : MethodName := ⟨RX5, "kindAt", "(I)I"⟩
abbrev cX5_numberRead : ByteArray := prog_7_method_6_code
def yX5_numberRead : MethodName := ⟨RX5, "numberRead", "()I"⟩
abbrev cX5_isNamed : ByteArray := prog_7_method_7_code
def yX5_isNamed : MethodName := ⟨RX5, "isNamed", "(Ljava/lang/String;)Z"⟩
abbrev cX5_needs : ByteArray := prog_7_method_8_code
def yX5_needs : MethodName := ⟨RX5, "needs", "(I)Z"⟩
abbrev cX5_needsNumber : ByteArray := prog_7_method_9_code
def yX5_needsNumber : MethodName := ⟨RX5, "needsNumber", "(II)Z"⟩
abbrev cX5_readLine : ByteArray := prog_7_method_10_code
def yX5_readLine : MethodName := ⟨RX5, "readLine", "()Z"⟩
abbrev cX5_readRoof : ByteArray := prog_7_method_11_code
def yX5_readRoof : MethodName := ⟨RX5, "readRoof", "()Z"⟩
abbrev cX5_readPeg : ByteArray := prog_7_method_12_code
def yX5_readPeg : MethodName := ⟨RX5, "readPeg", "()Z"⟩
abbrev cX5_readWay : ByteArray := prog_7_method_13_code
def yX5_readWay : MethodName := ⟨RX5, "readWay", "(I)Z"⟩
abbrev cX5_readSpout : ByteArray := prog_7_method_14_code
def yX5_readSpout : MethodName := ⟨RX5, "readSpout", "()Z"⟩
abbrev cX5_readCup : ByteArray := prog_7_method_15_code
def yX5_readCup : MethodName := ⟨RX5, "readCup", "(I)Z"⟩
abbrev cX5_namedKind : ByteArray := prog_7_method_16_code
def yX5_namedKind : MethodName := ⟨RX5, "namedKind", "()I"⟩
abbrev cX5_readRain : ByteArray := prog_7_method_17_code
def yX5_readRain : MethodName := ⟨RX5, "readRain", "()Z"⟩
abbrev cX5_readTune : ByteArray := prog_7_method_18_code
def yX5_readTune : MethodName := ⟨RX5, "readTune", "()Z"⟩
abbrev cX5_readSeconds : ByteArray := prog_7_method_19_code
def yX5_readSeconds : MethodName := ⟨RX5, "readSeconds", "([II)I"⟩
abbrev cX5_isSecond : ByteArray := prog_7_method_20_code
def yX5_isSecond : MethodName := ⟨RX5, "isSecond", "(II)Z"⟩
abbrev cX5_readSleep : ByteArray := prog_7_method_21_code
def yX5_readSleep : MethodName := ⟨RX5, "readSleep", "()Z"⟩
abbrev cX5_readWear : ByteArray := prog_7_method_22_code
def yX5_readWear : MethodName := ⟨RX5, "readWear", "()Z"⟩
abbrev cX5_allPartsAreThere : ByteArray := prog_7_method_23_code
def yX5_allPartsAreThere : MethodName := ⟨RX5, "allPartsAreThere", "()Z"⟩
abbrev cX5_isThere : ByteArray := prog_7_method_24_code
def yX5_isThere : MethodName := ⟨RX5, "isThere", "(I)Z"⟩
def RX6 : String := "RainOrgan$Setup"
def TX6 : u_T := fun k => match k with
  | 0 => ("RainOrgan$Setup", "pegs", "[I", true)
  | 1 => ("RainOrgan$Setup", "blocks", "[I", true)
  | 2 => ("RainOrgan$Setup", "kinds", "[I", true)
  | 3 => ("RainOrgan$Setup", "lengths", "[I", true)
  | 4 => ("RainOrgan$Setup", "rains", "[[I", true)
  | 5 => ("RainOrgan$Setup", "tune", "[I", true)
  | _ => ("RainOrgan$Setup", "tuneSeconds", "I", false)
def tyX6 : Nat → FieldType := fun k => match k with
  | 0 => .array .int
  | 1 => .array .int
  | 2 => .array .int
  | 3 => .array .int
  | 4 => .array (.array .int)
  | 5 => .array .int
  | _ => .int
abbrev wsX60 : List Cond := u_ws RX6 TX6 7
theorem nmX6 : ∀ a, a < 7 → ∀ b, b < 7 → a ≠ b → (TX6 a).2.1 ≠ (TX6 b).2.1 := by decide +kernel
theorem tyX6_ok : ∀ k, k < 7 → parseFieldDescriptor (TX6 k).2.2.1 = some (tyX6 k) := by decide +kernel
abbrev cX6_init : ByteArray := prog_8_method_1_code
def yX6_init : MethodName := ⟨RX6, "<init>", "()V"⟩
abbrev cX6_forget : ByteArray := prog_8_method_2_code
def yX6_forget : MethodName := ⟨RX6, "forget", "()V"⟩
abbrev cX6_copyFrom : ByteArray := prog_8_method_3_code
def yX6_copyFrom : MethodName := ⟨RX6, "copyFrom", "(LRainOrgan$Setup;)V"⟩
abbrev cX6_pegsAsNumber : ByteArray := prog_8_method_4_code
def yX6_pegsAsNumber : MethodName := ⟨RX6, "pegsAsNumber", "(I)I"⟩
abbrev cX6_setPegs : ByteArray := prog_8_method_5_code
def yX6_setPegs : MethodName := ⟨RX6, "setPegs", "(II)V"⟩
def RX7 : String := "RainOrgan$Sheet"
def TX7 : u_T := fun k => match k with
  | 0 => ("RainOrgan$Sheet", "cells", "[I", true)
  | 1 => ("RainOrgan$Sheet", "lane", "I", false)
  | _ => ("RainOrgan$Sheet", "size", "I", false)
def tyX7 : Nat → FieldType := fun k => match k with
  | 0 => .array .int
  | 1 => .int
  | _ => .int
abbrev wsX70 : List Cond := u_ws RX7 TX7 3
theorem nmX7 : ∀ a, a < 3 → ∀ b, b < 3 → a ≠ b → (TX7 a).2.1 ≠ (TX7 b).2.1 := by decide +kernel
theorem tyX7_ok : ∀ k, k < 3 → parseFieldDescriptor (TX7 k).2.2.1 = some (tyX7 k) := by decide +kernel
abbrev cX7_init : ByteArray := prog_9_method_1_code
def yX7_init : MethodName := ⟨RX7, "<init>", "()V"⟩
abbrev cX7_isNothing : ByteArray := prog_9_method_2_code
def yX7_isNothing : MethodName := ⟨RX7, "isNothing", "()Z"⟩
abbrev cX7_renew : ByteArray := prog_9_method_3_code
def yX7_renew : MethodName := ⟨RX7, "renew", "(II)V"⟩
abbrev cX7_faultAt : ByteArray := prog_9_method_4_code
def yX7_faultAt : MethodName := ⟨RX7, "faultAt", "(II)I"⟩
abbrev cX7_put : ByteArray := prog_9_method_5_code
def yX7_put : MethodName := ⟨RX7, "put", "(II)V"⟩
def RX8 : String := "RainOrgan$Tape"
def TX8 : u_T := fun k => match k with
  | 0 => ("RainOrgan$Tape", "bytes", "[B", true)
  | _ => ("RainOrgan$Tape", "length", "I", false)
def tyX8 : Nat → FieldType := fun k => match k with
  | 0 => .array .byte
  | _ => .int
abbrev wsX80 : List Cond := u_ws RX8 TX8 2
theorem nmX8 : ∀ a, a < 2 → ∀ b, b < 2 → a ≠ b → (TX8 a).2.1 ≠ (TX8 b).2.1 := by decide +kernel
theorem tyX8_ok : ∀ k, k < 2 → parseFieldDescriptor (TX8 k).2.2.1 = some (tyX8 k) := by decide +kernel
abbrev cX8_init : ByteArray := prog_10_method_1_code
def yX8_init : MethodName := ⟨RX8, "<init>", "()V"⟩
def RX9 : String := "RainOrgan"
def TX9 : u_T := fun k => match k with
  | 0 => ("RainOrgan", "reader", "LRainOrgan$Reader;", true)
  | 1 => ("RainOrgan", "tape", "LRainOrgan$Tape;", true)
  | 2 => ("RainOrgan", "plan", "LRainOrgan$Plan;", false)
  | 3 => ("RainOrgan", "setup", "LRainOrgan$Setup;", false)
  | 4 => ("RainOrgan", "hand", "LRainOrgan$Flow;", true)
  | 5 => ("RainOrgan", "concert", "LRainOrgan$Concert;", true)
  | 6 => ("RainOrgan", "choice", "LRainOrgan$Choice;", true)
  | 7 => ("RainOrgan", "images", "[LRainOrgan$Image;", true)
  | 8 => ("RainOrgan", "sheets", "[LRainOrgan$Sheet;", true)
  | 9 => ("RainOrgan", "textFault", "I", false)
  | _ => ("RainOrgan", "sheetFault", "I", false)
def tyX9 : Nat → FieldType := fun k => match k with
  | 0 => .object "RainOrgan$Reader"
  | 1 => .object "RainOrgan$Tape"
  | 2 => .object "RainOrgan$Plan"
  | 3 => .object "RainOrgan$Setup"
  | 4 => .object "RainOrgan$Flow"
  | 5 => .object "RainOrgan$Concert"
  | 6 => .object "RainOrgan$Choice"
  | 7 => .array (.object "RainOrgan$Image")
  | 8 => .array (.object "RainOrgan$Sheet")
  | 9 => .int
  | _ => .int
abbrev wsX90 : List Cond := u_ws RX9 TX9 11
theorem nmX9 : ∀ a, a < 11 → ∀ b, b < 11 → a ≠ b → (TX9 a).2.1 ≠ (TX9 b).2.1 := by decide +kernel
theorem tyX9_ok : ∀ k, k < 11 → parseFieldDescriptor (TX9 k).2.2.1 = some (tyX9 k) := by decide +kernel
abbrev cX9_init : ByteArray := prog_1_method_1_code
def yX9_init : MethodName := ⟨RX9, "<init>", "()V"⟩
abbrev cX9_feed : ByteArray := prog_1_method_2_code
def yX9_feed : MethodName := ⟨RX9, "feed", "(J)I"⟩
abbrev cX9_end : ByteArray := prog_1_method_3_code
def yX9_end : MethodName := ⟨RX9, "end", "(I)I"⟩
abbrev cX9_organ : ByteArray := prog_1_method_4_code
def yX9_organ : MethodName := ⟨RX9, "organ", "()I"⟩
abbrev cX9_takeWhatWasRead : ByteArray := prog_1_method_5_code
def yX9_takeWhatWasRead : MethodName := ⟨RX9, "takeWhatWasRead", "()V"⟩
abbrev cX9_fault : ByteArray := prog_1_method_6_code
def yX9_fault : MethodName := ⟨RX9, "fault", "()I"⟩
abbrev cX9_rule : ByteArray := prog_1_method_7_code
def yX9_rule : MethodName := ⟨RX9, "rule", "(I)I"⟩
abbrev cX9_gutter : ByteArray := prog_1_method_8_code
def yX9_gutter : MethodName := ⟨RX9, "gutter", "(II)I"⟩
abbrev cX9_spout : ByteArray := prog_1_method_9_code
def yX9_spout : MethodName := ⟨RX9, "spout", "(II)I"⟩
abbrev cX9_peg : ByteArray := prog_1_method_10_code
def yX9_peg : MethodName := ⟨RX9, "peg", "(II)I"⟩
abbrev cX9_block : ByteArray := prog_1_method_11_code
def yX9_block : MethodName := ⟨RX9, "block", "(IZ)I"⟩
abbrev cX9_cup : ByteArray := prog_1_method_12_code
def yX9_cup : MethodName := ⟨RX9, "cup", "(II)I"⟩
abbrev cX9_settings : ByteArray := prog_1_method_13_code
def yX9_settings : MethodName := ⟨RX9, "settings", "(I)I"⟩
abbrev cX9_rain : ByteArray := prog_1_method_14_code
def yX9_rain : MethodName := ⟨RX9, "rain", "(I)I"⟩
abbrev cX9_dry : ByteArray := prog_1_method_15_code
def yX9_dry : MethodName := ⟨RX9, "dry", "()I"⟩
abbrev cX9_water : ByteArray := prog_1_method_16_code
def yX9_water : MethodName := ⟨RX9, "water", "(I)I"⟩
abbrev cX9_loud : ByteArray := prog_1_method_17_code
def yX9_loud : MethodName := ⟨RX9, "loud", "(I)I"⟩
abbrev cX9_shower : ByteArray := prog_1_method_18_code
def yX9_shower : MethodName := ⟨RX9, "shower", "(II)I"⟩
abbrev cX9_plays : ByteArray := prog_1_method_19_code
def yX9_plays : MethodName := ⟨RX9, "plays", "(II)I"⟩
abbrev cX9_falls : ByteArray := prog_1_method_20_code
def yX9_falls : MethodName := ⟨RX9, "falls", "(II)I"⟩
abbrev cX9_tune : ByteArray := prog_1_method_21_code
def yX9_tune : MethodName := ⟨RX9, "tune", "(I)I"⟩
abbrev cX9_tells : ByteArray := prog_1_method_22_code
def yX9_tells : MethodName := ⟨RX9, "tells", "(II)I"⟩
abbrev cX9_far : ByteArray := prog_1_method_23_code
def yX9_far : MethodName := ⟨RX9, "far", "(I)I"⟩
abbrev cX9_best : ByteArray := prog_1_method_24_code
def yX9_best : MethodName := ⟨RX9, "best", "(II)I"⟩
abbrev cX9_fewest : ByteArray := prog_1_method_25_code
def yX9_fewest : MethodName := ⟨RX9, "fewest", "(II)I"⟩
abbrev cX9_all : ByteArray := prog_1_method_26_code
def yX9_all : MethodName := ⟨RX9, "all", "(I)I"⟩
abbrev cX9_quiet : ByteArray := prog_1_method_27_code
def yX9_quiet : MethodName := ⟨RX9, "quiet", "(II)I"⟩
abbrev cX9_woken : ByteArray := prog_1_method_28_code
def yX9_woken : MethodName := ⟨RX9, "woken", "(I)I"⟩
abbrev cX9_heard : ByteArray := prog_1_method_29_code
def yX9_heard : MethodName := ⟨RX9, "heard", "(I)I"⟩
abbrev cX9_blocked : ByteArray := prog_1_method_30_code
def yX9_blocked : MethodName := ⟨RX9, "blocked", "(I)I"⟩
abbrev cX9_frozen : ByteArray := prog_1_method_31_code
def yX9_frozen : MethodName := ⟨RX9, "frozen", "(I)I"⟩
abbrev cX9_lasts : ByteArray := prog_1_method_32_code
def yX9_lasts : MethodName := ⟨RX9, "lasts", "(II)I"⟩
abbrev cX9_draws : ByteArray := prog_1_method_33_code
def yX9_draws : MethodName := ⟨RX9, "draws", "(IIII)I"⟩
abbrev cX9_keep : ByteArray := prog_1_method_34_code
def yX9_keep : MethodName := ⟨RX9, "keep", "(I)I"⟩
abbrev cX9_back : ByteArray := prog_1_method_35_code
def yX9_back : MethodName := ⟨RX9, "back", "(I)I"⟩
abbrev cX9_sheet : ByteArray := prog_1_method_36_code
def yX9_sheet : MethodName := ⟨RX9, "sheet", "(III)I"⟩
abbrev cX9_lay : ByteArray := prog_1_method_37_code
def yX9_lay : MethodName := ⟨RX9, "lay", "(III)I"⟩
abbrev cX9_read : ByteArray := prog_1_method_38_code
def yX9_read : MethodName := ⟨RX9, "read", "(IIII)I"⟩
abbrev cX9_torn : ByteArray := prog_1_method_39_code
def yX9_torn : MethodName := ⟨RX9, "torn", "()I"⟩
abbrev cX9_count : ByteArray := prog_1_method_40_code
def yX9_count : MethodName := ⟨RX9, "count", "(I)I"⟩
abbrev cX9_isGutter : ByteArray := prog_1_method_41_code
def yX9_isGutter : MethodName := ⟨RX9, "isGutter", "(I)Z"⟩
abbrev cX9_isSpout : ByteArray := prog_1_method_42_code
def yX9_isSpout : MethodName := ⟨RX9, "isSpout", "(I)Z"⟩
abbrev cX9_isShower : ByteArray := prog_1_method_43_code
def yX9_isShower : MethodName := ⟨RX9, "isShower", "(I)Z"⟩
abbrev cX9_isImage : ByteArray := prog_1_method_44_code
def yX9_isImage : MethodName := ⟨RX9, "isImage", "(I)Z"⟩
abbrev cX9_isSheet : ByteArray := prog_1_method_45_code
def yX9_isSheet : MethodName := ⟨RX9, "isSheet", "(I)Z"⟩
abbrev cX9_isLane : ByteArray := prog_1_method_46_code
def yX9_isLane : MethodName := ⟨RX9, "isLane", "(I)Z"⟩
abbrev cX9_isRain : ByteArray := prog_1_method_47_code
def yX9_isRain : MethodName := ⟨RX9, "isRain", "(I)Z"⟩
abbrev cX9_hasSize : ByteArray := prog_1_method_48_code
def yX9_hasSize : MethodName := ⟨RX9, "hasSize", "(I)Z"⟩
abbrev cX9_sum : ByteArray := prog_1_method_49_code
def yX9_sum : MethodName := ⟨RX9, "sum", "([I)I"⟩
abbrev cX9_allSpouts : ByteArray := prog_1_method_50_code
def yX9_allSpouts : MethodName := ⟨RX9, "allSpouts", "()I"⟩
abbrev cX9_keptImages : ByteArray := prog_1_method_51_code
def yX9_keptImages : MethodName := ⟨RX9, "keptImages", "()I"⟩
abbrev cX9_manySettings : ByteArray := prog_1_method_52_code
def yX9_manySettings : MethodName := ⟨RX9, "manySettings", "()I"⟩
abbrev cX9_distance : ByteArray := prog_1_method_53_code
def yX9_distance : MethodName := ⟨RX9, "distance", "(I)I"⟩
abbrev cX9_chooseForShower : ByteArray := prog_1_method_54_code
def yX9_chooseForShower : MethodName := ⟨RX9, "chooseForShower", "(IZ)V"⟩
abbrev cX9_chooseForAllShowers : ByteArray := prog_1_method_55_code
def yX9_chooseForAllShowers : MethodName := ⟨RX9, "chooseForAllShowers", "()V"⟩
abbrev cX9_soundsAsTheTune : ByteArray := prog_1_method_56_code
def yX9_soundsAsTheTune : MethodName := ⟨RX9, "soundsAsTheTune", "(I)Z"⟩
def RX10 : String := "RainOrganModel"
def TX10 : u_T := fun k => match k with
  | 0 => ("RainOrganModel", "state", "[I", true)
  | 1 => ("RainOrganModel", "roofMany", "I", false)
  | 2 => ("RainOrganModel", "gutterMany", "I", false)
  | 3 => ("RainOrganModel", "spoutMany", "I", false)
  | 4 => ("RainOrganModel", "showerMany", "I", false)
  | 5 => ("RainOrganModel", "sleeperMany", "I", false)
  | 6 => ("RainOrganModel", "wear", "I", false)
  | 7 => ("RainOrganModel", "roofs", "[I", true)
  | 8 => ("RainOrganModel", "ways", "[I", true)
  | 9 => ("RainOrganModel", "tones", "[I", true)
  | 10 => ("RainOrganModel", "sleepers", "[I", true)
  | 11 => ("RainOrganModel", "readPage", "[I", true)
  | 12 => ("RainOrganModel", "readRoofs", "[I", true)
  | 13 => ("RainOrganModel", "readWays", "[I", true)
  | 14 => ("RainOrganModel", "readTones", "[I", true)
  | 15 => ("RainOrganModel", "readSleepers", "[I", true)
  | 16 => ("RainOrganModel", "readMany", "[I", true)
  | 17 => ("RainOrganModel", "readWear", "I", false)
  | 18 => ("RainOrganModel", "highGutter", "I", false)
  | 19 => ("RainOrganModel", "highSpout", "I", false)
  | 20 => ("RainOrganModel", "toldOnes", "I", false)
  | 21 => ("RainOrganModel", "tape", "[I", true)
  | 22 => ("RainOrganModel", "taped", "I", false)
  | 23 => ("RainOrganModel", "fault", "I", false)
  | 24 => ("RainOrganModel", "broken", "I", false)
  | 25 => ("RainOrganModel", "brokenAt", "I", false)
  | 26 => ("RainOrganModel", "spot", "I", false)
  | 27 => ("RainOrganModel", "here", "I", false)
  | 28 => ("RainOrganModel", "token", "I", false)
  | 29 => ("RainOrganModel", "value", "I", false)
  | 30 => ("RainOrganModel", "cuts", "[I", true)
  | 31 => ("RainOrganModel", "letters", "[I", true)
  | 32 => ("RainOrganModel", "come", "[I", true)
  | 33 => ("RainOrganModel", "fall", "[I", true)
  | 34 => ("RainOrganModel", "dropped", "I", false)
  | 35 => ("RainOrganModel", "played", "[I", true)
  | 36 => ("RainOrganModel", "loudAt", "[I", true)
  | 37 => ("RainOrganModel", "everLoud", "I", false)
  | 38 => ("RainOrganModel", "bestSet", "I", false)
  | 39 => ("RainOrganModel", "bestFar", "I", false)
  | 40 => ("RainOrganModel", "bestMany", "I", false)
  | 41 => ("RainOrganModel", "isKept", "[Z", true)
  | 42 => ("RainOrganModel", "lanes", "[I", true)
  | 43 => ("RainOrganModel", "lengths", "[I", true)
  | 44 => ("RainOrganModel", "cells", "[I", true)
  | _ => ("RainOrganModel", "torn", "I", false)
def tyX10 : Nat → FieldType := fun k => match k with
  | 0 => .array .int
  | 1 => .int
  | 2 => .int
  | 3 => .int
  | 4 => .int
  | 5 => .int
  | 6 => .int
  | 7 => .array .int
  | 8 => .array .int
  | 9 => .array .int
  | 10 => .array .int
  | 11 => .array .int
  | 12 => .array .int
  | 13 => .array .int
  | 14 => .array .int
  | 15 => .array .int
  | 16 => .array .int
  | 17 => .int
  | 18 => .int
  | 19 => .int
  | 20 => .int
  | 21 => .array .int
  | 22 => .int
  | 23 => .int
  | 24 => .int
  | 25 => .int
  | 26 => .int
  | 27 => .int
  | 28 => .int
  | 29 => .int
  | 30 => .array .int
  | 31 => .array .int
  | 32 => .array .int
  | 33 => .array .int
  | 34 => .int
  | 35 => .array .int
  | 36 => .array .int
  | 37 => .int
  | 38 => .int
  | 39 => .int
  | 40 => .int
  | 41 => .array .boolean
  | 42 => .array .int
  | 43 => .array .int
  | 44 => .array .int
  | _ => .int
abbrev wsX100 : List Cond := u_ws RX10 TX10 46
theorem nmX10 : ∀ a, a < 46 → ∀ b, b < 46 → a ≠ b → (TX10 a).2.1 ≠ (TX10 b).2.1 := by decide +kernel
theorem tyX10_ok : ∀ k, k < 46 → parseFieldDescriptor (TX10 k).2.2.1 = some (tyX10 k) := by decide +kernel
abbrev cX10_init : ByteArray := prog_12_method_1_code
def yX10_init : MethodName := ⟨RX10, "<init>", "()V"⟩
abbrev cX10_in : ByteArray := prog_12_method_3_code
def yX10_in : MethodName := ⟨RX10, "in", "(JJJ)Z"⟩
abbrev cX10_feed : ByteArray := prog_12_method_4_code
def yX10_feed : MethodName := ⟨RX10, "feed", "(J)I"⟩
abbrev cX10_end : ByteArray := prog_12_method_5_code
def yX10_end : MethodName := ⟨RX10, "end", "(I)I"⟩
abbrev cX10_byteAt : ByteArray := prog_12_method_6_code
def yX10_byteAt : MethodName := ⟨RX10, "byteAt", "(I)I"⟩
abbrev cX10_fails : ByteArray := prog_12_method_7_code
def yX10_fails : MethodName := ⟨RX10, "fails", "(I)V"⟩
abbrev cX10_nameHere : ByteArray := prog_12_method_8_code
def yX10_nameHere : MethodName := ⟨RX10, "nameHere", "()I"⟩
abbrev cX10_step : ByteArray := prog_12_method_9_code
def yX10_step : MethodName := ⟨RX10, "step", "()V"⟩
abbrev cX10_looks : ByteArray := prog_12_method_10_code
def yX10_looks : MethodName := ⟨RX10, "looks", "(II)V"⟩
abbrev cX10_number : ByteArray := prog_12_method_11_code
def yX10_number : MethodName := ⟨RX10, "number", "(II)I"⟩
abbrev cX10_readWay : ByteArray := prog_12_method_12_code
def yX10_readWay : MethodName := ⟨RX10, "readWay", "(I)I"⟩
abbrev cX10_readCup : ByteArray := prog_12_method_13_code
def yX10_readCup : MethodName := ⟨RX10, "readCup", "(I)V"⟩
abbrev cX10_readSeconds : ByteArray := prog_12_method_14_code
def yX10_readSeconds : MethodName := ⟨RX10, "readSeconds", "(II)V"⟩
abbrev cX10_readThing : ByteArray := prog_12_method_15_code
def yX10_readThing : MethodName := ⟨RX10, "readThing", "(I)V"⟩
abbrev cX10_readLine : ByteArray := prog_12_method_16_code
def yX10_readLine : MethodName := ⟨RX10, "readLine", "()V"⟩
abbrev cX10_takes : ByteArray := prog_12_method_17_code
def yX10_takes : MethodName := ⟨RX10, "takes", "()V"⟩
abbrev cX10_organ : ByteArray := prog_12_method_18_code
def yX10_organ : MethodName := ⟨RX10, "organ", "()I"⟩
abbrev cX10_fault : ByteArray := prog_12_method_19_code
def yX10_fault : MethodName := ⟨RX10, "fault", "()I"⟩
abbrev cX10_rule : ByteArray := prog_12_method_20_code
def yX10_rule : MethodName := ⟨RX10, "rule", "(I)I"⟩
abbrev cX10_isGutter : ByteArray := prog_12_method_21_code
def yX10_isGutter : MethodName := ⟨RX10, "isGutter", "(I)Z"⟩
abbrev cX10_isSpout : ByteArray := prog_12_method_22_code
def yX10_isSpout : MethodName := ⟨RX10, "isSpout", "(I)Z"⟩
abbrev cX10_isShower : ByteArray := prog_12_method_23_code
def yX10_isShower : MethodName := ⟨RX10, "isShower", "(I)Z"⟩
abbrev cX10_gutter : ByteArray := prog_12_method_24_code
def yX10_gutter : MethodName := ⟨RX10, "gutter", "(II)I"⟩
abbrev cX10_spout : ByteArray := prog_12_method_25_code
def yX10_spout : MethodName := ⟨RX10, "spout", "(II)I"⟩
abbrev cX10_peg : ByteArray := prog_12_method_26_code
def yX10_peg : MethodName := ⟨RX10, "peg", "(II)I"⟩
abbrev cX10_block : ByteArray := prog_12_method_27_code
def yX10_block : MethodName := ⟨RX10, "block", "(IZ)I"⟩
abbrev cX10_cup : ByteArray := prog_12_method_28_code
def yX10_cup : MethodName := ⟨RX10, "cup", "(II)I"⟩
abbrev cX10_settingMany : ByteArray := prog_12_method_29_code
def yX10_settingMany : MethodName := ⟨RX10, "settingMany", "()I"⟩
abbrev cX10_settingsNow : ByteArray := prog_12_method_30_code
def yX10_settingsNow : MethodName := ⟨RX10, "settingsNow", "()I"⟩
abbrev cX10_sets : ByteArray := prog_12_method_31_code
def yX10_sets : MethodName := ⟨RX10, "sets", "(I)V"⟩
abbrev cX10_settings : ByteArray := prog_12_method_32_code
def yX10_settings : MethodName := ⟨RX10, "settings", "(I)I"⟩
abbrev cX10_leads : ByteArray := prog_12_method_33_code
def yX10_leads : MethodName := ⟨RX10, "leads", "(III)V"⟩
abbrev cX10_gutters : ByteArray := prog_12_method_34_code
def yX10_gutters : MethodName := ⟨RX10, "gutters", "(II)V"⟩
abbrev cX10_sounds : ByteArray := prog_12_method_35_code
def yX10_sounds : MethodName := ⟨RX10, "sounds", "(III)I"⟩
abbrev cX10_second : ByteArray := prog_12_method_36_code
def yX10_second : MethodName := ⟨RX10, "second", "(II)I"⟩
abbrev cX10_dries : ByteArray := prog_12_method_37_code
def yX10_dries : MethodName := ⟨RX10, "dries", "(I)V"⟩
abbrev cX10_sumOf : ByteArray := prog_12_method_38_code
def yX10_sumOf : MethodName := ⟨RX10, "sumOf", "(II)I"⟩
abbrev cX10_rain : ByteArray := prog_12_method_39_code
def yX10_rain : MethodName := ⟨RX10, "rain", "(I)I"⟩
abbrev cX10_dry : ByteArray := prog_12_method_40_code
def yX10_dry : MethodName := ⟨RX10, "dry", "()I"⟩
abbrev cX10_water : ByteArray := prog_12_method_41_code
def yX10_water : MethodName := ⟨RX10, "water", "(I)I"⟩
abbrev cX10_loud : ByteArray := prog_12_method_42_code
def yX10_loud : MethodName := ⟨RX10, "loud", "(I)I"⟩
abbrev cX10_lengthOf : ByteArray := prog_12_method_43_code
def yX10_lengthOf : MethodName := ⟨RX10, "lengthOf", "(I)I"⟩
abbrev cX10_showers : ByteArray := prog_12_method_44_code
def yX10_showers : MethodName := ⟨RX10, "showers", "(I)V"⟩
abbrev cX10_plays2 : ByteArray := prog_12_method_45_code
def yX10_plays2 : MethodName := ⟨RX10, "plays2", "(I)V"⟩
abbrev cX10_shower : ByteArray := prog_12_method_46_code
def yX10_shower : MethodName := ⟨RX10, "shower", "(II)I"⟩
abbrev cX10_plays : ByteArray := prog_12_method_47_code
def yX10_plays : MethodName := ⟨RX10, "plays", "(II)I"⟩
abbrev cX10_falls : ByteArray := prog_12_method_48_code
def yX10_falls : MethodName := ⟨RX10, "falls", "(II)I"⟩
abbrev cX10_tune : ByteArray := prog_12_method_49_code
def yX10_tune : MethodName := ⟨RX10, "tune", "(I)I"⟩
abbrev cX10_tells : ByteArray := prog_12_method_50_code
def yX10_tells : MethodName := ⟨RX10, "tells", "(II)I"⟩
abbrev cX10_bitsOf : ByteArray := prog_12_method_51_code
def yX10_bitsOf : MethodName := ⟨RX10, "bitsOf", "(I)I"⟩
abbrev cX10_farOf : ByteArray := prog_12_method_52_code
def yX10_farOf : MethodName := ⟨RX10, "farOf", "(I)I"⟩
abbrev cX10_far : ByteArray := prog_12_method_53_code
def yX10_far : MethodName := ⟨RX10, "far", "(I)I"⟩
abbrev cX10_layBest : ByteArray := prog_12_method_54_code
def yX10_layBest : MethodName := ⟨RX10, "layBest", "(I)V"⟩
abbrev cX10_best : ByteArray := prog_12_method_55_code
def yX10_best : MethodName := ⟨RX10, "best", "(II)I"⟩
abbrev cX10_unlikePegs : ByteArray := prog_12_method_56_code
def yX10_unlikePegs : MethodName := ⟨RX10, "unlikePegs", "(II)I"⟩
abbrev cX10_fewest : ByteArray := prog_12_method_57_code
def yX10_fewest : MethodName := ⟨RX10, "fewest", "(II)I"⟩
abbrev cX10_all : ByteArray := prog_12_method_58_code
def yX10_all : MethodName := ⟨RX10, "all", "(I)I"⟩
abbrev cX10_wakes : ByteArray := prog_12_method_59_code
def yX10_wakes : MethodName := ⟨RX10, "wakes", "(I)I"⟩
abbrev cX10_quiet : ByteArray := prog_12_method_60_code
def yX10_quiet : MethodName := ⟨RX10, "quiet", "(II)I"⟩
abbrev cX10_woken : ByteArray := prog_12_method_61_code
def yX10_woken : MethodName := ⟨RX10, "woken", "(I)I"⟩
abbrev cX10_heard : ByteArray := prog_12_method_62_code
def yX10_heard : MethodName := ⟨RX10, "heard", "(I)I"⟩
abbrev cX10_blocked : ByteArray := prog_12_method_63_code
def yX10_blocked : MethodName := ⟨RX10, "blocked", "(I)I"⟩
abbrev cX10_frozen : ByteArray := prog_12_method_64_code
def yX10_frozen : MethodName := ⟨RX10, "frozen", "(I)I"⟩
abbrev cX10_lasts : ByteArray := prog_12_method_65_code
def yX10_lasts : MethodName := ⟨RX10, "lasts", "(II)I"⟩
abbrev cX10_draws : ByteArray := prog_12_method_66_code
def yX10_draws : MethodName := ⟨RX10, "draws", "(IIII)I"⟩
abbrev cX10_copies : ByteArray := prog_12_method_67_code
def yX10_copies : MethodName := ⟨RX10, "copies", "(II)V"⟩
abbrev cX10_keep : ByteArray := prog_12_method_68_code
def yX10_keep : MethodName := ⟨RX10, "keep", "(I)I"⟩
abbrev cX10_back : ByteArray := prog_12_method_69_code
def yX10_back : MethodName := ⟨RX10, "back", "(I)I"⟩
abbrev cX10_sheet : ByteArray := prog_12_method_70_code
def yX10_sheet : MethodName := ⟨RX10, "sheet", "(III)I"⟩
abbrev cX10_lay : ByteArray := prog_12_method_71_code
def yX10_lay : MethodName := ⟨RX10, "lay", "(III)I"⟩
abbrev cX10_read : ByteArray := prog_12_method_72_code
def yX10_read : MethodName := ⟨RX10, "read", "(IIII)I"⟩
abbrev cX10_torn : ByteArray := prog_12_method_73_code
def yX10_torn : MethodName := ⟨RX10, "torn", "()I"⟩
abbrev cX10_count : ByteArray := prog_12_method_74_code
def yX10_count : MethodName := ⟨RX10, "count", "(I)I"⟩
def RJx145de : String := "java/io/Serializable"
def TJx145de : u_T := fun k => match k with
  | _ => ("", "", "", false)
def tyJx145de : Nat → FieldType := fun k => match k with
  | _ => .int
abbrev wsJx145de0 : List Cond := u_ws RJx145de TJx145de 0
theorem nmJx145de : ∀ a, a < 0 → ∀ b, b < 0 → a ≠ b → (TJx145de a).2.1 ≠ (TJx145de b).2.1 := by decide +kernel
theorem tyJx145de_ok : ∀ k, k < 0 → parseFieldDescriptor (TJx145de k).2.2.1 = some (tyJx145de k) := by decide +kernel
def RJx9f9b0 : String := "java/lang/CharSequence"
def TJx9f9b0 : u_T := fun k => match k with
  | _ => ("", "", "", false)
def tyJx9f9b0 : Nat → FieldType := fun k => match k with
  | _ => .int
abbrev wsJx9f9b00 : List Cond := u_ws RJx9f9b0 TJx9f9b0 0
theorem nmJx9f9b0 : ∀ a, a < 0 → ∀ b, b < 0 → a ≠ b → (TJx9f9b0 a).2.1 ≠ (TJx9f9b0 b).2.1 := by decide +kernel
theorem tyJx9f9b0_ok : ∀ k, k < 0 → parseFieldDescriptor (TJx9f9b0 k).2.2.1 = some (tyJx9f9b0 k) := by decide +kernel
def RJxb160c : String := "java/lang/Comparable"
def TJxb160c : u_T := fun k => match k with
  | _ => ("", "", "", false)
def tyJxb160c : Nat → FieldType := fun k => match k with
  | _ => .int
abbrev wsJxb160c0 : List Cond := u_ws RJxb160c TJxb160c 0
theorem nmJxb160c : ∀ a, a < 0 → ∀ b, b < 0 → a ≠ b → (TJxb160c a).2.1 ≠ (TJxb160c b).2.1 := by decide +kernel
theorem tyJxb160c_ok : ∀ k, k < 0 → parseFieldDescriptor (TJxb160c k).2.2.1 = some (tyJxb160c k) := by decide +kernel
def RJ6 : String := "java/lang/Integer"
def TJ6 : u_T := fun k => match k with
  | _ => ("", "", "", false)
def tyJ6 : Nat → FieldType := fun k => match k with
  | _ => .int
abbrev wsJ60 : List Cond := u_ws RJ6 TJ6 0
theorem nmJ6 : ∀ a, a < 0 → ∀ b, b < 0 → a ≠ b → (TJ6 a).2.1 ≠ (TJ6 b).2.1 := by decide +kernel
theorem tyJ6_ok : ∀ k, k < 0 → parseFieldDescriptor (TJ6 k).2.2.1 = some (tyJ6 k) := by decide +kernel
abbrev cJ6_bitCount_0f7a4 : ByteArray := prog_13_method_49_code
def yJ6_bitCount_0f7a4 : MethodName := ⟨RJ6, "bitCount", "(I)I"⟩
def RJ0 : String := "java/lang/String"
def TJ0 : u_T := fun k => match k with
  | _ => ("", "", "", false)
def tyJ0 : Nat → FieldType := fun k => match k with
  | _ => .int
abbrev wsJ00 : List Cond := u_ws RJ0 TJ0 0
theorem nmJ0 : ∀ a, a < 0 → ∀ b, b < 0 → a ≠ b → (TJ0 a).2.1 ≠ (TJ0 b).2.1 := by decide +kernel
theorem tyJ0_ok : ∀ k, k < 0 → parseFieldDescriptor (TJ0 k).2.2.1 = some (tyJ0 k) := by decide +kernel
abbrev cJ0_length_8abf5 : ByteArray := prog_14_method_54_code
def yJ0_length_8abf5 : MethodName := ⟨RJ0, "length", "()I"⟩
abbrev cJ0_charAt_5068e : ByteArray := prog_14_method_56_code
def yJ0_charAt_5068e : MethodName := ⟨RJ0, "charAt", "(I)C"⟩
abbrev cJ0_coder_7d493 : ByteArray := prog_14_method_152_code
def yJ0_coder_7d493 : MethodName := ⟨RJ0, "coder", "()B"⟩
abbrev cJ0_isLatin1_aae02 : ByteArray := prog_14_method_154_code
def yJ0_isLatin1_aae02 : MethodName := ⟨RJ0, "isLatin1", "()Z"⟩
abbrev cJ0_checkIndex_df160 : ByteArray := prog_14_method_155_code
def yJ0_checkIndex_df160 : MethodName := ⟨RJ0, "checkIndex", "(II)V"⟩
def RJ1 : String := "java/lang/StringLatin1"
def TJ1 : u_T := fun k => match k with
  | _ => ("", "", "", false)
def tyJ1 : Nat → FieldType := fun k => match k with
  | _ => .int
abbrev wsJ10 : List Cond := u_ws RJ1 TJ1 0
theorem nmJ1 : ∀ a, a < 0 → ∀ b, b < 0 → a ≠ b → (TJ1 a).2.1 ≠ (TJ1 b).2.1 := by decide +kernel
theorem tyJ1_ok : ∀ k, k < 0 → parseFieldDescriptor (TJ1 k).2.2.1 = some (tyJ1 k) := by decide +kernel
abbrev cJ1_charAt_3b067 : ByteArray := prog_15_method_2_code
def yJ1_charAt_3b067 : MethodName := ⟨RJ1, "charAt", "([BI)C"⟩
def RJ2 : String := "java/lang/StringUTF16"
def TJ2 : u_T := fun k => match k with
  | _ => ("", "", "", false)
def tyJ2 : Nat → FieldType := fun k => match k with
  | _ => .int
abbrev wsJ20 : List Cond := u_ws RJ2 TJ2 0
theorem nmJ2 : ∀ a, a < 0 → ∀ b, b < 0 → a ≠ b → (TJ2 a).2.1 ≠ (TJ2 b).2.1 := by decide +kernel
theorem tyJ2_ok : ∀ k, k < 0 → parseFieldDescriptor (TJ2 k).2.2.1 = some (tyJ2 k) := by decide +kernel
abbrev cJ2_getChar_3b067 : ByteArray := prog_16_method_5_code
def yJ2_getChar_3b067 : MethodName := ⟨RJ2, "getChar", "([BI)C"⟩
abbrev cJ2_length_9d52b : ByteArray := prog_16_method_6_code
def yJ2_length_9d52b : MethodName := ⟨RJ2, "length", "([B)I"⟩
abbrev cJ2_charAt_3b067 : ByteArray := prog_16_method_83_code
def yJ2_charAt_3b067 : MethodName := ⟨RJ2, "charAt", "([BI)C"⟩
abbrev cJ2_checkIndex_2214a : ByteArray := prog_16_method_91_code
def yJ2_checkIndex_2214a : MethodName := ⟨RJ2, "checkIndex", "(I[B)V"⟩
def RJ10 : String := "java/lang/System"
def TJ10 : u_T := fun k => match k with
  | _ => ("", "", "", false)
def tyJ10 : Nat → FieldType := fun k => match k with
  | _ => .int
abbrev wsJ100 : List Cond := u_ws RJ10 TJ10 0
theorem nmJ10 : ∀ a, a < 0 → ∀ b, b < 0 → a ≠ b → (TJ10 a).2.1 ≠ (TJ10 b).2.1 := by decide +kernel
theorem tyJ10_ok : ∀ k, k < 0 → parseFieldDescriptor (TJ10 k).2.2.1 = some (tyJ10 k) := by decide +kernel
def RJxfd54e : String := "java/lang/constant/Constable"
def TJxfd54e : u_T := fun k => match k with
  | _ => ("", "", "", false)
def tyJxfd54e : Nat → FieldType := fun k => match k with
  | _ => .int
abbrev wsJxfd54e0 : List Cond := u_ws RJxfd54e TJxfd54e 0
theorem nmJxfd54e : ∀ a, a < 0 → ∀ b, b < 0 → a ≠ b → (TJxfd54e a).2.1 ≠ (TJxfd54e b).2.1 := by decide +kernel
theorem tyJxfd54e_ok : ∀ k, k < 0 → parseFieldDescriptor (TJxfd54e k).2.2.1 = some (tyJxfd54e k) := by decide +kernel
def RJx3cf43 : String := "java/lang/constant/ConstantDesc"
def TJx3cf43 : u_T := fun k => match k with
  | _ => ("", "", "", false)
def tyJx3cf43 : Nat → FieldType := fun k => match k with
  | _ => .int
abbrev wsJx3cf430 : List Cond := u_ws RJx3cf43 TJx3cf43 0
theorem nmJx3cf43 : ∀ a, a < 0 → ∀ b, b < 0 → a ≠ b → (TJx3cf43 a).2.1 ≠ (TJx3cf43 b).2.1 := by decide +kernel
theorem tyJx3cf43_ok : ∀ k, k < 0 → parseFieldDescriptor (TJx3cf43 k).2.2.1 = some (tyJx3cf43 k) := by decide +kernel
def RJ7 : String := "java/util/Arrays"
def TJ7 : u_T := fun k => match k with
  | _ => ("", "", "", false)
def tyJ7 : Nat → FieldType := fun k => match k with
  | _ => .int
abbrev wsJ70 : List Cond := u_ws RJ7 TJ7 0
theorem nmJ7 : ∀ a, a < 0 → ∀ b, b < 0 → a ≠ b → (TJ7 a).2.1 ≠ (TJ7 b).2.1 := by decide +kernel
theorem tyJ7_ok : ∀ k, k < 0 → parseFieldDescriptor (TJ7 k).2.2.1 = some (tyJ7 k) := by decide +kernel
abbrev cJ7_fill_d0a16 : ByteArray := prog_18_method_101_code
def yJ7_fill_d0a16 : MethodName := ⟨RJ7, "fill", "([JJ)V"⟩
abbrev cJ7_fill_53178 : ByteArray := prog_18_method_103_code
def yJ7_fill_53178 : MethodName := ⟨RJ7, "fill", "([II)V"⟩
def RJ3 : String := "jdk/internal/util/Preconditions"
def TJ3 : u_T := fun k => match k with
  | _ => ("", "", "", false)
def tyJ3 : Nat → FieldType := fun k => match k with
  | _ => .int
abbrev wsJ30 : List Cond := u_ws RJ3 TJ3 0
theorem nmJ3 : ∀ a, a < 0 → ∀ b, b < 0 → a ≠ b → (TJ3 a).2.1 ≠ (TJ3 b).2.1 := by decide +kernel
theorem tyJ3_ok : ∀ k, k < 0 → parseFieldDescriptor (TJ3 k).2.2.1 = some (tyJ3 k) := by decide +kernel
abbrev cJ3_checkIndex_8e157 : ByteArray := prog_19_method_11_code
def yJ3_checkIndex_8e157 : MethodName := ⟨RJ3, "checkIndex", "(IILjava/util/function/BiFunction;)I"⟩
def RL : String := "RainOrganLaw"
abbrev cL_law : ByteArray := code
def yL_law : MethodName := ⟨RL, "law", "([I)Z"⟩
abbrev vwCl : List vw_C := [(RX0, TX0, 8), (RX1, TX1, 4), (RX2, TX2, 12), (RX3, TX3, 3), (RX4, TX4, 16), (RX5, TX5, 10), (RX6, TX6, 7), (RX7, TX7, 3), (RX8, TX8, 2), (RX9, TX9, 11), (RX10, TX10, 46)]
